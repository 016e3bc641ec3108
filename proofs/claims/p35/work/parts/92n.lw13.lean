/-! ===== each call keeps what the tables hold ===== -/
theorem vu_at {α : Type} {f : Nat → α} {k : Nat} {v : α} : va_up f k v k = v := if_pos rfl
theorem vu_ne {α : Type} {f : Nat → α} {k i : Nat} {v : α} (h : i ≠ k) : va_up f k v i = f i := if_neg h
theorem lkR_mono {S S' : mS} {v5 v7 : Int32} {k : Nat} (h : lkR S v5 v7 k) (h1 : S.1 1 ≤ S'.1 1) (h8 : S.1 8 ≤ S'.1 8) (e : ∀ i, (i = 13 ∨ i = 14 ∨ i = 15 ∨ i = 17 ∨ i = 18 ∨ i = 19 ∨ i = 20 ∨ i = 21) → S'.2.2 i k = S.2.2 i k) : lkR S' v5 v7 k := by
  obtain ⟨s, st, of, d, a1, a2, a3, a4, a5, a6, a7, a8, a9, a10, a11⟩ := h
  refine ⟨s, st, of, d, a1, by omega, a3, a4, by rw [e 13 (by simp)]; exact a5, by rw [e 14 (by simp)]; exact a6, by rw [e 15 (by simp)]; exact a7, by rw [e 21 (by simp)]; exact a8, a9, fun g => by have := a10 g; omega, fun g => ?_⟩
  obtain ⟨f, a, b, q, b1, b2, b3, b4, b5, b6, b7, b8, b9, b10⟩ := a11 g
  exact ⟨f, a, b, q, b1, b2, b3, b4, b5, by rw [e 17 (by simp)]; exact b6, by rw [e 18 (by simp)]; exact b7, by rw [e 19 (by simp)]; exact b8, by rw [e 20 (by simp)]; exact b9, b10⟩
theorem l_shl : ∀ n : Nat, n < 5 → (1 : Int32) <<< (nI n &&& 31) = nI (2 ^ n) := by decide +kernel
theorem msk_one : ∀ n : Nat, n < 4 → 2 ^ n < 16 ∧ ∀ k : Nat, k < 4 → ((2 ^ n).testBit k = true ↔ k = n) := by decide +kernel
theorem lv_comparison {S : mS} {V : Nat → Nat → Int32} (h : LV S V) {at9 : Nat} (ha : at9 < 10) {x : Int32} : LV (st_comparison (nI at9) x S) (va_up V 0 (upd (V 0) at9 x)) := by
  refine ⟨h.1, h.2.1, ?_, h.2.2.2.1, h.2.2.2.2.1, h.2.2.2.2.2.1, h.2.2.2.2.2.2.1, h.2.2.2.2.2.2.2.1, h.2.2.2.2.2.2.2.2.1, h.2.2.2.2.2.2.2.2.2.1, h.2.2.2.2.2.2.2.2.2.2⟩
  · show ∀ j, j < 10 → (upd (V 0) at9 x) j = (upd (S.2.2 0) (ix (nI at9)) x) j
    rw [ix_nI (show at9 < 2 ^ 31 by omega)]
    intro j hj
    by_cases g : j = at9
    · subst g
      rw [upd_at, upd_at]
    · rw [upd_ne g, upd_ne g]; exact h.c hj
theorem lv_bias {S : mS} {V : Nat → Nat → Int32} (h : LV S V) {at9 : Nat} (ha : at9 < 8) {x : Int32} : LV (st_bias (nI at9) x S) (va_up V 1 (upd (V 1) at9 x)) := by
  refine ⟨h.1, h.2.1, h.2.2.1, ?_, h.2.2.2.2.1, h.2.2.2.2.2.1, h.2.2.2.2.2.2.1, h.2.2.2.2.2.2.2.1, h.2.2.2.2.2.2.2.2.1, h.2.2.2.2.2.2.2.2.2.1, h.2.2.2.2.2.2.2.2.2.2⟩
  · show ∀ j, j < 8 → (upd (V 1) at9 x) j = (upd (S.2.2 6) (ix (nI at9)) x) j ∧ (V 2) j = (S.2.2 7) j
    rw [ix_nI (show at9 < 2 ^ 31 by omega)]
    intro j hj
    by_cases g : j = at9
    · subst g
      rw [upd_at, upd_at]; exact ⟨rfl, h.w hj⟩
    · rw [upd_ne g, upd_ne g]; exact ⟨h.b hj, h.w hj⟩
theorem lv_clock {S : mS} {V : Nat → Nat → Int32} (h : LV S V) {at9 : Nat} (ha : at9 < 8) {x : Int32} : LV (st_clock (nI at9) x S) (va_up V 2 (upd (V 2) at9 x)) := by
  refine ⟨h.1, h.2.1, h.2.2.1, ?_, h.2.2.2.2.1, h.2.2.2.2.2.1, h.2.2.2.2.2.2.1, h.2.2.2.2.2.2.2.1, h.2.2.2.2.2.2.2.2.1, h.2.2.2.2.2.2.2.2.2.1, h.2.2.2.2.2.2.2.2.2.2⟩
  · show ∀ j, j < 8 → (V 1) j = (S.2.2 6) j ∧ (upd (V 2) at9 x) j = (upd (S.2.2 7) (ix (nI at9)) x) j
    rw [ix_nI (show at9 < 2 ^ 31 by omega)]
    intro j hj
    by_cases g : j = at9
    · subst g
      rw [upd_at, upd_at]; exact ⟨h.b hj, rfl⟩
    · rw [upd_ne g, upd_ne g]; exact ⟨h.b hj, h.w hj⟩
theorem lv_star {S : mS} {V : Nat → Nat → Int32} (h : LV S V) (hI : InvF S) (hn : S.1 1 < 4) {x : Int32} : LV (st_star x S) (va_up (va_up V 3 (upd (upd (V 3) (4 * S.1 1) x) (4 * S.1 1 + 1) (nI (2 ^ S.1 1)))) 10 (upd (V 10) 0 (nI (S.1 1 + 1)))) := by
  refine ⟨?_, ?_, h.2.2.1, h.2.2.2.1, ?_, ?_, h.2.2.2.2.2.2.1, ?_, h.2.2.2.2.2.2.2.2.1, h.2.2.2.2.2.2.2.2.2.1, h.2.2.2.2.2.2.2.2.2.2⟩
  · show S.1 1 + 1 ≤ 4 ∧ S.1 8 ≤ 3 ∧ S.1 12 ≤ 24 ∧ S.1 22 ≤ 4 ∧ S.1 29 ≤ 8
    exact ⟨by omega, h.1.2.1, h.1.2.2.1, h.1.2.2.2.1, h.1.2.2.2.2⟩
  · show (upd (V 10) 0 (nI (S.1 1 + 1))) 0 = nI (S.1 1 + 1) ∧ (upd (V 10) 0 (nI (S.1 1 + 1))) 1 = nI (S.1 8) ∧ (upd (V 10) 0 (nI (S.1 1 + 1))) 2 = nI (S.1 12) ∧ (upd (V 10) 0 (nI (S.1 1 + 1))) 3 = nI (S.1 22) ∧ (upd (V 10) 0 (nI (S.1 1 + 1))) 4 = nI (S.1 29) ∧ (upd (V 10) 0 (nI (S.1 1 + 1))) 5 = S.2.1 32
    exact ⟨upd_at, (upd_ne (by decide)).trans h.2.1.2.1, (upd_ne (by decide)).trans h.2.1.2.2.1, (upd_ne (by decide)).trans h.2.1.2.2.2.1, (upd_ne (by decide)).trans h.2.1.2.2.2.2.1, (upd_ne (by decide)).trans h.2.1.2.2.2.2.2⟩
  · show ∀ j, j < S.1 1 + 1 → (upd (upd (V 3) (4 * S.1 1) x) (4 * S.1 1 + 1) (nI (2 ^ S.1 1))) (4 * j) = (upd (S.2.2 2) (S.1 1) x) j ∧ ∃ m, (upd (upd (V 3) (4 * S.1 1) x) (4 * S.1 1 + 1) (nI (2 ^ S.1 1))) (4 * j + 1) = nI m ∧ mskR (S.1 1 + 1) (upd (S.2.2 3) (S.1 1) (nI (S.1 1))) m ((upd (S.2.2 3) (S.1 1) (nI (S.1 1))) j) (-1)
    have hone := msk_one (S.1 1) hn
    have hneI : ∀ k, k < S.1 1 → ¬ S.2.2 3 k = nI (S.1 1) := fun k hk g => by
      obtain ⟨e, he, h1, -⟩ := (hI.1.2.2.1 k hk).2.1
      have := (nI_eq (by omega) (by omega)).mp (h1.symm.trans g)
      omega
    have hm1 : ¬ nI (S.1 1) = -1 := fun g => absurd (congrArg Int32.toInt g) (by rw [nI_toInt (by omega)]; show ¬ (S.1 1 : Int) = -1; omega)
    have hne := ent_ne hI (by omega)
    intro j hj
    by_cases g : j = S.1 1
    · rw [g]
      refine ⟨by rw [upd_ne (by omega), upd_at, upd_at], 2 ^ S.1 1, upd_at, hone.1, fun k hk => ?_⟩
      rw [hone.2 k hk, upd_at]
      constructor
      · intro e; rw [e]; exact ⟨by omega, Or.inl upd_at⟩
      · intro e
        by_cases c : k = S.1 1
        · exact c
        · rw [upd_ne c] at e
          rcases e.2 with q | q
          · exact absurd q (hneI k (by omega))
          · exact absurd q (hne k (by omega))
    · have hj2 : j < S.1 1 := by omega
      obtain ⟨m, m1, m2⟩ := h.a1 hj2
      refine ⟨by rw [upd_ne (by omega), upd_ne (by omega), upd_ne g]; exact h.a0 hj2, m, by rw [upd_ne (by omega), upd_ne (by omega)]; exact m1, m2.1, fun k hk => ?_⟩
      rw [m2.2 k hk, upd_ne g]
      constructor
      · intro e; rw [upd_ne (show k ≠ S.1 1 by omega)]; exact ⟨by omega, e.2⟩
      · intro e
        by_cases c : k = S.1 1
        · rw [c, upd_at] at e
          rcases e.2 with q | q
          · exact absurd q.symm (hneI j hj2)
          · exact absurd q hm1
        · rw [upd_ne c] at e
          exact ⟨by omega, e.2⟩
  · show ∀ j, j < 4 → (upd (upd (V 3) (4 * S.1 1) x) (4 * S.1 1 + 1) (nI (2 ^ S.1 1))) (4 * j + 2) = (S.2.2 4) j ∧ (upd (upd (V 3) (4 * S.1 1) x) (4 * S.1 1 + 1) (nI (2 ^ S.1 1))) (4 * j + 3) = (S.2.2 5) j
    intro j hj
    rw [upd_ne (by omega), upd_ne (by omega), upd_ne (by omega), upd_ne (by omega)]
    exact ⟨h.a2 hj, h.a3 hj⟩
  · show ∀ k, k < S.1 12 → (V 6) k = (S.2.2 16) k ∧ lkR (st_star x S) ((V 5) k) ((V 7) k) k
    intro k hk
    exact ⟨h.t hk, lkR_mono (h.lk hk) (show S.1 1 ≤ S.1 1 + 1 by omega) (Nat.le_refl _) (fun i hi => by rcases hi with e | e | e | e | e | e | e | e <;> subst e <;> rfl)⟩
theorem lv_plate {S : mS} {V : Nat → Nat → Int32} (h : LV S V) (hn : S.1 8 < 3) {x y z : Int32} : LV (st_plate x y z S) (va_up (va_up V 4 (upd (upd (upd (V 4) (3 * S.1 8) x) (3 * S.1 8 + 1) y) (3 * S.1 8 + 2) z)) 10 (upd (V 10) 1 (nI (S.1 8 + 1)))) := by
  refine ⟨?_, ?_, h.2.2.1, h.2.2.2.1, h.2.2.2.2.1, h.2.2.2.2.2.1, ?_, ?_, h.2.2.2.2.2.2.2.2.1, h.2.2.2.2.2.2.2.2.2.1, h.2.2.2.2.2.2.2.2.2.2⟩
  · show S.1 1 ≤ 4 ∧ S.1 8 + 1 ≤ 3 ∧ S.1 12 ≤ 24 ∧ S.1 22 ≤ 4 ∧ S.1 29 ≤ 8
    exact ⟨h.1.1, by omega, h.1.2.2.1, h.1.2.2.2.1, h.1.2.2.2.2⟩
  · show (upd (V 10) 1 (nI (S.1 8 + 1))) 0 = nI (S.1 1) ∧ (upd (V 10) 1 (nI (S.1 8 + 1))) 1 = nI (S.1 8 + 1) ∧ (upd (V 10) 1 (nI (S.1 8 + 1))) 2 = nI (S.1 12) ∧ (upd (V 10) 1 (nI (S.1 8 + 1))) 3 = nI (S.1 22) ∧ (upd (V 10) 1 (nI (S.1 8 + 1))) 4 = nI (S.1 29) ∧ (upd (V 10) 1 (nI (S.1 8 + 1))) 5 = S.2.1 32
    exact ⟨(upd_ne (by decide)).trans h.2.1.1, upd_at, (upd_ne (by decide)).trans h.2.1.2.2.1, (upd_ne (by decide)).trans h.2.1.2.2.2.1, (upd_ne (by decide)).trans h.2.1.2.2.2.2.1, (upd_ne (by decide)).trans h.2.1.2.2.2.2.2⟩
  · show ∀ j, j < S.1 8 + 1 → (upd (upd (upd (V 4) (3 * S.1 8) x) (3 * S.1 8 + 1) y) (3 * S.1 8 + 2) z) (3 * j) = (upd (S.2.2 9) (S.1 8) x) j ∧ (upd (upd (upd (V 4) (3 * S.1 8) x) (3 * S.1 8 + 1) y) (3 * S.1 8 + 2) z) (3 * j + 1) = (upd (S.2.2 10) (S.1 8) y) j ∧ (upd (upd (upd (V 4) (3 * S.1 8) x) (3 * S.1 8 + 1) y) (3 * S.1 8 + 2) z) (3 * j + 2) = (upd (S.2.2 11) (S.1 8) z) j
    intro j hj
    by_cases g : j = S.1 8
    · rw [g]
      refine ⟨?_, ?_, ?_⟩
      · rw [upd_ne (by omega), upd_ne (by omega), upd_at, upd_at]
      · rw [upd_ne (by omega), upd_at, upd_at]
      · rw [upd_at, upd_at]
    · have q := h.p (show j < S.1 8 by omega)
      refine ⟨?_, ?_, ?_⟩
      · rw [upd_ne (by omega), upd_ne (by omega), upd_ne (by omega), upd_ne g]; exact q.1
      · rw [upd_ne (by omega), upd_ne (by omega), upd_ne (by omega), upd_ne g]; exact q.2.1
      · rw [upd_ne (by omega), upd_ne (by omega), upd_ne (by omega), upd_ne g]; exact q.2.2
  · show ∀ k, k < S.1 12 → (V 6) k = (S.2.2 16) k ∧ lkR (st_plate x y z S) ((V 5) k) ((V 7) k) k
    intro k hk
    exact ⟨h.t hk, lkR_mono (h.lk hk) (Nat.le_refl _) (show S.1 8 ≤ S.1 8 + 1 by omega) (fun i hi => by rcases hi with e | e | e | e | e | e | e | e <;> subst e <;> rfl)⟩
theorem lv_join {S : mS} {V : Nat → Nat → Int32} (h : LV S V) {at9 : Nat} (ha : at9 < S.1 8) {x : Int32} : LV (st_join (nI at9) x S) (va_up V 4 (upd (V 4) (3 * at9 + 1) x)) := by
  refine ⟨h.1, h.2.1, h.2.2.1, h.2.2.2.1, h.2.2.2.2.1, h.2.2.2.2.2.1, ?_, h.2.2.2.2.2.2.2.1, h.2.2.2.2.2.2.2.2.1, h.2.2.2.2.2.2.2.2.2.1, h.2.2.2.2.2.2.2.2.2.2⟩
  · show ∀ j, j < S.1 8 → (upd (V 4) (3 * at9 + 1) x) (3 * j) = (S.2.2 9) j ∧ (upd (V 4) (3 * at9 + 1) x) (3 * j + 1) = (upd (S.2.2 10) (ix (nI at9)) x) j ∧ (upd (V 4) (3 * at9 + 1) x) (3 * j + 2) = (S.2.2 11) j
    have := h.n8
    rw [ix_nI (show at9 < 2 ^ 31 by omega)]
    intro j hj
    have q := h.p hj
    by_cases g : j = at9
    · rw [g] at q ⊢
      refine ⟨(upd_ne (by omega)).trans q.1, ?_, (upd_ne (by omega)).trans q.2.2⟩
      rw [upd_at, upd_at]
    · refine ⟨(upd_ne (by omega)).trans q.1, ?_, (upd_ne (by omega)).trans q.2.2⟩
      rw [upd_ne (by omega), upd_ne g]
      exact q.2.1
theorem lv_density {S : mS} {V : Nat → Nat → Int32} (h : LV S V) {st of : Nat} (hst : st < S.1 1) (hof : of < S.1 8) (hn : S.1 12 < 24) {x : Int32} : LV (st_density (nI st) (nI of) x S) (va_up (va_up (va_up V 5 (upd (V 5) (S.1 12) (nI (1 + 2 * st + 8 * of)))) 6 (upd (V 6) (S.1 12) x)) 10 (upd (V 10) 2 (nI (S.1 12 + 1)))) := by
  refine ⟨?_, ?_, h.2.2.1, h.2.2.2.1, h.2.2.2.2.1, h.2.2.2.2.2.1, h.2.2.2.2.2.2.1, ?_, h.2.2.2.2.2.2.2.2.1, h.2.2.2.2.2.2.2.2.2.1, h.2.2.2.2.2.2.2.2.2.2⟩
  · show S.1 1 ≤ 4 ∧ S.1 8 ≤ 3 ∧ S.1 12 + 1 ≤ 24 ∧ S.1 22 ≤ 4 ∧ S.1 29 ≤ 8
    exact ⟨h.1.1, h.1.2.1, by omega, h.1.2.2.2.1, h.1.2.2.2.2⟩
  · show (upd (V 10) 2 (nI (S.1 12 + 1))) 0 = nI (S.1 1) ∧ (upd (V 10) 2 (nI (S.1 12 + 1))) 1 = nI (S.1 8) ∧ (upd (V 10) 2 (nI (S.1 12 + 1))) 2 = nI (S.1 12 + 1) ∧ (upd (V 10) 2 (nI (S.1 12 + 1))) 3 = nI (S.1 22) ∧ (upd (V 10) 2 (nI (S.1 12 + 1))) 4 = nI (S.1 29) ∧ (upd (V 10) 2 (nI (S.1 12 + 1))) 5 = S.2.1 32
    exact ⟨(upd_ne (by decide)).trans h.2.1.1, (upd_ne (by decide)).trans h.2.1.2.1, upd_at, (upd_ne (by decide)).trans h.2.1.2.2.2.1, (upd_ne (by decide)).trans h.2.1.2.2.2.2.1, (upd_ne (by decide)).trans h.2.1.2.2.2.2.2⟩
  · show ∀ k, k < S.1 12 + 1 → (upd (V 6) (S.1 12) x) k = (upd (S.2.2 16) (S.1 12) x) k ∧ lkR (st_density (nI st) (nI of) x S) ((upd (V 5) (S.1 12) (nI (1 + 2 * st + 8 * of))) k) ((V 7) k) k
    intro k hk
    by_cases g : k = S.1 12
    · rw [g]
      refine ⟨by rw [upd_at, upd_at], 1, st, of, 0, by omega, hst, by have := h.n8; omega, by omega, upd_at, upd_at, upd_at, upd_at, by rw [upd_at]; rfl, fun _ => hof, fun g => by omega⟩
    · have hk2 : k < S.1 12 := by omega
      have q := h.lk hk2
      rw [upd_ne g, upd_ne g, upd_ne g]
      exact ⟨h.t hk2, lkR_mono q (Nat.le_refl _) (Nat.le_refl _) (fun i hi => by rcases hi with e | e | e | e | e | e | e | e <;> subst e <;> first | rfl | exact upd_ne g)⟩
theorem lv_step {S : mS} {V : Nat → Nat → Int32} (h : LV S V) {st of f a b g : Nat} (hst : st < S.1 1) (hof : of < 8) (hf : f < 10) (ha : a < 10) (hb : b < 10) (hg : g < 10) (hab : 0 < a + b) (hn : S.1 12 < 24) {x : Int32} : LV (st_step (nI st) (nI of) x (nI f) (nI a) (nI b) (nI g) S) (va_up (va_up (va_up (va_up V 5 (upd (V 5) (S.1 12) (nI (2 * st + 8 * of)))) 6 (upd (V 6) (S.1 12) x)) 7 (upd (V 7) (S.1 12) (nI (f + 10 * a + 100 * b + 1000 * g)))) 10 (upd (V 10) 2 (nI (S.1 12 + 1)))) := by
  refine ⟨?_, ?_, h.2.2.1, h.2.2.2.1, h.2.2.2.2.1, h.2.2.2.2.2.1, h.2.2.2.2.2.2.1, ?_, h.2.2.2.2.2.2.2.2.1, h.2.2.2.2.2.2.2.2.2.1, h.2.2.2.2.2.2.2.2.2.2⟩
  · show S.1 1 ≤ 4 ∧ S.1 8 ≤ 3 ∧ S.1 12 + 1 ≤ 24 ∧ S.1 22 ≤ 4 ∧ S.1 29 ≤ 8
    exact ⟨h.1.1, h.1.2.1, by omega, h.1.2.2.2.1, h.1.2.2.2.2⟩
  · show (upd (V 10) 2 (nI (S.1 12 + 1))) 0 = nI (S.1 1) ∧ (upd (V 10) 2 (nI (S.1 12 + 1))) 1 = nI (S.1 8) ∧ (upd (V 10) 2 (nI (S.1 12 + 1))) 2 = nI (S.1 12 + 1) ∧ (upd (V 10) 2 (nI (S.1 12 + 1))) 3 = nI (S.1 22) ∧ (upd (V 10) 2 (nI (S.1 12 + 1))) 4 = nI (S.1 29) ∧ (upd (V 10) 2 (nI (S.1 12 + 1))) 5 = S.2.1 32
    exact ⟨(upd_ne (by decide)).trans h.2.1.1, (upd_ne (by decide)).trans h.2.1.2.1, upd_at, (upd_ne (by decide)).trans h.2.1.2.2.2.1, (upd_ne (by decide)).trans h.2.1.2.2.2.2.1, (upd_ne (by decide)).trans h.2.1.2.2.2.2.2⟩
  · show ∀ k, k < S.1 12 + 1 → (upd (V 6) (S.1 12) x) k = (upd (S.2.2 16) (S.1 12) x) k ∧ lkR (st_step (nI st) (nI of) x (nI f) (nI a) (nI b) (nI g) S) ((upd (V 5) (S.1 12) (nI (2 * st + 8 * of))) k) ((upd (V 7) (S.1 12) (nI (f + 10 * a + 100 * b + 1000 * g))) k) k
    intro k hk
    by_cases g9 : k = S.1 12
    · rw [g9]
      refine ⟨by rw [upd_at, upd_at], 0, st, of, 0, by omega, hst, hof, by omega, upd_at, upd_at, upd_at, upd_at, by rw [upd_at]; congr 1; omega, fun g => by omega, fun _ => ⟨f, a, b, g, hf, ha, hb, hg, hab, upd_at, upd_at, upd_at, upd_at, upd_at⟩⟩
    · have hk2 : k < S.1 12 := by omega
      have q := h.lk hk2
      rw [upd_ne g9, upd_ne g9, upd_ne g9, upd_ne g9]
      exact ⟨h.t hk2, lkR_mono q (Nat.le_refl _) (Nat.le_refl _) (fun i hi => by rcases hi with e | e | e | e | e | e | e | e <;> subst e <;> first | rfl | exact upd_ne g9)⟩
theorem lv_doubt {S : mS} {V : Nat → Nat → Int32} (h : LV S V) {k9 q d : Nat} (hk9 : k9 < S.1 12) (hd : d < 2) (hq : V 5 k9 = nI q) (hq31 : q < 2 ^ 31) : LV (st_doubt (nI k9) (nI d) S) (va_up V 5 (upd (V 5) k9 (nI (q % 64 + 64 * d)))) := by
  refine ⟨h.1, h.2.1, h.2.2.1, h.2.2.2.1, h.2.2.2.2.1, h.2.2.2.2.2.1, h.2.2.2.2.2.2.1, ?_, h.2.2.2.2.2.2.2.2.1, h.2.2.2.2.2.2.2.2.2.1, h.2.2.2.2.2.2.2.2.2.2⟩
  · show ∀ k, k < S.1 12 → (V 6) k = (S.2.2 16) k ∧ lkR (st_doubt (nI k9) (nI d) S) ((upd (V 5) k9 (nI (q % 64 + 64 * d))) k) ((V 7) k) k
    have hn12 := h.n12
    have hix : ix (nI k9) = k9 := ix_nI (by omega)
    intro k hk
    refine ⟨h.t hk, ?_⟩
    by_cases g : k = k9
    · subst g
      obtain ⟨s, st, of, d0, a1, a2, a3, a4, a5, a6, a7, a8, a9, a10, a11⟩ := h.lk hk
      have hn1 := h.n1
      have e := (nI_eq hq31 (by omega)).mp (hq.symm.trans a9)
      refine ⟨s, st, of, d, a1, a2, a3, hd, a5, a6, a7, ?_, ?_, a10, a11⟩
      · show upd (S.2.2 21) (ix (nI k)) (nI d) k = nI d
        rw [hix, upd_at]
      · rw [upd_at]
        congr 1
        omega
    · rw [upd_ne g]
      refine lkR_mono (h.lk hk) (Nat.le_refl _) (Nat.le_refl _) (fun i hi => ?_)
      by_cases c : i = 21
      · subst c
        show upd (S.2.2 21) (ix (nI k9)) (nI d) k = S.2.2 21 k
        rw [hix, upd_ne g]
      · rcases hi with e | e | e | e | e | e | e | e <;> subst e <;> first | rfl | exact absurd rfl c
theorem lv_minimum {S : mS} {V : Nat → Nat → Int32} (h : LV S V) (hn : S.1 29 < 8) {x y : Int32} : LV (st_minimum x y S) (va_up (va_up V 9 (upd (upd (V 9) (2 * S.1 29) x) (2 * S.1 29 + 1) y)) 10 (upd (V 10) 4 (nI (S.1 29 + 1)))) := by
  refine ⟨?_, ?_, h.2.2.1, h.2.2.2.1, h.2.2.2.2.1, h.2.2.2.2.2.1, h.2.2.2.2.2.2.1, h.2.2.2.2.2.2.2.1, h.2.2.2.2.2.2.2.2.1, h.2.2.2.2.2.2.2.2.2.1, ?_⟩
  · show S.1 1 ≤ 4 ∧ S.1 8 ≤ 3 ∧ S.1 12 ≤ 24 ∧ S.1 22 ≤ 4 ∧ S.1 29 + 1 ≤ 8
    exact ⟨h.1.1, h.1.2.1, h.1.2.2.1, h.1.2.2.2.1, by omega⟩
  · show (upd (V 10) 4 (nI (S.1 29 + 1))) 0 = nI (S.1 1) ∧ (upd (V 10) 4 (nI (S.1 29 + 1))) 1 = nI (S.1 8) ∧ (upd (V 10) 4 (nI (S.1 29 + 1))) 2 = nI (S.1 12) ∧ (upd (V 10) 4 (nI (S.1 29 + 1))) 3 = nI (S.1 22) ∧ (upd (V 10) 4 (nI (S.1 29 + 1))) 4 = nI (S.1 29 + 1) ∧ (upd (V 10) 4 (nI (S.1 29 + 1))) 5 = S.2.1 32
    exact ⟨(upd_ne (by decide)).trans h.2.1.1, (upd_ne (by decide)).trans h.2.1.2.1, (upd_ne (by decide)).trans h.2.1.2.2.1, (upd_ne (by decide)).trans h.2.1.2.2.2.1, upd_at, (upd_ne (by decide)).trans h.2.1.2.2.2.2.2⟩
  · show ∀ j, j < S.1 29 + 1 → (upd (upd (V 9) (2 * S.1 29) x) (2 * S.1 29 + 1) y) (2 * j) = (upd (S.2.2 30) (S.1 29) x) j ∧ (upd (upd (V 9) (2 * S.1 29) x) (2 * S.1 29 + 1) y) (2 * j + 1) = (upd (S.2.2 31) (S.1 29) y) j
    intro j hj
    by_cases g : j = S.1 29
    · rw [g]
      refine ⟨?_, ?_⟩
      · rw [upd_ne (by omega), upd_at, upd_at]
      · rw [upd_at, upd_at]
    · have q := h.m (show j < S.1 29 by omega)
      refine ⟨?_, ?_⟩
      · rw [upd_ne (by omega), upd_ne (by omega), upd_ne g]; exact q.1
      · rw [upd_ne (by omega), upd_ne (by omega), upd_ne g]; exact q.2
theorem lv_ent {S : mS} {V : Nat → Nat → Int32} (h : LV S V) {f3 : Nat → Int32} {A3 : Nat → Int32} (hm : ∀ j, j < S.1 1 → ∃ m, A3 (4 * j + 1) = nI m ∧ mskR (S.1 1) f3 m (f3 j) (-1)) (he : ∀ i, (∀ j, j < 4 → i ≠ 4 * j + 1) → A3 i = V 3 i) : LV (S.1, S.2.1, va_up S.2.2 3 f3) (va_up V 3 A3) := by
  refine ⟨h.1, h.2.1, h.2.2.1, h.2.2.2.1, ?_, ?_, h.2.2.2.2.2.2.1, ?_, h.2.2.2.2.2.2.2.2.1, h.2.2.2.2.2.2.2.2.2.1, h.2.2.2.2.2.2.2.2.2.2⟩
  · show ∀ j, j < S.1 1 → A3 (4 * j) = (S.2.2 2) j ∧ ∃ m, A3 (4 * j + 1) = nI m ∧ mskR (S.1 1) f3 m (f3 j) (-1)
    intro j hj
    exact ⟨(he _ (fun k _ => by omega)).trans (h.a0 hj), hm j hj⟩
  · show ∀ j, j < 4 → A3 (4 * j + 2) = (S.2.2 4) j ∧ A3 (4 * j + 3) = (S.2.2 5) j
    intro j hj
    rw [he _ (fun k _ => by omega), he _ (fun k _ => by omega)]
    exact ⟨h.a2 hj, h.a3 hj⟩
  · show ∀ k, k < S.1 12 → (V 6) k = (S.2.2 16) k ∧ lkR (S.1, S.2.1, va_up S.2.2 3 f3) ((V 5) k) ((V 7) k) k
    intro k hk
    exact ⟨h.t hk, lkR_mono (h.lk hk) (Nat.le_refl _) (Nat.le_refl _) (fun i hi => by rcases hi with e | e | e | e | e | e | e | e <;> subst e <;> rfl)⟩
theorem lv_claim {S : mS} {V : Nat → Nat → Int32} (h : LV S V) {at9 : Nat} (ha : at9 < 4) {x : Int32} : LV (st_claim (nI at9) x S) (va_up V 3 (upd (V 3) (4 * at9 + 2) x)) := by
  refine ⟨h.1, h.2.1, h.2.2.1, h.2.2.2.1, ?_, ?_, h.2.2.2.2.2.2.1, h.2.2.2.2.2.2.2.1, h.2.2.2.2.2.2.2.2.1, h.2.2.2.2.2.2.2.2.2.1, h.2.2.2.2.2.2.2.2.2.2⟩
  · show ∀ j, j < S.1 1 → (upd (V 3) (4 * at9 + 2) x) (4 * j) = (S.2.2 2) j ∧ ∃ m, (upd (V 3) (4 * at9 + 2) x) (4 * j + 1) = nI m ∧ mskR (S.1 1) (S.2.2 3) m ((S.2.2 3) j) (-1)
    intro j hj
    rw [upd_ne (by omega), upd_ne (by omega)]
    exact ⟨h.a0 hj, h.a1 hj⟩
  · show ∀ j, j < 4 → (upd (V 3) (4 * at9 + 2) x) (4 * j + 2) = (upd (S.2.2 4) (ix (nI at9)) x) j ∧ (upd (V 3) (4 * at9 + 2) x) (4 * j + 3) = (S.2.2 5) j
    rw [ix_nI (show at9 < 2 ^ 31 by omega)]
    intro j hj
    by_cases g : j = at9
    · rw [g] at hj ⊢
      rw [upd_at, upd_at, upd_ne (by omega)]
      exact ⟨rfl, h.a3 hj⟩
    · rw [upd_ne (by omega), upd_ne g, upd_ne (by omega)]
      exact ⟨h.a2 hj, h.a3 hj⟩
theorem lv_dust {S : mS} {V : Nat → Nat → Int32} (h : LV S V) {at9 : Nat} (ha : at9 < 4) {x : Int32} : LV (st_dust (nI at9) x S) (va_up V 3 (upd (V 3) (4 * at9 + 3) x)) := by
  refine ⟨h.1, h.2.1, h.2.2.1, h.2.2.2.1, ?_, ?_, h.2.2.2.2.2.2.1, h.2.2.2.2.2.2.2.1, h.2.2.2.2.2.2.2.2.1, h.2.2.2.2.2.2.2.2.2.1, h.2.2.2.2.2.2.2.2.2.2⟩
  · show ∀ j, j < S.1 1 → (upd (V 3) (4 * at9 + 3) x) (4 * j) = (S.2.2 2) j ∧ ∃ m, (upd (V 3) (4 * at9 + 3) x) (4 * j + 1) = nI m ∧ mskR (S.1 1) (S.2.2 3) m ((S.2.2 3) j) (-1)
    intro j hj
    rw [upd_ne (by omega), upd_ne (by omega)]
    exact ⟨h.a0 hj, h.a1 hj⟩
  · show ∀ j, j < 4 → (upd (V 3) (4 * at9 + 3) x) (4 * j + 2) = (S.2.2 4) j ∧ (upd (V 3) (4 * at9 + 3) x) (4 * j + 3) = (upd (S.2.2 5) (ix (nI at9)) x) j
    rw [ix_nI (show at9 < 2 ^ 31 by omega)]
    intro j hj
    by_cases g : j = at9
    · rw [g] at hj ⊢
      rw [upd_ne (by omega), upd_at, upd_at]
      exact ⟨h.a2 hj, rfl⟩
    · rw [upd_ne (by omega), upd_ne (by omega), upd_ne g]
      exact ⟨h.a2 hj, h.a3 hj⟩
theorem lv_rule {S : mS} {V : Nat → Nat → Int32} (h : LV S V) (hn : S.1 22 < 4) {x0 x1 x2 x3 x4 : Int32} : LV (st_rule x0 x1 x2 x3 x4 S) (va_up (va_up V 8 (upd (upd (upd (upd (upd (V 8) (6 * S.1 22) x0) (6 * S.1 22 + 1) x1) (6 * S.1 22 + 2) x2) (6 * S.1 22 + 3) x3) (6 * S.1 22 + 4) x4)) 10 (upd (V 10) 3 (nI (S.1 22 + 1)))) := by
  refine ⟨?_, ?_, h.2.2.1, h.2.2.2.1, h.2.2.2.2.1, h.2.2.2.2.2.1, h.2.2.2.2.2.2.1, h.2.2.2.2.2.2.2.1, ?_, ?_, h.2.2.2.2.2.2.2.2.2.2⟩
  · show S.1 1 ≤ 4 ∧ S.1 8 ≤ 3 ∧ S.1 12 ≤ 24 ∧ S.1 22 + 1 ≤ 4 ∧ S.1 29 ≤ 8
    exact ⟨h.1.1, h.1.2.1, h.1.2.2.1, by omega, h.1.2.2.2.2⟩
  · show (upd (V 10) 3 (nI (S.1 22 + 1))) 0 = nI (S.1 1) ∧ (upd (V 10) 3 (nI (S.1 22 + 1))) 1 = nI (S.1 8) ∧ (upd (V 10) 3 (nI (S.1 22 + 1))) 2 = nI (S.1 12) ∧ (upd (V 10) 3 (nI (S.1 22 + 1))) 3 = nI (S.1 22 + 1) ∧ (upd (V 10) 3 (nI (S.1 22 + 1))) 4 = nI (S.1 29) ∧ (upd (V 10) 3 (nI (S.1 22 + 1))) 5 = S.2.1 32
    exact ⟨(upd_ne (by decide)).trans h.2.1.1, (upd_ne (by decide)).trans h.2.1.2.1, (upd_ne (by decide)).trans h.2.1.2.2.1, upd_at, (upd_ne (by decide)).trans h.2.1.2.2.2.2.1, (upd_ne (by decide)).trans h.2.1.2.2.2.2.2⟩
  · show ∀ j, j < S.1 22 + 1 → (upd (upd (upd (upd (upd (V 8) (6 * S.1 22) x0) (6 * S.1 22 + 1) x1) (6 * S.1 22 + 2) x2) (6 * S.1 22 + 3) x3) (6 * S.1 22 + 4) x4) (6 * j) = (upd (S.2.2 23) (S.1 22) x0) j ∧ (upd (upd (upd (upd (upd (V 8) (6 * S.1 22) x0) (6 * S.1 22 + 1) x1) (6 * S.1 22 + 2) x2) (6 * S.1 22 + 3) x3) (6 * S.1 22 + 4) x4) (6 * j + 1) = (upd (S.2.2 24) (S.1 22) x1) j ∧ (upd (upd (upd (upd (upd (V 8) (6 * S.1 22) x0) (6 * S.1 22 + 1) x1) (6 * S.1 22 + 2) x2) (6 * S.1 22 + 3) x3) (6 * S.1 22 + 4) x4) (6 * j + 2) = (upd (S.2.2 25) (S.1 22) x2) j ∧ (upd (upd (upd (upd (upd (V 8) (6 * S.1 22) x0) (6 * S.1 22 + 1) x1) (6 * S.1 22 + 2) x2) (6 * S.1 22 + 3) x3) (6 * S.1 22 + 4) x4) (6 * j + 3) = (upd (S.2.2 26) (S.1 22) x3) j ∧ (upd (upd (upd (upd (upd (V 8) (6 * S.1 22) x0) (6 * S.1 22 + 1) x1) (6 * S.1 22 + 2) x2) (6 * S.1 22 + 3) x3) (6 * S.1 22 + 4) x4) (6 * j + 4) = (upd (S.2.2 27) (S.1 22) x4) j
    intro j hj
    by_cases g : j = S.1 22
    · rw [g]
      refine ⟨?_, ?_, ?_, ?_, ?_⟩
      · rw [upd_ne (by omega), upd_ne (by omega), upd_ne (by omega), upd_ne (by omega), upd_at, upd_at]
      · rw [upd_ne (by omega), upd_ne (by omega), upd_ne (by omega), upd_at, upd_at]
      · rw [upd_ne (by omega), upd_ne (by omega), upd_at, upd_at]
      · rw [upd_ne (by omega), upd_at, upd_at]
      · rw [upd_at, upd_at]
    · have q := h.r (show j < S.1 22 by omega)
      refine ⟨?_, ?_, ?_, ?_, ?_⟩
      · rw [upd_ne (by omega), upd_ne (by omega), upd_ne (by omega), upd_ne (by omega), upd_ne (by omega), upd_ne g]; exact q.1
      · rw [upd_ne (by omega), upd_ne (by omega), upd_ne (by omega), upd_ne (by omega), upd_ne (by omega), upd_ne g]; exact q.2.1
      · rw [upd_ne (by omega), upd_ne (by omega), upd_ne (by omega), upd_ne (by omega), upd_ne (by omega), upd_ne g]; exact q.2.2.1
      · rw [upd_ne (by omega), upd_ne (by omega), upd_ne (by omega), upd_ne (by omega), upd_ne (by omega), upd_ne g]; exact q.2.2.2.1
      · rw [upd_ne (by omega), upd_ne (by omega), upd_ne (by omega), upd_ne (by omega), upd_ne (by omega), upd_ne g]; exact q.2.2.2.2
  · show ∀ j, j < 4 → (upd (upd (upd (upd (upd (V 8) (6 * S.1 22) x0) (6 * S.1 22 + 1) x1) (6 * S.1 22 + 2) x2) (6 * S.1 22 + 3) x3) (6 * S.1 22 + 4) x4) (6 * j + 5) = (S.2.2 28) j
    intro j hj
    rw [upd_ne (by omega), upd_ne (by omega), upd_ne (by omega), upd_ne (by omega), upd_ne (by omega)]
    exact h.r5 hj
theorem lv_withdraw {S : mS} {V : Nat → Nat → Int32} (h : LV S V) {at9 : Nat} (ha : at9 < 4) {x : Int32} : LV (st_withdraw (nI at9) x S) (va_up V 8 (upd (V 8) (6 * at9 + 5) x)) := by
  refine ⟨h.1, h.2.1, h.2.2.1, h.2.2.2.1, h.2.2.2.2.1, h.2.2.2.2.2.1, h.2.2.2.2.2.2.1, h.2.2.2.2.2.2.2.1, ?_, ?_, h.2.2.2.2.2.2.2.2.2.2⟩
  · show ∀ j, j < S.1 22 → (upd (V 8) (6 * at9 + 5) x) (6 * j) = (S.2.2 23) j ∧ (upd (V 8) (6 * at9 + 5) x) (6 * j + 1) = (S.2.2 24) j ∧ (upd (V 8) (6 * at9 + 5) x) (6 * j + 2) = (S.2.2 25) j ∧ (upd (V 8) (6 * at9 + 5) x) (6 * j + 3) = (S.2.2 26) j ∧ (upd (V 8) (6 * at9 + 5) x) (6 * j + 4) = (S.2.2 27) j
    intro j hj
    rw [upd_ne (by omega), upd_ne (by omega), upd_ne (by omega), upd_ne (by omega), upd_ne (by omega)]
    exact h.r hj
  · show ∀ j, j < 4 → (upd (V 8) (6 * at9 + 5) x) (6 * j + 5) = (upd (S.2.2 28) (ix (nI at9)) x) j
    rw [ix_nI (show at9 < 2 ^ 31 by omega)]
    intro j hj
    by_cases g : j = at9
    · rw [g, upd_at, upd_at]
    · rw [upd_ne (by omega), upd_ne g]; exact h.r5 hj
theorem lv_zero {S : mS} {V : Nat → Nat → Int32} (h : LV S V) {x : Int32} : LV (st_zero x S) (va_up V 10 (upd (V 10) 5 x)) := by
  refine ⟨h.1, ?_, h.2.2.1, h.2.2.2.1, h.2.2.2.2.1, h.2.2.2.2.2.1, h.2.2.2.2.2.2.1, h.2.2.2.2.2.2.2.1, h.2.2.2.2.2.2.2.2.1, h.2.2.2.2.2.2.2.2.2.1, h.2.2.2.2.2.2.2.2.2.2⟩
  · show (upd (V 10) 5 x) 0 = nI (S.1 1) ∧ (upd (V 10) 5 x) 1 = nI (S.1 8) ∧ (upd (V 10) 5 x) 2 = nI (S.1 12) ∧ (upd (V 10) 5 x) 3 = nI (S.1 22) ∧ (upd (V 10) 5 x) 4 = nI (S.1 29) ∧ (upd (V 10) 5 x) 5 = x
    exact ⟨(upd_ne (by decide)).trans h.2.1.1, (upd_ne (by decide)).trans h.2.1.2.1, (upd_ne (by decide)).trans h.2.1.2.2.1, (upd_ne (by decide)).trans h.2.1.2.2.2.1, (upd_ne (by decide)).trans h.2.1.2.2.2.2.1, upd_at⟩
