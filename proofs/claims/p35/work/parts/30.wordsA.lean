/-- the model: which fields are rows, how long, of which kind -/
def mlen (k : Nat) : Nat := [10, 0, 12, 12, 12, 12, 8, 8, 0, 8, 8, 8, 0, 80, 80, 80, 80, 80, 80, 80, 80, 80, 0, 8, 8, 8, 8, 8, 8, 0, 30, 30, 0, 0, 0, 80, 80, 80, 0, 30, 12, 12].getD k 0
def mty (k : Nat) : Nat := if k = 21 ∨ k = 28 ∨ k = 41 then 1 else 0
/-- what of a state lasts: the fields below 33 -/
abbrev mS : Type := (Nat → Nat) × (Nat → Int32) × (Nat → Nat → Int32)
def agr (S T : mS) : Prop := ∀ k, k < 33 → S.1 k = T.1 k ∧ S.2.1 k = T.2.1 k ∧ S.2.2 k = T.2.2 k
theorem agr.rf {S : mS} : agr S S := fun _ _ => ⟨rfl, rfl, rfl⟩
abbrev ix (x : Int32) : Nat := x.toNatClampNeg
abbrev inr (a lo hi : Int32) : Prop := lo ≤ a ∧ a ≤ hi
abbrev isS (n : Nat) (i : Int32) : Prop := 0 ≤ i ∧ i < nI n
theorem isS_of {n : Nat} {i : Int32} (hn : n < 2 ^ 30) : inr i 0 (nI n - 1) ↔ isS n i := by
  constructor
  · intro h
    refine ⟨h.1, ?_⟩
    have h2 := h.2
    cases n with
    | zero =>
      exfalso
      have h3 : i ≤ -1 := by rw [nI_0] at h2; exact h2
      have h1 := h.1
      rw [i_le] at h1 h3
      have e : (-1 : Int32).toInt = -1 := rfl
      rw [i_0] at h1; omega
    | succ n =>
      rw [nI_pred] at h2
      rw [i_le, nI_toInt (by omega)] at h2
      rw [i_lt, nI_toInt (by omega)]; omega
  · intro h
    refine ⟨h.1, ?_⟩
    have h1 := h.1
    have h2 := h.2
    cases n with
    | zero => rw [nI_0] at h2; rw [i_le] at h1; rw [i_lt] at h2; rw [i_0] at h1 h2; omega
    | succ n =>
      rw [nI_pred]
      rw [i_lt, nI_toInt (by omega)] at h2
      rw [i_le, nI_toInt (by omega)]; omega
theorem isS_ix {n : Nat} {i : Int32} (hn : n < 2 ^ 31) (h : isS n i) : ∃ j, j < n ∧ i = nI j := by
  rcases pk_ix i hn with g | g | g
  · exact absurd g (Int32.not_lt.mpr h.1)
  · exact absurd g (Int32.not_le.mpr h.2)
  · exact g
theorem inr_ix {N : Nat} {i : Int32} (hN : N < 2 ^ 31) (h : inr i 0 (nI N)) : ∃ j, j ≤ N ∧ i = nI j := by
  have h1 := i_le.mp h.1
  have h2 := i_le.mp h.2
  rw [nI_toInt hN] at h2
  rw [i_0] at h1
  obtain ⟨j, hj, rfl⟩ := nI_of (x := i) (Int32.not_lt.mpr h.1)
  rw [nI_toInt hj] at h2
  exact ⟨j, by omega, rfl⟩
theorem vp_inr (N : Nat) {i : Int32} (hN : N < 2 ^ 31 - 1) (h : inr i 0 (nI N)) : vp_in i (N + 1) := by
  obtain ⟨j, hj, rfl⟩ := inr_ix (by omega) h
  exact vp_in_nI (by omega) (by omega)
theorem vp_isS {n N : Nat} {i : Int32} (hn : n ≤ N) (hN : N < 2 ^ 31) (h : isS n i) : vp_in i N := by
  obtain ⟨j, hj, rfl⟩ := isS_ix (by omega) h
  exact vp_in_nI (by omega) hN
theorem agr_thr {cn : Nat → Nat} {sc : Nat → Int32} {μ : Nat → Nat → Int32} {v : Int32} : agr (cn, sc, μ) (cn, va_up sc 33 v, μ) := fun k hk => ⟨rfl, (if_neg (show ¬ k = 33 by omega)).symm, rfl⟩
section
variable {E : hk_E} {mo : Nat} {am : Nat → Nat} {Z : Nat → Prop} {cd an : Int32} {S S' : mS} {z : Option Value} {H1 : Heap} {cn' : Nat → Nat} {sc' : Nat → Int32} {μ' : Nat → Nat → Int32}
end
def cd_comparison (p0 p1 : Int32) (S : mS) : Int32 := if inr p0 0 9 then (if inr p1 (-200) 2000 then 0 else 2) else 1
def an_comparison (p0 p1 : Int32) (S : mS) : Int32 := S.2.2 0 (ix p0)
def st_comparison (p0 p1 : Int32) (S : mS) : mS := (S.1, S.2.1, va_up S.2.2 0 (upd (S.2.2 0) (ix p0) p1))
def cd_bias (p0 p1 : Int32) (S : mS) : Int32 := if inr p0 0 7 then (if inr p1 (-99) 99 then 0 else 2) else 1
def an_bias (p0 p1 : Int32) (S : mS) : Int32 := S.2.2 6 (ix p0)
def st_bias (p0 p1 : Int32) (S : mS) : mS := (S.1, S.2.1, va_up S.2.2 6 (upd (S.2.2 6) (ix p0) p1))
def cd_clock (p0 p1 : Int32) (S : mS) : Int32 := if inr p0 0 7 then (if inr p1 (-1440) 1440 then 0 else 2) else 1
def an_clock (p0 p1 : Int32) (S : mS) : Int32 := S.2.2 7 (ix p0)
def st_clock (p0 p1 : Int32) (S : mS) : mS := (S.1, S.2.1, va_up S.2.2 7 (upd (S.2.2 7) (ix p0) p1))
def cd_star (p0 : Int32) (S : mS) : Int32 := if inr p0 0 363 then (if nI (S.1 1) = 12 then 2 else 0) else 1
def an_star (p0 : Int32) (S : mS) : Int32 := nI (S.1 1)
def st_star (p0 : Int32) (S : mS) : mS := (va_up S.1 1 (S.1 1 + 1), S.2.1, va_up (va_up S.2.2 2 (upd (S.2.2 2) (S.1 1) p0)) 3 (upd (S.2.2 3) (S.1 1) (nI (S.1 1))))
def cd_plate (p0 p1 p2 : Int32) (S : mS) : Int32 := if inr p0 0 9999999 then (if inr p1 (-500) 3000 then (if inr p2 1 20 then (if nI (S.1 8) = 8 then 2 else 0) else 1) else 1) else 1
def an_plate (p0 p1 p2 : Int32) (S : mS) : Int32 := nI (S.1 8)
def st_plate (p0 p1 p2 : Int32) (S : mS) : mS := (va_up S.1 8 (S.1 8 + 1), S.2.1, va_up (va_up (va_up S.2.2 9 (upd (S.2.2 9) (S.1 8) p0)) 10 (upd (S.2.2 10) (S.1 8) p1)) 11 (upd (S.2.2 11) (S.1 8) p2))
def cd_minimum (p0 p1 : Int32) (S : mS) : Int32 := if isS (S.1 1) p0 then (if inr p1 0 9999999 then (if nI (S.1 29) = 30 then 3 else 0) else 2) else 1
def an_minimum (p0 p1 : Int32) (S : mS) : Int32 := nI (S.1 29)
def st_minimum (p0 p1 : Int32) (S : mS) : mS := (va_up S.1 29 (S.1 29 + 1), S.2.1, va_up (va_up S.2.2 30 (upd (S.2.2 30) (S.1 29) p0)) 31 (upd (S.2.2 31) (S.1 29) p1))
def cd_rule (p0 p1 p2 p3 p4 : Int32) (S : mS) : Int32 := if inr p0 0 4 then (if inr p1 0 2 then (if inr p2 0 1000000 then (if inr p3 p2 1000000 then (if inr p4 (-9) 9 then (if p4 = 0 then 1 else (if nI (S.1 22) = 8 then 2 else 0)) else 1) else 1) else 1) else 1) else 1
def an_rule (p0 p1 p2 p3 p4 : Int32) (S : mS) : Int32 := nI (S.1 22)
def st_rule (p0 p1 p2 p3 p4 : Int32) (S : mS) : mS := (va_up S.1 22 (S.1 22 + 1), S.2.1, va_up (va_up (va_up (va_up (va_up S.2.2 23 (upd (S.2.2 23) (S.1 22) p0)) 24 (upd (S.2.2 24) (S.1 22) p1)) 25 (upd (S.2.2 25) (S.1 22) p2)) 26 (upd (S.2.2 26) (S.1 22) p3)) 27 (upd (S.2.2 27) (S.1 22) p4))
def cd_join (p0 p1 : Int32) (S : mS) : Int32 := if isS (S.1 8) p0 then (if inr p1 (-500) 3000 then 0 else 2) else 1
def an_join (p0 p1 : Int32) (S : mS) : Int32 := S.2.2 10 (ix p0)
def st_join (p0 p1 : Int32) (S : mS) : mS := (S.1, S.2.1, va_up S.2.2 10 (upd (S.2.2 10) (ix p0) p1))
def cd_claim (p0 p1 : Int32) (S : mS) : Int32 := if isS (S.1 1) p0 then (if p1 = 0 then 0 else (if inr p1 30 1000000 then 0 else 2)) else 1
def an_claim (p0 p1 : Int32) (S : mS) : Int32 := S.2.2 4 (ix p0)
def st_claim (p0 p1 : Int32) (S : mS) : mS := (S.1, S.2.1, va_up S.2.2 4 (upd (S.2.2 4) (ix p0) p1))
def mu_keeps (μ : Nat → Nat → Int32) (n : Nat) (a b c d : Int32) : Nat → Nat → Int32 := va_up (va_up (va_up (va_up (va_up μ 13 (upd (μ 13) n a)) 14 (upd (μ 14) n b)) 15 (upd (μ 15) n c)) 16 (upd (μ 16) n d)) 21 (upd (μ 21) n 0)
def cd_density (p0 p1 p2 : Int32) (S : mS) : Int32 := if isS (S.1 1) p0 then (if isS (S.1 8) p1 then (if inr p2 0 255 then (if nI (S.1 12) = 80 then 3 else 0) else 2) else 1) else 1
def an_density (p0 p1 p2 : Int32) (S : mS) : Int32 := nI (S.1 12)
def st_density (p0 p1 p2 : Int32) (S : mS) : mS := (va_up S.1 12 (S.1 12 + 1), S.2.1, mu_keeps S.2.2 (S.1 12) 1 p0 p1 p2)
def cd_doubt (p0 p1 : Int32) (S : mS) : Int32 := if isS (S.1 12) p0 then 0 else 1
def an_doubt (p0 p1 : Int32) (S : mS) : Int32 := S.2.2 21 (ix p0)
def st_doubt (p0 p1 : Int32) (S : mS) : mS := (S.1, S.2.1, va_up S.2.2 21 (upd (S.2.2 21) (ix p0) p1))
def cd_withdraw (p0 p1 : Int32) (S : mS) : Int32 := if isS (S.1 22) p0 then 0 else 1
def an_withdraw (p0 p1 : Int32) (S : mS) : Int32 := S.2.2 28 (ix p0)
def st_withdraw (p0 p1 : Int32) (S : mS) : mS := (S.1, S.2.1, va_up S.2.2 28 (upd (S.2.2 28) (ix p0) p1))
def cd_dust (p0 p1 : Int32) (S : mS) : Int32 := if isS (S.1 1) p0 then (if inr p1 0 500 then 0 else 2) else 1
def an_dust (p0 p1 : Int32) (S : mS) : Int32 := S.2.2 5 (ix p0)
def st_dust (p0 p1 : Int32) (S : mS) : mS := (S.1, S.2.1, va_up S.2.2 5 (upd (S.2.2 5) (ix p0) p1))
def cd_entry (p0 : Int32) (S : mS) : Int32 := if isS (S.1 1) p0 then 0 else 1
def an_entry (p0 : Int32) (S : mS) : Int32 := S.2.2 3 (ix p0)
def st_entry (p0 : Int32) (S : mS) : mS := S
/-- what holds of the lasting fields, whatever was called -/
def Inv (S : mS) : Prop :=
  (S.1 1 ≤ 12 ∧ S.1 8 ≤ 8 ∧ S.1 12 ≤ 80 ∧ S.1 22 ≤ 8 ∧ S.1 29 ≤ 30) ∧
  (∀ i, i < 10 → inr (S.2.2 0 i) (-200) 2000) ∧
  (∀ i, i < S.1 1 → inr (S.2.2 2 i) 0 363 ∧ (∃ e, e ≤ i ∧ S.2.2 3 i = nI e ∧ S.2.2 3 e = nI e) ∧ (S.2.2 4 i = 0 ∨ inr (S.2.2 4 i) 30 1000000)) ∧
  (∀ i, i < 8 → inr (S.2.2 6 i) (-99) 99) ∧
  (∀ i, i < S.1 8 → inr (S.2.2 9 i) 0 9999999 ∧ inr (S.2.2 10 i) (-500) 3000 ∧ inr (S.2.2 11 i) 1 20) ∧
  (∀ k, k < S.1 12 → isS (S.1 1) (S.2.2 14 k) ∧ (S.2.2 21 k = 0 ∨ S.2.2 21 k = 1) ∧
    ((S.2.2 13 k = 0 ∧ inr (S.2.2 15 k) 0 7 ∧ inr (S.2.2 16 k) 0 9999999 ∧ inr (S.2.2 17 k) 0 9 ∧ inr (S.2.2 18 k) 0 9 ∧ inr (S.2.2 19 k) 0 9 ∧ 0 < S.2.2 18 k + S.2.2 19 k ∧ inr (S.2.2 20 k) 0 9) ∨
     (S.2.2 13 k = 1 ∧ isS (S.1 8) (S.2.2 15 k) ∧ inr (S.2.2 16 k) 0 255))) ∧
  (∀ k, k < S.1 22 → (S.2.2 28 k = 0 ∨ S.2.2 28 k = 1) ∧ inr (S.2.2 24 k) 0 2) ∧
  (∀ k, k < S.1 29 → isS (S.1 1) (S.2.2 30 k) ∧ inr (S.2.2 31 k) 0 9999999)
theorem Inv.step {cn : Nat → Nat} {sc : Nat → Int32} {μ : Nat → Nat → Int32} (h : Inv (cn, sc, μ)) {k : Nat} (hk : k < cn 12) (h0 : μ 13 k = 0) : inr (μ 15 k) 0 7 ∧ inr (μ 16 k) 0 9999999 ∧ inr (μ 17 k) 0 9 ∧ inr (μ 18 k) 0 9 ∧ inr (μ 19 k) 0 9 ∧ 0 < μ 18 k + μ 19 k ∧ inr (μ 20 k) 0 9 := by
  rcases (h.2.2.2.2.2.1 k hk).2.2 with g | g
  · exact g.2
  · exact absurd (g.1.symm.trans h0) (by decide)
theorem Inv.dens {cn : Nat → Nat} {sc : Nat → Int32} {μ : Nat → Nat → Int32} (h : Inv (cn, sc, μ)) {k : Nat} (hk : k < cn 12) (h0 : ¬ μ 13 k = 0) : μ 13 k = 1 ∧ isS (cn 8) (μ 15 k) ∧ inr (μ 16 k) 0 255 := by
  rcases (h.2.2.2.2.2.1 k hk).2.2 with g | g
  · exact absurd g.1 h0
  · exact g
def sp_k (μ : Nat → Nat → Int32) (minute : Int32) (j : Nat) : Int32 := minute / 1440 + μ 2 j - (minute / 1440 + μ 2 j) / 364 * 364
def sp_late (μ : Nat → Nat → Int32) (minute : Int32) (j : Nat) : Int32 := if 364 - sp_k μ minute j ≤ sp_k μ minute j then 8 - 16 * (364 - sp_k μ minute j) / 182 else 8 - 16 * sp_k μ minute j / 182
def sp_raw (μ : Nat → Nat → Int32) (k : Nat) : Int32 := if μ 13 k = 0 then μ 0 (ix (μ 17 k)) + qd ((μ 0 (ix (μ 20 k)) - μ 0 (ix (μ 17 k))) * μ 18 k) (μ 18 k + μ 19 k) else μ 10 (ix (μ 15 k)) - μ 16 k * μ 11 (ix (μ 15 k)) / 10
def sp_light (μ : Nat → Nat → Int32) (k : Nat) : Int32 := if μ 13 k = 0 then sp_raw μ k - μ 6 (ix (μ 15 k)) else sp_raw μ k - 0
def sp_time (μ : Nat → Nat → Int32) (k : Nat) : Int32 := if μ 13 k = 0 then μ 16 k - μ 7 (ix (μ 15 k)) + sp_late μ (μ 16 k) (ix (μ 14 k)) else μ 9 (ix (μ 15 k)) - 0 + sp_late μ (μ 9 (ix (μ 15 k))) (ix (μ 14 k))
theorem agr_z {cn : Nat → Nat} {sc : Nat → Int32} {μ : Nat → Nat → Int32} {v w : Int32} : agr (cn, va_up sc 32 w, μ) (cn, va_up (va_up sc 33 v) 32 w, μ) := fun k hk => ⟨rfl, by
  show va_up sc 32 w k = va_up (va_up sc 33 v) 32 w k
  unfold va_up
  by_cases h : k = 32
  · rw [if_pos h, if_pos h]
  · rw [if_neg h, if_neg h, if_neg (by omega)], rfl⟩
def cd_zero (p0 : Int32) (S : mS) : Int32 := if inr p0 (-1000) 1000 then 0 else 1
def an_zero (p0 : Int32) (S : mS) : Int32 := S.2.1 32
def st_zero (p0 : Int32) (S : mS) : mS := (S.1, va_up S.2.1 32 p0, S.2.2)
def cd_step (p0 p1 p2 p3 p4 p5 p6 : Int32) (S : mS) : Int32 := if isS (S.1 1) p0 then (if inr p1 0 7 then (if inr p3 0 9 then (if inr p6 0 9 then (if inr p2 0 9999999 then (if inr p4 0 9 then (if inr p5 0 9 then (if p4 + p5 ≤ 0 then 2 else (if p3 = p6 then 2 else (if nI (S.1 12) = 80 then 3 else 0))) else 2) else 2) else 2) else 1) else 1) else 1) else 1
def an_step (p0 p1 p2 p3 p4 p5 p6 : Int32) (S : mS) : Int32 := nI (S.1 12)
def st_step (p0 p1 p2 p3 p4 p5 p6 : Int32) (S : mS) : mS := (va_up S.1 12 (S.1 12 + 1), S.2.1, mu_keeps (va_up (va_up (va_up (va_up S.2.2 17 (upd (S.2.2 17) (S.1 12) p3)) 18 (upd (S.2.2 18) (S.1 12) p4)) 19 (upd (S.2.2 19) (S.1 12) p5)) 20 (upd (S.2.2 20) (S.1 12) p6)) (S.1 12) 0 p0 p1 p2)
/-- the entry at a place, or how many, from star k on, m of them ahead -/
def sp_ent (f : Nat → Int32) (place : Int32) : Nat → Nat → Nat → Int32
  | 0, _, m => if place = -1 then nI m else -1
  | n + 1, k, m => if f k = nI k then (if nI m = place then nI k else sp_ent f place n (k + 1) (m + 1)) else sp_ent f place n (k + 1) m
theorem neg1_le {m : Nat} (h : m < 2 ^ 31) : (-1 : Int32) ≤ nI m := by
  rw [i_le, nI_toInt h]
  have e : (-1 : Int32).toInt = -1 := rfl
  omega
def cd_entries (p0 : Int32) (S : mS) : Int32 := if -1 ≤ p0 then 0 else 1
def an_entries (p0 : Int32) (S : mS) : Int32 := sp_ent (S.2.2 3) p0 (S.1 1) 0 0
def st_entries (p0 : Int32) (S : mS) : mS := S
/-- the lowest of n stars whose entry is e, or what was found so far -/
def sp_low (f : Nat → Int32) (e : Int32) : Nat → Int32 → Int32
  | 0, a => a
  | n + 1, a => sp_low f e n (if f n = e then nI n else a)
/-- those of the first j stars whose entry is e get v -/
def sp_ren (f : Nat → Int32) (e v : Int32) (j : Nat) : Nat → Int32 := fun i => if i < j ∧ f i = e then v else f i
theorem sp_ren_up {f : Nat → Int32} {e v : Int32} {j : Nat} : upd (sp_ren f e v j) j (if f j = e then v else f j) = sp_ren f e v (j + 1) := by
  funext i
  unfold upd sp_ren
  by_cases h : i = j
  · subst h
    rw [if_pos rfl]
    by_cases h2 : f i = e
    · rw [if_pos h2, if_pos ⟨by omega, h2⟩]
    · rw [if_neg h2, if_neg (fun g => h2 g.2)]
  · rw [if_neg h]
    by_cases h2 : i < j ∧ f i = e
    · rw [if_pos h2, if_pos ⟨by omega, h2.2⟩]
    · rw [if_neg h2, if_neg (fun g => h2 ⟨by omega, g.2⟩)]
theorem sp_ren_0 {f : Nat → Int32} {e v : Int32} : sp_ren f e v 0 = f := by
  funext i
  unfold sp_ren
  rw [if_neg (fun g => absurd g.1 (Nat.not_lt_zero _))]
theorem sp_ren_at {f : Nat → Int32} {e v : Int32} {j : Nat} : sp_ren f e v j j = f j := by
  unfold sp_ren
  rw [if_neg (fun g => absurd g.1 (Nat.lt_irrefl _))]
theorem va_up2 {α : Type} {f : Nat → α} {k : Nat} {v w : α} : va_up (va_up f k v) k w = va_up f k w := by
  funext j
  unfold va_up
  by_cases h : j = k
  · rw [if_pos h, if_pos h]
  · rw [if_neg h, if_neg h, if_neg h]
theorem va_same {α : Type} {f : Nat → α} {k : Nat} : va_up f k (f k) = f := by
  funext j
  unfold va_up
  by_cases h : j = k
  · rw [if_pos h, h]
  · rw [if_neg h]
theorem add_m1 (x : Int32) : x + (-1) = x - 1 := by rw [Int32.sub_eq_add_neg]
theorem sp_ren_w {f : Nat → Int32} {e : Int32} {j k : Nat} : sp_ren f e (f j) k j = f j := by
  unfold sp_ren
  by_cases h : j < k ∧ f j = e
  · rw [if_pos h]
  · rw [if_neg h]
/-- how many of the first n stars have entry e -/
def sp_cnt (f : Nat → Int32) (e : Int32) : Nat → Nat
  | 0 => 0
  | n + 1 => sp_cnt f e n + (if f n = e then 1 else 0)
theorem sp_cnt_le {f : Nat → Int32} {e : Int32} (n : Nat) : sp_cnt f e n ≤ n := by
  induction n with
  | zero => exact Nat.le_refl _
  | succ n ih =>
    rw [sp_cnt]
    by_cases h : f n = e
    · rw [if_pos h]; omega
    · rw [if_neg h]; omega
/-- the entries when those of e come to those of w, and then of the lowest star -/
def sp_low1 (f : Nat → Int32) (w e : Int32) (n : Nat) : Int32 := sp_low (sp_ren f e w n) w n (-1)
def sp_mrg (f : Nat → Int32) (w e : Int32) (n : Nat) : Nat → Int32 := sp_ren (sp_ren f e w n) w (sp_low1 f w e n) n
def sp_spl (f : Nat → Int32) (j : Nat) (x : Int32) (n : Nat) : Nat → Int32 := upd (sp_ren (upd f j 12) (f j) (sp_low (upd f j 12) (f j) n (-1)) n) j x
def cd_merge (p0 p1 : Int32) (S : mS) : Int32 := if isS (S.1 1) p0 then (if isS (S.1 1) p1 then (if S.2.2 3 (ix p0) = S.2.2 3 (ix p1) then 2 else 0) else 1) else 1
def an_merge (p0 p1 : Int32) (S : mS) : Int32 := sp_low1 (S.2.2 3) (S.2.2 3 (ix p0)) (S.2.2 3 (ix p1)) (S.1 1)
def st_merge (p0 p1 : Int32) (S : mS) : mS := (S.1, S.2.1, va_up S.2.2 3 (sp_mrg (S.2.2 3) (S.2.2 3 (ix p0)) (S.2.2 3 (ix p1)) (S.1 1)))
def cd_split (p0 : Int32) (S : mS) : Int32 := if isS (S.1 1) p0 then (if nI (sp_cnt (S.2.2 3) (S.2.2 3 (ix p0)) (S.1 1)) = 1 then 2 else 0) else 1
def an_split (p0 : Int32) (S : mS) : Int32 := sp_low (upd (S.2.2 3) (ix p0) 12) (S.2.2 3 (ix p0)) (S.1 1) (-1)
def st_split (p0 : Int32) (S : mS) : mS := (S.1, S.2.1, va_up S.2.2 3 (sp_spl (S.2.2 3) (ix p0) p0 (S.1 1)))
theorem sp_cnt_1 {f : Nat → Int32} {e : Int32} {k : Nat} (h : f k = e) : nI (sp_cnt f e k) + 1 = nI (sp_cnt f e (k + 1)) := by rw [sp_cnt, if_pos h, nI_1]
theorem sp_cnt_0 {f : Nat → Int32} {e : Int32} {k : Nat} (h : ¬ f k = e) : nI (sp_cnt f e k) + 0 = nI (sp_cnt f e (k + 1)) := by rw [sp_cnt, if_neg h, Nat.add_zero, Int32.add_zero]
theorem ix_nI {k : Nat} (h : k < 2 ^ 31) : ix (nI k) = k := nI_clamp h
theorem in6 {x : Int32} (h : inr x 0 5) : x = 0 ∨ x = 1 ∨ x = 2 ∨ x = 3 ∨ x = 4 ∨ x = 5 := by
  obtain ⟨j, hj, rfl⟩ := inr_ix (N := 5) (by decide) h
  have : j = 0 ∨ j = 1 ∨ j = 2 ∨ j = 3 ∨ j = 4 ∨ j = 5 := by omega
  rcases this with rfl | rfl | rfl | rfl | rfl | rfl <;> decide
def cd_look (p0 p1 : Int32) (S : mS) : Int32 := if isS (S.1 12) p0 then (if inr p1 0 5 then 0 else 2) else 1
def an_look (p0 p1 : Int32) (S : mS) : Int32 := if p1 = 0 then sp_raw S.2.2 (ix p0) else if p1 = 1 then sp_light S.2.2 (ix p0) else if p1 = 2 then sp_time S.2.2 (ix p0) else if p1 = 3 then S.2.2 14 (ix p0) else if p1 = 4 then (if S.2.2 21 (ix p0) = 0 then 0 else 1) else S.2.2 13 (ix p0)
def st_look (p0 p1 : Int32) (S : mS) : mS := S
/-- a look that belongs to one of two entries -/
abbrev selp (μ : Nat → Nat → Int32) (e1 e2 : Int32) (k : Nat) : Prop := μ 21 k = 0 ∧ (μ 3 (ix (μ 14 k)) = e1 ∨ μ 3 (ix (μ 14 k)) = e2)
/-- the first n looks' choice -/
def sp_sel (μ : Nat → Nat → Int32) (e1 e2 : Int32) : Nat → List Nat
  | 0 => []
  | n + 1 => if selp μ e1 e2 n then sp_sel μ e1 e2 n ++ [n] else sp_sel μ e1 e2 n
theorem sp_sel_le {μ : Nat → Nat → Int32} {e1 e2 : Int32} (n : Nat) : (sp_sel μ e1 e2 n).length ≤ n := by
  induction n with
  | zero => exact Nat.le_refl _
  | succ n ih =>
    rw [sp_sel]
    by_cases h : selp μ e1 e2 n
    · rw [if_pos h, List.length_append]; show _ + 1 ≤ _; omega
    · rw [if_neg h]; omega
/-- what the gathered rows hold -/
def gRow (μ : Nat → Nat → Int32) (L : List Nat) (fL fT : Nat → Int32) : Prop := ∀ i, i < L.length → fL i = sp_light μ (L.getD i 0) ∧ fT i = sp_time μ (L.getD i 0)
theorem gRow.nil {μ : Nat → Nat → Int32} {fL fT : Nat → Int32} : gRow μ [] fL fT := fun _ h => absurd h (Nat.not_lt_zero _)
theorem gRow.take {μ : Nat → Nat → Int32} {L : List Nat} {fL fT : Nat → Int32} {k : Nat} (h : gRow μ L fL fT) : gRow μ (L ++ [k]) (upd fL L.length (sp_light μ k)) (upd fT L.length (sp_time μ k)) := by
  intro i hi
  rw [List.length_append] at hi
  have hi2 : i < L.length + 1 := hi
  by_cases e : i = L.length
  · subst e
    have hg : (L ++ [k]).getD L.length 0 = k := by
      rw [List.getD_eq_getElem?_getD, List.getElem?_append_right (Nat.le_refl _), Nat.sub_self]; rfl
    rw [hg]
    exact ⟨if_pos rfl, if_pos rfl⟩
  · have hlt : i < L.length := by omega
    have hg : (L ++ [k]).getD i 0 = L.getD i 0 := by
      rw [List.getD_eq_getElem?_getD, List.getElem?_append_left hlt, ← List.getD_eq_getElem?_getD]
    rw [hg]
    have h9 := h i hlt
    exact ⟨(if_neg e).trans h9.1, (if_neg e).trans h9.2⟩
abbrev scr (μ : Nat → Nat → Int32) (f g : Nat → Int32) : Nat → Nat → Int32 := va_up (va_up μ 35 f) 36 g
theorem scr_35 {μ : Nat → Nat → Int32} {f g h : Nat → Int32} : va_up (scr μ f g) 35 h = scr μ h g := by
  funext j
  show va_up (va_up (va_up μ 35 f) 36 g) 35 h j = va_up (va_up μ 35 h) 36 g j
  unfold va_up
  by_cases h1 : j = 35
  · rw [if_pos h1, if_neg (by omega), if_pos h1]
  · rw [if_neg h1]
    by_cases h2 : j = 36
    · rw [if_pos h2, if_pos h2]
    · rw [if_neg h2, if_neg h2, if_neg h1, if_neg h1]
theorem scr_36 {μ : Nat → Nat → Int32} {f g h : Nat → Int32} : va_up (scr μ f g) 36 h = scr μ f h := va_up2
theorem scr_id {μ : Nat → Nat → Int32} : scr μ (μ 35) (μ 36) = μ := by
  funext j
  show va_up (va_up μ 35 (μ 35)) 36 (μ 36) j = μ j
  unfold va_up
  by_cases h2 : j = 36
  · rw [if_pos h2, h2]
  · rw [if_neg h2]
    by_cases h1 : j = 35
    · rw [if_pos h1, h1]
    · rw [if_neg h1]
theorem Inv.agr {S T : mS} (h : Inv S) (a : agr S T) : Inv T := by
  obtain ⟨cn, sc, μ⟩ := S
  obtain ⟨cn', sc', μ'⟩ := T
  have c : ∀ k, k < 33 → cn k = cn' k := fun k hk => (a k hk).1
  have m : ∀ k, k < 33 → μ k = μ' k := fun k hk => (a k hk).2.2
  unfold Inv at h ⊢
  dsimp only at h ⊢
  rw [← c 1 (by decide), ← c 8 (by decide), ← c 12 (by decide), ← c 22 (by decide), ← c 29 (by decide), ← m 0 (by decide), ← m 2 (by decide), ← m 3 (by decide), ← m 4 (by decide), ← m 6 (by decide), ← m 9 (by decide), ← m 10 (by decide), ← m 11 (by decide), ← m 13 (by decide), ← m 14 (by decide), ← m 15 (by decide), ← m 16 (by decide), ← m 17 (by decide), ← m 18 (by decide), ← m 19 (by decide), ← m 20 (by decide), ← m 21 (by decide), ← m 24 (by decide), ← m 28 (by decide), ← m 30 (by decide), ← m 31 (by decide)]
  exact h
theorem scr_agr {cn cn' : Nat → Nat} {sc sc' : Nat → Int32} {μ : Nat → Nat → Int32} {f g : Nat → Int32} (hc : ∀ k, k < 33 → cn k = cn' k) (hs : ∀ k, k < 33 → sc k = sc' k) : agr (cn, sc, μ) (cn', sc', scr μ f g) := fun k hk => ⟨hc k hk, hs k hk, by
  show μ k = va_up (va_up μ 35 f) 36 g k
  unfold va_up
  rw [if_neg (by omega), if_neg (by omega)]⟩
theorem up34 {cn : Nat → Nat} {m k : Nat} (hk : k < 33) : cn k = va_up cn 34 m k := (if_neg (show ¬ k = 34 by omega)).symm
theorem Inv.scr {cn : Nat → Nat} {sc : Nat → Int32} {μ : Nat → Nat → Int32} {m : Nat} {f g : Nat → Int32} (h : Inv (cn, sc, μ)) : Inv (va_up cn 34 m, sc, scr μ f g) := h.agr (scr_agr (fun _ => up34) (fun _ _ => rfl))
theorem sp_light_scr {μ : Nat → Nat → Int32} {f g : Nat → Int32} {k : Nat} : sp_light (scr μ f g) k = sp_light μ k := rfl
theorem sp_time_scr {μ : Nat → Nat → Int32} {f g : Nat → Int32} {k : Nat} : sp_time (scr μ f g) k = sp_time μ k := rfl
abbrev ahd (fT : Nat → Int32) (P : Int32) (a b : Nat) : Prop := rmd (fT a) P < rmd (fT b) P ∨ (rmd (fT a) P = rmd (fT b) P ∧ fT a < fT b)
/-- where look number x comes among those of f, from behind -/
def jpA (fT : Nat → Int32) (P : Int32) (x : Nat) (f : Nat → Int32) : Nat → Nat
  | 0 => 0
  | j + 1 => if ahd fT P x (ix (f j)) then jpA fT P x f j else j + 1
def shf (f : Nat → Int32) (j i : Nat) : Nat → Int32 := fun t => if j < t ∧ t ≤ i then f (t - 1) else f t
def insA (f : Nat → Int32) (p : Nat) (x : Int32) (i : Nat) : Nat → Int32 := upd (shf f p i) p x
def ordA (fT : Nat → Int32) (P : Int32) (g : Nat → Int32) : Nat → (Nat → Int32)
  | 0 => g
  | n + 1 => insA (ordA fT P g n) (jpA fT P n (ordA fT P g n) n) (nI n) n
theorem shf_0 {f : Nat → Int32} {i : Nat} : shf f i i = f := by
  funext t
  unfold shf
  rw [if_neg (by omega)]
theorem shf_dn {f : Nat → Int32} {j i : Nat} (h : j + 1 ≤ i) : upd (shf f (j + 1) i) (j + 1) (f j) = shf f j i := by
  funext t
  unfold upd shf
  by_cases e : t = j + 1
  · subst e
    rw [if_pos rfl, if_pos ⟨by omega, h⟩]; rfl
  · rw [if_neg e]
    by_cases g : j + 1 < t ∧ t ≤ i
    · rw [if_pos g, if_pos ⟨by omega, g.2⟩]
    · rw [if_neg g, if_neg (fun q => g ⟨by omega, q.2⟩)]
theorem shf_at {f : Nat → Int32} {j i : Nat} : shf f (j + 1) i j = f j := by
  unfold shf
  rw [if_neg (by omega)]
theorem jpA_le {fT : Nat → Int32} {P : Int32} {x : Nat} {f : Nat → Int32} (n : Nat) : jpA fT P x f n ≤ n := by
  induction n with
  | zero => exact Nat.le_refl _
  | succ n ih =>
    rw [jpA]
    by_cases h : ahd fT P x (ix (f n))
    · rw [if_pos h]; omega
    · rw [if_neg h]; omega
theorem ordA_in {fT : Nat → Int32} {P : Int32} {g : Nat → Int32} (n : Nat) : ∀ t, t < n → ∃ j : Nat, j < n ∧ ordA fT P g n t = nI j := by
  induction n with
  | zero => intro t h; exact absurd h (Nat.not_lt_zero _)
  | succ n ih =>
    intro t ht
    have hp : jpA fT P n (ordA fT P g n) n ≤ n := jpA_le n
    rw [ordA]
    unfold insA upd shf
    by_cases e : t = jpA fT P n (ordA fT P g n) n
    · exact ⟨n, by omega, by rw [if_pos e]⟩
    · rw [if_neg e]
      by_cases g9 : jpA fT P n (ordA fT P g n) n < t ∧ t ≤ n
      · rw [if_pos g9]
        obtain ⟨j, hj, h⟩ := ih (t - 1) (by omega)
        exact ⟨j, by omega, h⟩
      · rw [if_neg g9]
        obtain ⟨j, hj, h⟩ := ih t (by omega)
        exact ⟨j, by omega, h⟩
theorem vp_ord {fT : Nat → Int32} {P : Int32} {g : Nat → Int32} {n t : Nat} (ht : t < n) (hn : n ≤ 80) : vp_in (ordA fT P g n t) 80 := by
  obtain ⟨j, hj, h⟩ := ordA_in (fT := fT) (P := P) (g := g) n t ht
  rw [h]
  exact vp_in_nI (by omega) (by omega)
abbrev absd (d : Int32) : Int32 := if 0 ≤ d then d else -d
def sumA (fL o : Nat → Int32) (m : Nat) : Nat → Int32
  | 0 => 0
  | k + 1 => sumA fL o m k + absd (fL (ix (o k)) - fL (ix (o (if k + 1 = m then 0 else k + 1))))
theorem jpA_congr {fT fT' : Nat → Int32} {P : Int32} {n x : Nat} {f f' : Nat → Int32} (hx : x < n) (hT : ∀ i, i < n → fT i = fT' i) (m : Nat) (hf : ∀ t, t < m → f t = f' t ∧ ix (f' t) < n) : jpA fT P x f m = jpA fT' P x f' m := by
  induction m with
  | zero => rfl
  | succ m ih =>
    obtain ⟨e, h⟩ := hf m (Nat.lt_succ_self m)
    rw [jpA, jpA, ih (fun t ht => hf t (by omega)), e]
    unfold ahd
    rw [hT x hx, hT _ h]
theorem ordA_congr {fT fT' : Nat → Int32} {P : Int32} {n : Nat} {g g' : Nat → Int32} (hn : n < 2 ^ 31) (hT : ∀ i, i < n → fT i = fT' i) (m : Nat) (hm : m ≤ n) : ∀ t, t < m → ordA fT P g m t = ordA fT' P g' m t := by
  induction m with
  | zero => intro t h; exact absurd h (Nat.not_lt_zero _)
  | succ m ih =>
    have ih := ih (by omega)
    have hj : jpA fT P m (ordA fT P g m) m = jpA fT' P m (ordA fT' P g' m) m := jpA_congr (n := n) (by omega) hT m (fun t ht => ⟨ih t ht, by
      obtain ⟨j, hj, h⟩ := ordA_in (fT := fT') (P := P) (g := g') m t ht
      rw [h, ix_nI (by omega)]; omega⟩)
    intro t ht
    rw [ordA, ordA, ← hj]
    have hp : jpA fT P m (ordA fT P g m) m ≤ m := jpA_le m
    unfold insA upd shf
    by_cases e : t = jpA fT P m (ordA fT P g m) m
    · rw [if_pos e, if_pos e]
    · rw [if_neg e, if_neg e]
      by_cases g9 : jpA fT P m (ordA fT P g m) m < t ∧ t ≤ m
      · rw [if_pos g9, if_pos g9]
        exact ih (t - 1) (by omega)
      · rw [if_neg g9, if_neg g9]
        exact ih t (by omega)
theorem sumA_congr {fL fL' o o' : Nat → Int32} {m : Nat} (h : ∀ t, t < m → fL (ix (o t)) = fL' (ix (o' t))) (k : Nat) (hk : k ≤ m) : sumA fL o m k = sumA fL' o' m k := by
  induction k with
  | zero => rfl
  | succ k ih =>
    rw [sumA, sumA, ih (by omega), h k (by omega), h (if k + 1 = m then 0 else k + 1) (by split <;> omega)]
/-- the length of the string of chosen looks, folded by P -/
def sp_str (μ : Nat → Nat → Int32) (L : List Nat) (P : Int32) : Int32 := sumA (fun i => sp_light μ (L.getD i 0)) (ordA (fun i => sp_time μ (L.getD i 0)) P (fun _ => 0) L.length) L.length L.length
theorem str_eq {μ : Nat → Nat → Int32} {L : List Nat} {P : Int32} {fL fT g : Nat → Int32} {n : Nat} (hg : gRow μ L fL fT) (hn : n = L.length) (h8 : n ≤ 80) : some (Value.int (sumA fL (ordA fT P g n) n n)) = some (Value.int (sp_str μ L P)) := by
  subst hn
  have ho := ordA_congr (P := P) (g := g) (g' := fun _ => 0) (show L.length < 2 ^ 31 by omega) (fun i hi => (hg i hi).2) L.length (Nat.le_refl _)
  unfold sp_str
  rw [sumA_congr (fL' := fun i => sp_light μ (L.getD i 0)) (o' := ordA (fun i => sp_time μ (L.getD i 0)) P (fun _ => 0) L.length) (fun t ht => ?_) _ (Nat.le_refl _)]
  rw [ho t ht]
  obtain ⟨j, hj, h⟩ := ordA_in (fT := fun i => sp_time μ (L.getD i 0)) (P := P) (g := fun _ => 0) L.length t ht
  rw [h, ix_nI (by omega)]
  exact (hg j hj).1
theorem per_pos {x : Int32} (h : inr x 30 1000000) : 0 < x := by
  have h1 := h.1
  rw [i_le] at h1
  rw [i_lt, i_0]
  have e : (30 : Int32).toInt = 30 := rfl
  omega
theorem agr_all {cn : Nat → Nat} {sc : Nat → Int32} {μ : Nat → Nat → Int32} {n : Nat} {v : Int32} {f g o : Nat → Int32} : agr (cn, sc, μ) (va_up cn 34 n, va_up sc 33 v, va_up (scr μ f g) 37 o) := fun k hk => ⟨up34 hk, (if_neg (show ¬ k = 33 by omega)).symm, by
  show μ k = va_up (va_up (va_up μ 35 f) 36 g) 37 o k
  unfold va_up
  rw [if_neg (by omega), if_neg (by omega), if_neg (by omega)]⟩
theorem sel80 {μ : Nat → Nat → Int32} {e1 e2 : Int32} {n : Nat} (h : n ≤ 80) : (sp_sel μ e1 e2 n).length ≤ 80 := Nat.le_trans (sp_sel_le n) h
def cd_string (p0 p1 : Int32) (S : mS) : Int32 := if isS (S.1 1) p0 then (if inr p1 30 1000000 then 0 else 2) else 1
def an_string (p0 p1 : Int32) (S : mS) : Int32 := sp_str S.2.2 (sp_sel S.2.2 (S.2.2 3 (ix p0)) (-1) (S.1 12)) p1
def st_string (p0 p1 : Int32) (S : mS) : mS := S
def cd_together (p0 p1 p2 : Int32) (S : mS) : Int32 := if isS (S.1 1) p0 then (if isS (S.1 1) p1 then (if inr p2 30 1000000 then 0 else 2) else 1) else 1
def an_together (p0 p1 p2 : Int32) (S : mS) : Int32 := sp_str S.2.2 (sp_sel S.2.2 (S.2.2 3 (ix p0)) (S.2.2 3 (ix p1)) (S.1 12)) p2
def st_together (p0 p1 p2 : Int32) (S : mS) : mS := S
theorem nI_mul (a b : Nat) : nI a * nI b = nI (a * b) := (Int32.ofNat_mul a b).symm
theorem nI_sub {a b : Nat} (h : a ≤ b) : nI b - nI a = nI (b - a) := by
  have e : nI b = nI (b - a) + nI a := by rw [nI_add, Nat.sub_add_cancel h]
  rw [e, Int32.add_sub_cancel]
theorem inr_nat {x lo hi : Int32} (h : inr x lo hi) (h0 : 0 ≤ lo) : ∃ a : Nat, x = nI a ∧ lo.toInt ≤ (a : Int) ∧ (a : Int) ≤ hi.toInt ∧ a < 2 ^ 31 := by
  have h1 := i_le.mp h.1
  have h2 := i_le.mp h.2
  have h3 := i_le.mp h0
  rw [i_0] at h3
  obtain ⟨a, ha, rfl⟩ := nI_of (x := x) (fun g => by rw [i_lt, i_0] at g; omega)
  rw [nI_toInt ha] at h1 h2
  exact ⟨a, rfl, h1, h2, ha⟩
/-- how many trials, and the trials -/
def trN (fr to st : Int32) : Nat := ix ((to - fr) / st) + 1
def trI (fr st : Int32) (i : Nat) : Int32 := fr + nI i * st
def trOK (fr to st : Int32) : Prop := inr fr 30 1000000 ∧ inr to fr 1000000 ∧ inr st 1 1000000
theorem trOK.nat {fr to st : Int32} (h : trOK fr to st) : ∃ a b c : Nat, fr = nI a ∧ st = nI b ∧ to = nI c ∧ 30 ≤ a ∧ a ≤ c ∧ c ≤ 1000000 ∧ 1 ≤ b ∧ b ≤ 1000000 ∧ trN fr to st = (c - a) / b + 1 := by
  obtain ⟨a, rfl, ha1, ha2, ha3⟩ := inr_nat h.1 (by decide)
  obtain ⟨b, rfl, hb1, hb2, hb3⟩ := inr_nat h.2.2 (by decide)
  obtain ⟨c, rfl, hc1, hc2, hc3⟩ := inr_nat h.2.1 (nI_pos' ha3)
  have e1 : (30 : Int32).toInt = 30 := rfl
  have e2 : (1000000 : Int32).toInt = 1000000 := rfl
  have e3 : (1 : Int32).toInt = 1 := rfl
  rw [e1] at ha1
  rw [e2] at ha2 hb2 hc2
  rw [e3] at hb1
  rw [nI_toInt ha3] at hc1
  have hlt : (c - a) / b < 2 ^ 31 := Nat.lt_of_le_of_lt (Nat.div_le_self _ _) (by omega)
  refine ⟨a, b, c, rfl, rfl, rfl, by omega, by omega, by omega, by omega, by omega, ?_⟩
  unfold trN
  rw [nI_sub (by omega), pk_div (by omega) (by omega) (by omega), ix_nI hlt]
theorem trI_nat {a b i : Nat} : trI (nI a) (nI b) i = nI (a + i * b) := by
  unfold trI
  rw [nI_mul, nI_add]
theorem trI_0 {fr st : Int32} : trI fr st 0 = fr := by
  unfold trI
  rw [nI_0, Int32.zero_mul, Int32.add_zero]
theorem trI_1 {fr st : Int32} {i : Nat} : trI fr st i + st = trI fr st (i + 1) := by
  unfold trI
  rw [← nI_1, Int32.add_mul, Int32.one_mul, Int32.add_assoc]
theorem tr_bd {a b c i : Nat} (hb : 1 ≤ b) (hi : i ≤ (c - a) / b + 1) : i * b ≤ (c - a) + b := by
  have h1 := Nat.mul_le_mul_right b hi
  have h2 := Nat.div_mul_le_self (c - a) b
  rw [Nat.add_mul, Nat.one_mul] at h1
  omega
theorem trI_le {fr to st : Int32} (h : trOK fr to st) {i : Nat} (hi : i ≤ trN fr to st) : trI fr st i ≤ to ↔ i < trN fr to st := by
  obtain ⟨a, b, c, rfl, rfl, rfl, h1, h2, h3, h4, h5, h6⟩ := h.nat
  rw [h6] at hi ⊢
  have h7 := tr_bd h4 hi
  rw [trI_nat, nI_leI (by omega) (by omega)]
  have h8 : i ≤ (c - a) / b ↔ i * b ≤ c - a := Nat.le_div_iff_mul_le (by omega)
  omega
theorem trI_pos {fr to st : Int32} (h : trOK fr to st) {i : Nat} (hi : i ≤ trN fr to st) : 0 < trI fr st i := by
  obtain ⟨a, b, c, rfl, rfl, rfl, h1, h2, h3, h4, h5, h6⟩ := h.nat
  rw [h6] at hi
  have h7 := tr_bd h4 hi
  rw [trI_nat, ← nI_0, nI_ltI (by decide) (by omega)]
  omega
/-- what stands against trials: 0 when nothing -/
def sp_tr (S : mS) (si fr to st ok : Int32) : Int32 := if isS (S.1 1) si then (if ok = 0 then 2 else (if inr fr 30 1000000 then (if inr to fr 1000000 then (if inr st 1 1000000 then (if (to - fr) / st + 1 ≤ 200 then (if 3 ≤ nI (sp_sel S.2.2 (S.2.2 3 (ix si)) (-1) (S.1 12)).length then 0 else 3) else 2) else 2) else 2) else 2)) else 1
theorem sp_tr_0 {S : mS} {si fr to st ok : Int32} (h : sp_tr S si fr to st ok ≤ 0) : sp_tr S si fr to st ok = 0 ∧ isS (S.1 1) si ∧ trOK fr to st ∧ ok ≠ 0 := by
  unfold sp_tr at h ⊢
  by_cases h1 : isS (S.1 1) si
  · rw [if_pos h1] at h ⊢
    by_cases h2 : ok = 0
    · rw [if_pos h2] at h; exact absurd h (by decide)
    · rw [if_neg h2] at h ⊢
      by_cases h3 : inr fr 30 1000000
      · rw [if_pos h3] at h ⊢
        by_cases h4 : inr to fr 1000000
        · rw [if_pos h4] at h ⊢
          by_cases h5 : inr st 1 1000000
          · rw [if_pos h5] at h ⊢
            by_cases h6 : (to - fr) / st + 1 ≤ 200
            · rw [if_pos h6] at h ⊢
              by_cases h7 : 3 ≤ nI (sp_sel S.2.2 (S.2.2 3 (ix si)) (-1) (S.1 12)).length
              · rw [if_pos h7]; exact ⟨rfl, h1, ⟨h3, h4, h5⟩, h2⟩
              · rw [if_neg h7] at h; exact absurd h (by decide)
            · rw [if_neg h6] at h; exact absurd h (by decide)
          · rw [if_neg h5] at h; exact absurd h (by decide)
        · rw [if_neg h4] at h; exact absurd h (by decide)
      · rw [if_neg h3] at h; exact absurd h (by decide)
  · rw [if_neg h1] at h; exact absurd h (by decide)
/-- the best of the first n trials, and its string -/
def bestA (fr st : Int32) (s : Int32 → Int32) : Nat → Int32 × Int32
  | 0 => (fr, s fr)
  | i + 1 => (if s (trI fr st i) < (bestA fr st s i).2 then trI fr st i else (bestA fr st s i).1, if s (trI fr st i) < (bestA fr st s i).2 then s (trI fr st i) else (bestA fr st s i).2)
theorem bestA_in {fr st : Int32} {s : Int32 → Int32} (n : Nat) : ∃ j : Nat, j ≤ n - 1 ∧ (bestA fr st s n).1 = trI fr st j := by
  induction n with
  | zero => exact ⟨0, Nat.le_refl _, trI_0.symm⟩
  | succ n ih =>
    obtain ⟨j, hj, h⟩ := ih
    rw [bestA]
    by_cases g : s (trI fr st n) < (bestA fr st s n).2
    · exact ⟨n, by omega, if_pos g⟩
    · exact ⟨j, by omega, (if_neg g).trans h⟩
theorem agr_scr {cn : Nat → Nat} {sc : Nat → Int32} {μ : Nat → Nat → Int32} {n : Nat} {v : Int32} {f g : Nat → Int32} : agr (cn, sc, μ) (va_up cn 34 n, va_up sc 33 v, scr μ f g) := scr_agr (fun _ => up34) (fun k hk => (if_neg (show ¬ k = 33 by omega)).symm)
/-- the sign of a comparison of longs -/
def lcv (x y : Int64) : Int32 := if x > y then 1 else if x == y then 0 else -1
theorem lcv_gt {x y : Int64} : 0 < lcv x y ↔ y < x := by
  unfold lcv
  by_cases h : x > y
  · rw [if_pos h]; exact ⟨fun _ => h, fun _ => by decide⟩
  · rw [if_neg h]
    refine ⟨fun g => ?_, fun g => absurd g h⟩
    by_cases h2 : (x == y) = true
    · rw [if_pos h2] at g; exact absurd g (by decide)
    · rw [if_neg h2] at g; exact absurd g (by decide)
section
variable {p : Program} {l : Launch} {e : Env} {R : Room} {s : State} {m : MethodId} {args : Array Value} {below : List Frame} {meth : Method} {c : Code} {H : Heap} {locs : List Loc} {cells slots : Nat} {Q : State → Prop} {cc : ByteArray} {pc : Nat} {ls : Array Slot} {rest : List Value}
theorem lv_lcmp (hexec : p.tables.exec = Jvm.exec) (hb : c.code = cc) {x y : Int64} (hdg : decode cc pc = .ok (.lcmp, 1))
    (k : W p l e R s m args below meth c H locs cells slots Q (F0 m (pc + 1) ls (.int (lcv x y) :: rest))) : W p l e R s m args below meth c H locs cells slots Q (F0 m pc ls (.long y :: .long x :: rest)) := by
  intro T hT X
  obtain ⟨t, a, b⟩ := k T hT X
  refine ⟨t, ?_, b⟩
  unfold lcv at a
  by_cases h : x > y
  · rw [if_pos h] at a
    jvm_step X.here [X.here.top, hexec, hb, hdg, h]
    exact a
  · rw [if_neg h] at a
    by_cases h2 : (x == y) = true
    · rw [if_pos h2] at a
      jvm_step X.here [X.here.top, hexec, hb, hdg, h, h2]
      rw [if_pos (eq_of_beq h2)]
      exact a
    · rw [if_neg h2] at a
      jvm_step X.here [X.here.top, hexec, hb, hdg, h, h2]
      rw [if_neg (fun g => h2 (by rw [g]; exact beq_self_eq_true y))]
      exact a
end
def cd_period (p0 p1 p2 p3 : Int32) (S : mS) : Int32 := sp_tr S p0 p1 p2 p3 1
def an_period (p0 p1 p2 p3 : Int32) (S : mS) : Int32 := (bestA p1 p3 (sp_str S.2.2 (sp_sel S.2.2 (S.2.2 3 (ix p0)) (-1) (S.1 12))) (trN p1 p2 p3)).1
def st_period (p0 p1 p2 p3 : Int32) (S : mS) : mS := S
/-- how many of the first n trials, the best aside, have a string near the best one's -/
def alA (fr st pc : Int32) (s : Int32 → Int32) (b : Int32) : Nat → Int32
  | 0 => 0
  | i + 1 => alA fr st pc s b i + (if trI fr st i ≠ b ∧ ¬ (100 + pc).toInt64 * (s b).toInt64 < 100 * (s (trI fr st i)).toInt64 then 1 else 0)
def cd_aliases (p0 p1 p2 p3 p4 : Int32) (S : mS) : Int32 := sp_tr S p0 p1 p2 p3 (if inr p4 0 50 then 1 else 0)
def an_aliases (p0 p1 p2 p3 p4 : Int32) (S : mS) : Int32 := alA p1 p3 p4 (sp_str S.2.2 (sp_sel S.2.2 (S.2.2 3 (ix p0)) (-1) (S.1 12))) (bestA p1 p3 (sp_str S.2.2 (sp_sel S.2.2 (S.2.2 3 (ix p0)) (-1) (S.1 12))) (trN p1 p2 p3)).1 (trN p1 p2 p3)
def st_aliases (p0 p1 p2 p3 p4 : Int32) (S : mS) : mS := S
/-- the claim of the lowest star of an entry that has one -/
def sp_clm (f g : Nat → Int32) (e : Int32) : Nat → Int32 → Int32
  | 0, a => a
  | n + 1, a => sp_clm f g e n (if f n = e ∧ 0 < g n then g n else a)
/-- 1 when an entry has a look and a claim -/
def sp_hf (S : mS) (e : Int32) : Int32 := if 0 < nI (sp_sel S.2.2 e (-1) (S.1 12)).length ∧ 0 < sp_clm (S.2.2 3) (S.2.2 4) e (S.1 1) 0 then 1 else 0
theorem sp_hf_1 {S : mS} {e : Int32} (h : ¬ sp_hf S e = 0) : 0 < (sp_sel S.2.2 e (-1) (S.1 12)).length ∧ 0 < sp_clm (S.2.2 3) (S.2.2 4) e (S.1 1) 0 := by
  unfold sp_hf at h
  by_cases g : 0 < nI (sp_sel S.2.2 e (-1) (S.1 12)).length ∧ 0 < sp_clm (S.2.2 3) (S.2.2 4) e (S.1 1) 0
  · refine ⟨?_, g.2⟩
    rcases Nat.eq_zero_or_pos (sp_sel S.2.2 e (-1) (S.1 12)).length with h0 | h0
    · have g1 := g.1
      rw [h0] at g1
      exact absurd g1 (by decide)
    · exact h0
  · rw [if_neg g] at h
    exact absurd rfl h
/-- the brightest (by sign 1) and the faintest look among the first n and one -/
def sp_br (fL fT : Nat → Int32) : Nat → Nat
  | 0 => 0
  | n + 1 => if fL (n + 1) - fL (sp_br fL fT n) < 0 ∨ (fL (n + 1) - fL (sp_br fL fT n) = 0 ∧ fT (n + 1) < fT (sp_br fL fT n)) then n + 1 else sp_br fL fT n
def sp_fa (fL fT : Nat → Int32) : Nat → Nat
  | 0 => 0
  | n + 1 => if fL (sp_fa fL fT n) - fL (n + 1) < 0 ∨ (fL (sp_fa fL fT n) - fL (n + 1) = 0 ∧ fT (n + 1) < fT (sp_fa fL fT n)) then n + 1 else sp_fa fL fT n
theorem sp_br_le {fL fT : Nat → Int32} (n : Nat) : sp_br fL fT n ≤ n := by
  induction n with
  | zero => exact Nat.le_refl _
  | succ n ih => rw [sp_br]; split <;> omega
theorem sp_fa_le {fL fT : Nat → Int32} (n : Nat) : sp_fa fL fT n ≤ n := by
  induction n with
  | zero => exact Nat.le_refl _
  | succ n ih => rw [sp_fa]; split <;> omega
theorem sp_br_cg {fL fT fL' fT' : Nat → Int32} {m : Nat} (h : ∀ i, i < m → fL i = fL' i ∧ fT i = fT' i) (n : Nat) (hn : n < m) : sp_br fL fT n = sp_br fL' fT' n := by
  induction n with
  | zero => rfl
  | succ n ih =>
    have hb : sp_br fL' fT' n ≤ n := sp_br_le n
    rw [sp_br, sp_br, ih (by omega), (h _ hn).1, (h _ hn).2, (h (sp_br fL' fT' n) (by omega)).1, (h (sp_br fL' fT' n) (by omega)).2]
theorem sp_fa_cg {fL fT fL' fT' : Nat → Int32} {m : Nat} (h : ∀ i, i < m → fL i = fL' i ∧ fT i = fT' i) (n : Nat) (hn : n < m) : sp_fa fL fT n = sp_fa fL' fT' n := by
  induction n with
  | zero => rfl
  | succ n ih =>
    have hb : sp_fa fL' fT' n ≤ n := sp_fa_le n
    rw [sp_fa, sp_fa, ih (by omega), (h _ hn).1, (h _ hn).2, (h (sp_fa fL' fT' n) (by omega)).1, (h (sp_fa fL' fT' n) (by omega)).2]
/-- a feature of the first m of two rows -/
def sp_ftA (fL fT : Nat → Int32) (m : Nat) (claim what : Int32) : Int32 :=
  if what = 0 then fL (sp_fa fL fT (m - 1)) - fL (sp_br fL fT (m - 1)) else if what = 1 then claim else rmd (fT (sp_br fL fT (m - 1)) - fT (sp_fa fL fT (m - 1))) claim * 100 / claim
def sp_ft (μ : Nat → Nat → Int32) (L : List Nat) (claim what : Int32) : Int32 := sp_ftA (fun i => sp_light μ (L.getD i 0)) (fun i => sp_time μ (L.getD i 0)) L.length claim what
theorem ft_eq {μ : Nat → Nat → Int32} {L : List Nat} {fL fT : Nat → Int32} {claim what : Int32} (hg : gRow μ L fL fT) (h0 : 0 < L.length) : sp_ftA fL fT L.length claim what = sp_ft μ L claim what := by
  have hb := sp_br_cg hg (L.length - 1) (by omega)
  have hf := sp_fa_cg hg (L.length - 1) (by omega)
  have hb2 := sp_br_le (fL := fun i => sp_light μ (L.getD i 0)) (fT := fun i => sp_time μ (L.getD i 0)) (L.length - 1)
  have hf2 := sp_fa_le (fL := fun i => sp_light μ (L.getD i 0)) (fT := fun i => sp_time μ (L.getD i 0)) (L.length - 1)
  unfold sp_ft sp_ftA
  rw [hb, hf, (hg (sp_br _ _ _) (by omega)).1, (hg (sp_fa _ _ _) (by omega)).1, (hg (sp_br _ _ _) (by omega)).2, (hg (sp_fa _ _ _) (by omega)).2]
