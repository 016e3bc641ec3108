theorem ft_eq2 {μ : Nat → Nat → Int32} {L : List Nat} {fL fT : Nat → Int32} {claim what : Int32} (hg : gRow μ L fL fT) (h0 : 0 < L.length) : some (Value.int (sp_ftA fL fT L.length claim what)) = some (Value.int (sp_ft μ L claim what)) := by rw [ft_eq hg h0]
/-- the sum of the votes of the first n rules -/
def sp_vt (μ : Nat → Nat → Int32) (F : Int32 → Int32) (kd : Int32) : Nat → Int32
  | 0 => 0
  | i + 1 => sp_vt μ F kd i + (if μ 23 i = kd ∧ μ 28 i = 0 ∧ inr (F (μ 24 i)) (μ 25 i) (μ 26 i) then μ 27 i else 0)
theorem sp_vt_cg {μ : Nat → Nat → Int32} {F F' : Int32 → Int32} {kd : Int32} (h : ∀ w, F w = F' w) (n : Nat) : sp_vt μ F kd n = sp_vt μ F' kd n := by
  rw [show F = F' from funext h]
def clmS (S : mS) (e : Int32) : Int32 := sp_clm (S.2.2 3) (S.2.2 4) e (S.1 1) 0
def selS (S : mS) (e : Int32) : List Nat := sp_sel S.2.2 e (-1) (S.1 12)
def ftS (S : mS) (e what : Int32) : Int32 := sp_ft S.2.2 (selS S e) (clmS S e) what
def vtS (S : mS) (e kd : Int32) : Int32 := sp_vt S.2.2 (fun w => ftS S e w) kd (S.1 22)
theorem sp_vt_scr {μ : Nat → Nat → Int32} {f g : Nat → Int32} {F : Int32 → Int32} {kd : Int32} (n : Nat) : sp_vt (scr μ f g) F kd n = sp_vt μ F kd n := by
  induction n with
  | zero => rfl
  | succ n ih =>
    rw [sp_vt, sp_vt, ih]
    rfl
theorem vt_eq2 {cn : Nat → Nat} {sc : Nat → Int32} {μ : Nat → Nat → Int32} {e : Int32} {fL fT : Nat → Int32} {kd : Int32} (hg : gRow μ (sp_sel μ e (-1) (cn 12)) fL fT) (h0 : 0 < (sp_sel μ e (-1) (cn 12)).length) : some (Value.int (sp_vt (scr μ fL fT) (fun w => sp_ftA (scr μ fL fT 35) (scr μ fL fT 36) (va_up cn 34 (sp_sel μ e (-1) (cn 12)).length 34) (sp_clm (scr μ fL fT 3) (scr μ fL fT 4) e (va_up cn 34 (sp_sel μ e (-1) (cn 12)).length 1) 0) w) kd (va_up cn 34 (sp_sel μ e (-1) (cn 12)).length 22))) = some (Value.int (vtS (cn, sc, μ) e kd)) := by
  show some (Value.int (sp_vt (scr μ fL fT) (fun w => sp_ftA fL fT (sp_sel μ e (-1) (cn 12)).length (sp_clm (μ 3) (μ 4) e (cn 1) 0) w) kd (cn 22))) = _
  unfold vtS ftS selS clmS
  rw [sp_vt_scr, sp_vt_cg (fun w => ft_eq hg h0)]
/-- the kind with most votes above 0, of the first n -/
def sp_kd (V : Nat → Int32) : Nat → Int32 × Int32
  | 0 => (-1, 0)
  | k + 1 => (if (sp_kd V k).2 < V k then nI k else (sp_kd V k).1, if (sp_kd V k).2 < V k then V k else (sp_kd V k).2)
def cd_feature (p0 p1 : Int32) (S : mS) : Int32 := if isS (S.1 1) p0 then (if inr p1 0 2 then (if sp_hf S (S.2.2 3 (ix p0)) = 0 then 3 else 0) else 2) else 1
def an_feature (p0 p1 : Int32) (S : mS) : Int32 := ftS S (S.2.2 3 (ix p0)) p1
def st_feature (p0 p1 : Int32) (S : mS) : mS := S
def cd_votes (p0 p1 : Int32) (S : mS) : Int32 := if isS (S.1 1) p0 then (if inr p1 0 4 then (if sp_hf S (S.2.2 3 (ix p0)) = 0 then 3 else 0) else 2) else 1
def an_votes (p0 p1 : Int32) (S : mS) : Int32 := vtS S (S.2.2 3 (ix p0)) p1
def st_votes (p0 p1 : Int32) (S : mS) : mS := S
def cd_kind (p0 : Int32) (S : mS) : Int32 := if isS (S.1 1) p0 then (if sp_hf S (S.2.2 3 (ix p0)) = 0 then 2 else 0) else 1
def an_kind (p0 : Int32) (S : mS) : Int32 := (sp_kd (fun k => vtS S (S.2.2 3 (ix p0)) (nI k)) 5).1
def st_kind (p0 : Int32) (S : mS) : mS := S
/-- where a time comes among the first of f, from behind -/
def jpT (f : Nat → Int32) (t : Int32) : Nat → Nat
  | 0 => 0
  | j + 1 => if f j ≤ t then j + 1 else jpT f t j
def sp_mt (μ : Nat → Nat → Int32) (i : Nat) : Int32 := μ 31 i + sp_late μ (μ 31 i) (ix (μ 30 i))
/-- the times of an entry's minima, in order, and how many -/
def layA (μ : Nat → Nat → Int32) (e : Int32) (g : Nat → Int32) : Nat → (Nat → Int32) × Nat
  | 0 => (g, 0)
  | i + 1 => if μ 3 (ix (μ 30 i)) = e then (insA (layA μ e g i).1 (jpT (layA μ e g i).1 (sp_mt μ i) (layA μ e g i).2) (sp_mt μ i) (layA μ e g i).2, (layA μ e g i).2 + 1) else layA μ e g i
theorem layA_y {μ : Nat → Nat → Int32} {e : Int32} {g G : Nat → Int32} {i m j : Nat} (h : layA μ e g i = (G, m)) (c : μ 3 (ix (μ 30 i)) = e) (hj : jpT G (sp_mt μ i) m = j) : layA μ e g (i + 1) = (insA G j (sp_mt μ i) m, m + 1) := by
  rw [layA, if_pos c, h]
  show (insA G (jpT G (sp_mt μ i) m) (sp_mt μ i) m, m + 1) = _
  rw [hj]
theorem layA_n {μ : Nat → Nat → Int32} {e : Int32} {g : Nat → Int32} {i : Nat} {x : (Nat → Int32) × Nat} (h : layA μ e g i = x) (c : ¬ μ 3 (ix (μ 30 i)) = e) : layA μ e g (i + 1) = x := by
  rw [layA, if_neg c, h]
theorem up_rf {α : Type} {f : Nat → α} {k : Nat} : va_up f k (f k) = f := va_same
theorem sp_late_39 {μ : Nat → Nat → Int32} {g : Nat → Int32} {a : Int32} {b : Nat} : sp_late (va_up μ 39 g) a b = sp_late μ a b := rfl
theorem per_2 {P : Int32} (h : inr P 30 1000000) : ¬ 2 * P = 0 := by
  obtain ⟨a, rfl, h1, h2, h3⟩ := inr_nat h (by decide)
  have e1 : (30 : Int32).toInt = 30 := rfl
  have e2 : (1000000 : Int32).toInt = 1000000 := rfl
  rw [e1] at h1
  rw [e2] at h2
  rw [show (2 : Int32) = nI 2 from rfl, nI_mul]
  exact nI_ne0 (by omega) (by omega)
def sp_cy (g : Nat → Int32) (i : Nat) (P : Int32) : Int32 := (2 * (g i - g 0) + P) / (2 * P)
def sp_of (g : Nat → Int32) (i : Nat) (P : Int32) : Int32 := g i - g 0 - sp_cy g i P * P
theorem jpT_cg {f f' : Nat → Int32} {t : Int32} (m : Nat) (h : ∀ i, i < m → f i = f' i) : jpT f t m = jpT f' t m := by
  induction m with
  | zero => rfl
  | succ m ih => rw [jpT, jpT, h m (by omega), ih (fun i hi => h i (by omega))]
theorem jpT_le {f : Nat → Int32} {t : Int32} (m : Nat) : jpT f t m ≤ m := by
  induction m with
  | zero => exact Nat.le_refl _
  | succ m ih => rw [jpT]; split <;> omega
theorem layA_cg {μ : Nat → Nat → Int32} {e : Int32} {g g' : Nat → Int32} (n : Nat) : (layA μ e g n).2 = (layA μ e g' n).2 ∧ ∀ t, t < (layA μ e g n).2 → (layA μ e g n).1 t = (layA μ e g' n).1 t := by
  induction n with
  | zero => exact ⟨rfl, fun t h => absurd h (Nat.not_lt_zero _)⟩
  | succ n ih =>
    rw [layA, layA]
    by_cases c : μ 3 (ix (μ 30 n)) = e
    · rw [if_pos c, if_pos c]
      obtain ⟨e2, e1⟩ := ih
      dsimp only
      rw [← e2, ← jpT_cg _ e1]
      refine ⟨rfl, fun t ht => ?_⟩
      unfold insA upd shf
      by_cases q : t = jpT (layA μ e g n).1 (sp_mt μ n) (layA μ e g n).2
      · rw [if_pos q, if_pos q]
      · rw [if_neg q, if_neg q]
        by_cases g9 : jpT (layA μ e g n).1 (sp_mt μ n) (layA μ e g n).2 < t ∧ t ≤ (layA μ e g n).2
        · rw [if_pos g9, if_pos g9]
          exact e1 (t - 1) (by omega)
        · rw [if_neg g9, if_neg g9]
          exact e1 t (by
            have hq : jpT (layA μ e g n).1 (sp_mt μ n) (layA μ e g n).2 ≤ (layA μ e g n).2 := jpT_le _
            have ht2 : t < (layA μ e g n).2 + 1 := ht
            omega)
    · rw [if_neg c, if_neg c]
      exact ih
theorem layA_le {μ : Nat → Nat → Int32} {e : Int32} {g : Nat → Int32} (n : Nat) : (layA μ e g n).2 ≤ n := by
  induction n with
  | zero => exact Nat.le_refl _
  | succ n ih =>
    rw [layA]
    split
    · show _ + 1 ≤ _; omega
    · omega
theorem agr_lay {cn : Nat → Nat} {sc : Nat → Int32} {μ : Nat → Nat → Int32} {n : Nat} {v : Int32} {f : Nat → Int32} : agr (cn, sc, μ) (va_up cn 38 n, va_up sc 33 v, va_up μ 39 f) := fun k hk => ⟨(if_neg (show ¬ k = 38 by omega)).symm, (if_neg (show ¬ k = 33 by omega)).symm, (if_neg (show ¬ k = 39 by omega)).symm⟩
/-- the minima of an entry, in order of their times, and how many -/
def layS (S : mS) (e : Int32) : (Nat → Int32) × Nat := layA S.2.2 e (fun _ => 0) (S.1 29)
theorem cy_eq {μ : Nat → Nat → Int32} {e : Int32} {g g' : Nat → Int32} {n t : Nat} {P : Int32} (ht : t < (layA μ e g n).2) : sp_cy (layA μ e g n).1 t P = sp_cy (layA μ e g' n).1 t P := by
  unfold sp_cy
  rw [(layA_cg (g' := g') n).2 t ht, (layA_cg (g' := g') n).2 0 (by omega)]
theorem of_eq {μ : Nat → Nat → Int32} {e : Int32} {g g' : Nat → Int32} {n t : Nat} {P : Int32} (ht : t < (layA μ e g n).2) : sp_of (layA μ e g n).1 t P = sp_of (layA μ e g' n).1 t P := by
  unfold sp_of
  rw [cy_eq (g' := g') ht, (layA_cg (g' := g') n).2 t ht, (layA_cg (g' := g') n).2 0 (by omega)]
theorem isS_lt {n : Nat} {i : Int32} (hn : n < 2 ^ 31) (h : isS n i) : ix i < n := by
  obtain ⟨j, hj, rfl⟩ := isS_ix hn h
  rw [ix_nI (by omega)]
  exact hj
/-- how many cycles were lost between the first n and one minima -/
def sp_lost (g : Nat → Int32) (P : Int32) : Nat → Int32
  | 0 => 0
  | k + 1 => sp_lost g P k + (if 4 * absd (sp_of g (k + 1) P - sp_of g k P) ≤ P then 0 else 1)
theorem sp_lost_cg {g g' : Nat → Int32} {P : Int32} {m : Nat} (h : ∀ t, t < m → sp_of g t P = sp_of g' t P) (k : Nat) (hk : k < m) : sp_lost g P k = sp_lost g' P k := by
  induction k with
  | zero => rfl
  | succ k ih => rw [sp_lost, sp_lost, ih (by omega), h (k + 1) hk, h k (by omega)]
theorem lost_eq {μ : Nat → Nat → Int32} {e : Int32} {g g' : Nat → Int32} {n : Nat} {P : Int32} : sp_lost (layA μ e g n).1 P ((layA μ e g n).2 - 1) = sp_lost (layA μ e g' n).1 P ((layA μ e g' n).2 - 1) := by
  rw [← (layA_cg (g := g) (g' := g') n).1]
  rcases Nat.eq_zero_or_pos (layA μ e g n).2 with h | h
  · rw [h]; rfl
  · exact sp_lost_cg (fun t ht => of_eq ht) _ (by omega)
def cd_cycle (p0 p1 p2 p3 : Int32) (S : mS) : Int32 := if isS (S.1 1) p0 then (if isS (layS S (S.2.2 3 (ix p0))).2 p2 then (if inr p1 30 1000000 then 0 else 2) else 1) else 1
def an_cycle (p0 p1 p2 p3 : Int32) (S : mS) : Int32 := if p3 = 0 then sp_cy (layS S (S.2.2 3 (ix p0))).1 (ix p2) p1 else sp_of (layS S (S.2.2 3 (ix p0))).1 (ix p2) p1
def st_cycle (p0 p1 p2 p3 : Int32) (S : mS) : mS := S
def cd_lost (p0 p1 : Int32) (S : mS) : Int32 := if isS (S.1 1) p0 then (if inr p1 30 1000000 then 0 else 2) else 1
def an_lost (p0 p1 : Int32) (S : mS) : Int32 := sp_lost (layS S (S.2.2 3 (ix p0))).1 p1 ((layS S (S.2.2 3 (ix p0))).2 - 1)
def st_lost (p0 p1 : Int32) (S : mS) : mS := S
def sp_sm (f : Nat → Int32) : Nat → Int32
  | 0 => 0
  | k + 1 => sp_sm f k + f k
theorem sp_sm_cg {f g : Nat → Int32} (n : Nat) (h : ∀ i, i < n → f i = g i) : sp_sm f n = sp_sm g n := by
  induction n with
  | zero => rfl
  | succ n ih => rw [sp_sm, sp_sm, h n (by omega), ih (fun i hi => h i (by omega))]
/-- the mean light of chosen looks -/
def sp_mn (μ : Nat → Nat → Int32) (L : List Nat) : Int32 := qd (sp_sm (fun i => sp_light μ (L.getD i 0)) L.length) (nI L.length)
theorem mn_eq {μ : Nat → Nat → Int32} {L : List Nat} {fL fT : Nat → Int32} (hg : gRow μ L fL fT) : some (Value.int (qd (sp_sm fL L.length) (nI L.length))) = some (Value.int (sp_mn μ L)) := by
  unfold sp_mn
  rw [sp_sm_cg L.length (fun i hi => (hg i hi).1)]
theorem nI_gt0 {n : Nat} (h : 0 < n) (hn : n < 2 ^ 31) : 0 < nI n := by
  rw [← nI_0]
  exact nI_lt h hn
/-- how often a number can be halved, rounded down, before it is 1 -/
def hlvN : Nat → Nat → Nat
  | 0, _ => 0
  | f + 1, n => if n ≤ 1 then 0 else hlvN f (n / 2) + 1
theorem hlvN_0 {f n : Nat} (h : n ≤ 1) : hlvN f n = 0 := by
  cases f with
  | zero => rfl
  | succ f => rw [hlvN, if_pos h]
theorem hlvN_1 {f n : Nat} (h : ¬ n ≤ 1) (hf : n < 2 ^ f) : ∃ f7, f = f7 + 1 ∧ n / 2 < 2 ^ f7 ∧ hlvN f n = hlvN f7 (n / 2) + 1 := by
  cases f with
  | zero => exact absurd hf (by omega)
  | succ f => exact ⟨f, rfl, by rw [Nat.pow_succ] at hf; omega, by rw [hlvN, if_neg h]⟩
def sp_hlv (c : Int32) : Nat := hlvN 31 (ix c)
theorem Inv.ent {cn : Nat → Nat} {sc : Nat → Int32} {μ : Nat → Nat → Int32} (h : Inv (cn, sc, μ)) {p : Int32} (hp : isS (cn 1) p) : ∃ e : Nat, e < cn 1 ∧ μ 3 (ix p) = nI e := by
  have hns := h.1.1
  dsimp only at hns
  obtain ⟨j, hj, rfl⟩ := isS_ix (by omega) hp
  rw [ix_nI (by omega)]
  obtain ⟨e, he, h1, h2⟩ := (h.2.2.1 j hj).2.1
  exact ⟨e, by omega, h1⟩
def cd_mean (p0 : Int32) (S : mS) : Int32 := if isS (S.1 1) p0 then (if nI (selS S (S.2.2 3 (ix p0))).length = 0 then 2 else 0) else 1
def an_mean (p0 : Int32) (S : mS) : Int32 := sp_mn S.2.2 (selS S (S.2.2 3 (ix p0)))
def st_mean (p0 : Int32) (S : mS) : mS := S
/-- the modulus of an entry -/
def mdS (S : mS) (e : Int32) : Int32 := sp_mn S.2.2 (selS S e) - S.2.2 5 (ix e) - S.2.1 32 + 75 * nI (sp_hlv (clmS S e))
theorem md_eq2 {cn : Nat → Nat} {sc sc' : Nat → Int32} {μ : Nat → Nat → Int32} {e : Int32} {fL fT : Nat → Int32} (hg : gRow μ (sp_sel μ e (-1) (cn 12)) fL fT) (hsc : sc' 32 = sc 32) : some (Value.int (qd (sp_sm (scr μ fL fT 35) (va_up cn 34 (sp_sel μ e (-1) (cn 12)).length 34)) (nI (va_up cn 34 (sp_sel μ e (-1) (cn 12)).length 34)) - scr μ fL fT 5 (ix e) - sc' 32 + 75 * nI (sp_hlv (sp_clm (scr μ fL fT 3) (scr μ fL fT 4) e (va_up cn 34 (sp_sel μ e (-1) (cn 12)).length 1) 0)))) = some (Value.int (mdS (cn, sc, μ) e)) := by
  show some (Value.int (qd (sp_sm fL (sp_sel μ e (-1) (cn 12)).length) (nI (sp_sel μ e (-1) (cn 12)).length) - μ 5 (ix e) - sc' 32 + 75 * nI (sp_hlv (sp_clm (μ 3) (μ 4) e (cn 1) 0)))) = some (Value.int (sp_mn μ (sp_sel μ e (-1) (cn 12)) - μ 5 (ix e) - sc 32 + 75 * nI (sp_hlv (sp_clm (μ 3) (μ 4) e (cn 1) 0))))
  rw [hsc]
  unfold sp_mn
  rw [sp_sm_cg _ (fun i hi => (hg i hi).1)]
def cd_modulus (p0 : Int32) (S : mS) : Int32 := if isS (S.1 1) p0 then (if sp_hf S (S.2.2 3 (ix p0)) = 0 then 2 else 0) else 1
def an_modulus (p0 : Int32) (S : mS) : Int32 := mdS S (S.2.2 3 (ix p0))
def st_modulus (p0 : Int32) (S : mS) : mS := S
