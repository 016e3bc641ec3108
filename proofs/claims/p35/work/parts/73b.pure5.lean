/-! ===== trials ===== -/
theorem bestA_hbr {fr st : Int32} {s : Int32 → Int32} : ∀ n, bestA fr st s (n + 1) = (trI fr st (hbr (fun i => s (trI fr st i)) n), s (trI fr st (hbr (fun i => s (trI fr st i)) n))) := by
  intro n
  induction n with
  | zero =>
    show (if s (trI fr st 0) < s fr then trI fr st 0 else fr, if s (trI fr st 0) < s fr then s (trI fr st 0) else s fr) = (trI fr st 0, s (trI fr st 0))
    rw [trI_0, if_neg (Int32.lt_irrefl), if_neg (Int32.lt_irrefl)]
  | succ n ih =>
    rw [bestA, ih, hbr]
    by_cases c : s (trI fr st (n + 1)) < s (trI fr st (hbr (fun i => s (trI fr st i)) n))
    · rw [if_pos c, if_pos c, if_pos c]
    · rw [if_neg c, if_neg c, if_neg c]
theorem hbr_pred {v : Nat → Int32} (n : Nat) : hbr v n = (if v n < v (hbr v (n - 1)) then n else hbr v (n - 1)) := by
  cases n with
  | zero => show 0 = if v 0 < v 0 then 0 else 0; rw [if_neg Int32.lt_irrefl]
  | succ n => rfl
theorem hbr_cong {v v' : Nat → Int32} : ∀ n, (∀ i, i ≤ n → v i = v' i) → hbr v n = hbr v' n := by
  intro n
  induction n with
  | zero => intro _; rfl
  | succ n ih =>
    intro h
    have e := ih (fun i hi => h i (by omega))
    have hle := (hbr_spec (v := v') n).1
    rw [hbr, hbr, e, h (n + 1) (Nat.le_refl _), h (hbr v' n) (by omega)]
theorem tr_yes {fr to st : Int32} (h : trOK fr to st) : (to - fr) / st + 1 = nI (trN fr to st) ∧ 1 ≤ trN fr to st ∧ trN fr to st < 2000000 ∧ qd (to - fr) st = (to - fr) / st ∧ 0 < st := by
  obtain ⟨a, b, c, e1, e2, e3, h1, h2, h3, h4, h5, h6⟩ := h.nat
  have hle : (c - a) / b ≤ c - a := Nat.div_le_self _ _
  have e4 : (to - fr) / st = nI ((c - a) / b) := by rw [e1, e2, e3, pk_sub (by omega), pk_div (by omega) (by omega) (by omega)]
  have hp : (0 : Int32) < st := by rw [e2, show (0 : Int32) = nI 0 from rfl]; exact nI_lt (by omega) (by omega)
  refine ⟨by rw [e4, h6, nI_1], by rw [h6]; exact Nat.le_add_left 1 _, by rw [h6]; exact Nat.lt_of_le_of_lt (Nat.add_le_add_right hle 1) (by omega), ?_, hp⟩
  refine qd_pos hp ?_
  rw [e1, e3, pk_sub (by omega)]
  exact nI_pos' (by omega)
theorem sp_tr_no {S : mS} {si fr to st ok : Int32} (h1 : isS (S.1 1) si) (h2 : ok = 0 ∨ ¬ (trOK fr to st ∧ (to - fr) / st + 1 ≤ 200)) : sp_tr S si fr to st ok = 2 := by
  unfold sp_tr
  rw [if_pos h1]
  by_cases c0 : ok = 0
  · rw [if_pos c0]
  · rw [if_neg c0]
    have h3 := h2.resolve_left c0
    by_cases c1 : inr fr 30 1000000
    · rw [if_pos c1]
      by_cases c2 : inr to fr 1000000
      · rw [if_pos c2]
        by_cases c3 : inr st 1 1000000
        · rw [if_pos c3]
          by_cases c4 : (to - fr) / st + 1 ≤ 200
          · exact absurd ⟨⟨c1, c2, c3⟩, c4⟩ h3
          · rw [if_neg c4]
        · rw [if_neg c3]
      · rw [if_neg c2]
    · rw [if_neg c1]
theorem sp_tr_yes {S : mS} {si fr to st ok : Int32} (h1 : isS (S.1 1) si) (h2 : ok ≠ 0) (h3 : trOK fr to st) (h4 : (to - fr) / st + 1 ≤ 200) : sp_tr S si fr to st ok = if 3 ≤ nI (sp_sel S.2.2 (S.2.2 3 (ix si)) (-1) (S.1 12)).length then 0 else 3 := by
  unfold sp_tr
  rw [if_pos h1, if_neg h2, if_pos h3.1, if_pos h3.2.1, if_pos h3.2.2, if_pos h4]
/-! lights and strings are small -/
theorem tdiv_abs {a b : Int} (hb : 0 < b) {M : Int} (h1 : -M ≤ a) (h2 : a ≤ M) : -M ≤ a.tdiv b ∧ a.tdiv b ≤ M := by
  rcases Int.lt_or_le a 0 with h | h
  · obtain ⟨g1, -, -, -, g5⟩ := td_neg h hb
    omega
  · obtain ⟨g1, -, -, -, g5⟩ := td_pos h hb
    omega
theorem qd_abs {a b : Int32} (hb : 0 < b) {M : Int} (hM : M ≤ 2147483640) (h1 : -M ≤ a.toInt) (h2 : a.toInt ≤ M) : -M - 1 ≤ (qd a b).toInt ∧ (qd a b).toInt ≤ M := by
  have e := td_i (n := a) hb
  have hb0 : (0 : Int) < b.toInt := by have := i_lt.mp hb; rwa [i_0] at this
  have h3 := tdiv_abs hb0 h1 h2
  have one : (1 : Int32).toInt = 1 := rfl
  unfold qd
  by_cases c : a - a / b * b < 0
  · rw [if_pos c, fb_subI (by rw [e, one]; omega) (by rw [e, one]; omega), e, one]; omega
  · rw [if_neg c, e]; omega
theorem inr_int {x lo hi : Int32} (h : inr x lo hi) : lo.toInt ≤ x.toInt ∧ x.toInt ≤ hi.toInt := ⟨i_le.mp h.1, i_le.mp h.2⟩
theorem light_sml {cn : Nat → Nat} {sc : Nat → Int32} {μ : Nat → Nat → Int32} (hI : Inv (cn, sc, μ)) {k : Nat} (hk : k < cn 12) : sml (sp_light μ k) := by
  have n200 : (-200 : Int32).toInt = -200 := by decide
  have p2000 : (2000 : Int32).toInt = 2000 := by decide
  have p9 : (9 : Int32).toInt = 9 := by decide
  have n99 : (-99 : Int32).toInt = -99 := by decide
  have p99 : (99 : Int32).toInt = 99 := by decide
  have n500 : (-500 : Int32).toInt = -500 := by decide
  have p3000 : (3000 : Int32).toInt = 3000 := by decide
  have p255 : (255 : Int32).toInt = 255 := by decide
  have p1 : (1 : Int32).toInt = 1 := by decide
  have p20 : (20 : Int32).toInt = 20 := by decide
  have hc8 : cn 8 ≤ 8 := hI.1.2.1
  unfold sp_light sp_raw
  by_cases c : μ 13 k = 0
  · rw [if_pos c, if_pos c]
    obtain ⟨-, l2, -, l4, l5, l6, l7, l8⟩ := lk8 hI hk c
    have a1 := inr_int (hI.2.1 (ix (μ 17 k)) (inr_lt (N := 9) (by decide) l4))
    have a2 := inr_int (hI.2.1 (ix (μ 20 k)) (inr_lt (N := 9) (by decide) l8))
    have a3 := inr_int (hI.2.2.2.1 (ix (μ 15 k)) (inr_lt (N := 7) (by decide) l2))
    have a5 := inr_int l5
    change (-200 : Int32).toInt ≤ (μ 0 (ix (μ 17 k))).toInt ∧ (μ 0 (ix (μ 17 k))).toInt ≤ (2000 : Int32).toInt at a1
    change (-200 : Int32).toInt ≤ (μ 0 (ix (μ 20 k))).toInt ∧ (μ 0 (ix (μ 20 k))).toInt ≤ (2000 : Int32).toInt at a2
    change (-99 : Int32).toInt ≤ (μ 6 (ix (μ 15 k))).toInt ∧ (μ 6 (ix (μ 15 k))).toInt ≤ (99 : Int32).toInt at a3
    rw [n200, p2000] at a1 a2
    rw [n99, p99] at a3
    rw [i_0, p9] at a5
    generalize μ 0 (ix (μ 17 k)) = x at *
    generalize μ 0 (ix (μ 20 k)) = y at *
    generalize μ 6 (ix (μ 15 k)) = z at *
    generalize μ 18 k = w at *
    have s1 : (y - x).toInt = y.toInt - x.toInt := fb_subI (by omega) (by omega)
    have q1 : -19800 ≤ (y - x).toInt * w.toInt ∧ (y - x).toInt * w.toInt ≤ 19800 := by
      rw [s1]
      have d1 : -2200 ≤ y.toInt - x.toInt := by omega
      have d2 : y.toInt - x.toInt ≤ 2200 := by omega
      generalize y.toInt - x.toInt = d at d1 d2
      have hw : w.toInt = 0 ∨ w.toInt = 1 ∨ w.toInt = 2 ∨ w.toInt = 3 ∨ w.toInt = 4 ∨ w.toInt = 5 ∨ w.toInt = 6 ∨ w.toInt = 7 ∨ w.toInt = 8 ∨ w.toInt = 9 := by omega
      rcases hw with h | h | h | h | h | h | h | h | h | h <;> rw [h] <;> omega
    have m1 : ((y - x) * w).toInt = (y - x).toInt * w.toInt := fb_mulI (by omega) (by omega)
    have q2 := qd_abs l7 (M := 19800) (by decide) (a := (y - x) * w) (by rw [m1]; omega) (by rw [m1]; omega)
    have s2 : (x + qd ((y - x) * w) (w + μ 19 k)).toInt = x.toInt + (qd ((y - x) * w) (w + μ 19 k)).toInt := fb_addI (by omega) (by omega)
    have s3 : (x + qd ((y - x) * w) (w + μ 19 k) - z).toInt = (x + qd ((y - x) * w) (w + μ 19 k)).toInt - z.toInt := fb_subI (by omega) (by omega)
    unfold sml
    rw [s3, s2]
    omega
  · rw [if_neg c, if_neg c, Int32.sub_zero]
    obtain ⟨-, -, l3, l4⟩ := lk9 hI hk c
    have b := hI.2.2.2.2.1 (ix (μ 15 k)) (isS_xl l3 (show cn 8 < 2 ^ 31 by omega))
    have a1 := inr_int b.2.1
    have a2 := inr_int b.2.2
    have a3 := inr_int l4
    change (-500 : Int32).toInt ≤ (μ 10 (ix (μ 15 k))).toInt ∧ (μ 10 (ix (μ 15 k))).toInt ≤ (3000 : Int32).toInt at a1
    change (1 : Int32).toInt ≤ (μ 11 (ix (μ 15 k))).toInt ∧ (μ 11 (ix (μ 15 k))).toInt ≤ (20 : Int32).toInt at a2
    rw [n500, p3000] at a1
    rw [p1, p20] at a2
    rw [i_0, p255] at a3
    generalize μ 10 (ix (μ 15 k)) = x at *
    generalize μ 11 (ix (μ 15 k)) = y at *
    generalize μ 16 k = w at *
    have q1 : 0 ≤ w.toInt * y.toInt ∧ w.toInt * y.toInt ≤ 5100 := by
      refine ⟨Int.mul_nonneg (by omega) (by omega), ?_⟩
      have : w.toInt * y.toInt ≤ 255 * 20 := Int.mul_le_mul (by omega) (by omega) (by omega) (by omega)
      omega
    have m1 : (w * y).toInt = w.toInt * y.toInt := fb_mulI (by omega) (by omega)
    have t1 : (w * y / 10).toInt = (w * y).toInt.tdiv 10 := td_i (n := w * y) (d := 10) (by decide)
    have t2 := tdiv_abs (a := (w * y).toInt) (b := 10) (by decide) (M := 5100) (by rw [m1]; omega) (by rw [m1]; omega)
    have s1 : (x - w * y / 10).toInt = x.toInt - (w * y / 10).toInt := fb_subI (by rw [t1]; omega) (by rw [t1]; omega)
    unfold sml
    rw [s1, t1]
    omega
theorem absd_int {x : Int32} (h : x.toInt ≠ -2147483648) : (absd x).toInt = (if 0 ≤ x.toInt then x.toInt else -x.toInt) := by
  unfold absd
  by_cases c : 0 ≤ x
  · rw [if_pos c]
    rw [i_le, i_0] at c
    rw [if_pos c]
  · rw [if_neg c, fb_negI h]
    rw [i_le, i_0] at c
    rw [if_neg c]
theorem cyS_sml {b : Nat → Int32} {m : Nat} (h : ∀ i, i < m → sml (b i)) (hm : m ≤ 80) : ∀ k, k ≤ m → 0 ≤ (cyS b m k).toInt ∧ (cyS b m k).toInt ≤ 44000 * (k : Int) := by
  intro k
  induction k with
  | zero => intro _; show 0 ≤ (0 : Int32).toInt ∧ (0 : Int32).toInt ≤ _; rw [i_0]; omega
  | succ k ih =>
    intro hk
    obtain ⟨h1, h2⟩ := ih (by omega)
    have g1 := h k (by omega)
    have g2 := h (if k + 1 = m then 0 else k + 1) (by by_cases e : k + 1 = m <;> simp [e] <;> omega)
    rw [cyS]
    generalize b k = x at g1
    generalize b (if k + 1 = m then 0 else k + 1) = y at g2
    have s := sml_sub g1 g2
    have a := absd_int (x := x - y) (by rw [s]; omega)
    have a2 : 0 ≤ (absd (x - y)).toInt ∧ (absd (x - y)).toInt ≤ 44000 := by
      rw [a, s]
      by_cases c : 0 ≤ x.toInt - y.toInt
      · rw [if_pos c]; omega
      · rw [if_neg c]; omega
    rw [fb_addI (by omega) (by omega)]
    omega
theorem str_sml {cn : Nat → Nat} {sc : Nat → Int32} {μ : Nat → Nat → Int32} (hI : Inv (cn, sc, μ)) {L : List Nat} (hL : ∀ x ∈ L, x < cn 12) (hl : L.length ≤ 80) (P : Int32) : 0 ≤ (sp_str μ L P).toInt ∧ (sp_str μ L P).toInt ≤ 3520000 := by
  unfold sp_str
  rw [sumA_cy]
  obtain ⟨A, ⟨a1, a2⟩, a3, a4⟩ := ordA_list (fT := fun i => sp_time μ (L.getD i 0)) (P := P) (fun _ => 0) L.length (by omega)
  have h := cyS_sml (b := fun i => sp_light μ (L.getD (ix (ordA (fun i => sp_time μ (L.getD i 0)) P (fun _ => 0) L.length i)) 0)) (m := L.length) (fun i hi => by
    have h1 : A.getD i 0 < L.length := List.mem_range.mp (a3.mem_iff.mp (getD_mem (by omega)))
    have e : ix (ordA (fun i => sp_time μ (L.getD i 0)) P (fun _ => 0) L.length i) = A.getD i 0 := by rw [a2 i hi]; exact nI_clamp (by omega)
    show sml (sp_light μ (L.getD (ix (ordA (fun i => sp_time μ (L.getD i 0)) P (fun _ => 0) L.length i)) 0))
    rw [e]
    exact light_sml hI (hL _ (getD_mem h1))) hl L.length (Nat.le_refl _)
  omega
/-! aliases -/
def halA (ts : Nat → Int32) (b : Nat) (most : Int32) : Nat → Int32
  | 0 => 0
  | i + 1 => halA ts b most i + (if i ≠ b ∧ ¬ most < 100 * ts i then 1 else 0)
theorem al_le {x y pc : Int32} (hx : 0 ≤ x.toInt ∧ x.toInt ≤ 3520000) (hy : 0 ≤ y.toInt ∧ y.toInt ≤ 3520000) (hp : inr pc 0 50) : ((100 + pc) * y < 100 * x) ↔ ((100 + pc).toInt64 * y.toInt64 < 100 * x.toInt64) := by
  have h1 := inr_int hp
  have p50 : (50 : Int32).toInt = 50 := rfl
  have p100 : (100 : Int32).toInt = 100 := rfl
  have q100 : (100 : Int64).toInt = 100 := rfl
  rw [i_0, p50] at h1
  have e1 : (100 + pc).toInt = 100 + pc.toInt := by rw [fb_addI (by rw [p100]; omega) (by rw [p100]; omega), p100]
  have b1 : 0 ≤ (100 + pc).toInt * y.toInt ∧ (100 + pc).toInt * y.toInt ≤ 150 * 3520000 := by
    rw [e1]
    exact ⟨Int.mul_nonneg (by omega) (by omega), Int.mul_le_mul (by omega) (by omega) (by omega) (by omega)⟩
  have e2 : ((100 + pc) * y).toInt = (100 + pc).toInt * y.toInt := fb_mulI (by omega) (by omega)
  have e3 : (100 * x).toInt = 100 * x.toInt := by rw [fb_mulI (by rw [p100]; omega) (by rw [p100]; omega), p100]
  have l1 : ((100 + pc).toInt64 * y.toInt64).toInt = (100 + pc).toInt * y.toInt := by
    rw [fb_mulL (by rw [Int32.toInt_toInt64, Int32.toInt_toInt64]; omega) (by rw [Int32.toInt_toInt64, Int32.toInt_toInt64]; omega), Int32.toInt_toInt64, Int32.toInt_toInt64]
  have l2 : (100 * x.toInt64).toInt = 100 * x.toInt := by
    rw [fb_mulL (by rw [Int32.toInt_toInt64, q100]; omega) (by rw [Int32.toInt_toInt64, q100]; omega), Int32.toInt_toInt64, q100]
  rw [Int32.lt_iff_toInt_lt, Int64.lt_iff_toInt_lt, e2, e3, l1, l2]
theorem trI_inj {fr to st : Int32} (h : trOK fr to st) {i j : Nat} (hi : i < trN fr to st) (hj : j < trN fr to st) : trI fr st i = trI fr st j ↔ i = j := by
  obtain ⟨a, b, c, e1, e2, e3, h1, h2, h3, h4, h5, h6⟩ := h.nat
  constructor
  · intro g
    have q1 : i ≤ (c - a) / b := by omega
    have q2 : j ≤ (c - a) / b := by omega
    have r1 : i * b ≤ c - a := Nat.le_trans (Nat.mul_le_mul_right b q1) (Nat.div_mul_le_self _ _)
    have r2 : j * b ≤ c - a := Nat.le_trans (Nat.mul_le_mul_right b q2) (Nat.div_mul_le_self _ _)
    rw [e1, e2, trI_nat, trI_nat] at g
    have g2 := (nI_eq (by omega) (by omega)).mp g
    exact Nat.eq_of_mul_eq_mul_right (show 0 < b by omega) (by omega)
  · intro g; rw [g]
theorem halA_eq {fr to st pc : Int32} {s : Int32 → Int32} {ts : Nat → Int32} {b : Nat} (h : trOK fr to st) (hp : inr pc 0 50) (hs : ∀ P, 0 ≤ (s P).toInt ∧ (s P).toInt ≤ 3520000) (hb : b < trN fr to st) (hts : ∀ i, i < trN fr to st → ts i = s (trI fr st i)) : ∀ n, n ≤ trN fr to st → halA ts b ((100 + pc) * ts b) n = alA fr st pc s (trI fr st b) n := by
  intro n
  induction n with
  | zero => intro _; rfl
  | succ n ih =>
    intro hn
    rw [halA, alA, ih (by omega), hts n (by omega), hts b hb]
    congr 1
    have e : (n ≠ b ∧ ¬ (100 + pc) * s (trI fr st b) < 100 * s (trI fr st n)) ↔ (trI fr st n ≠ trI fr st b ∧ ¬ (100 + pc).toInt64 * (s (trI fr st b)).toInt64 < 100 * (s (trI fr st n)).toInt64) := by
      rw [al_le (hs _) (hs _) hp, Ne, Ne, trI_inj h (by omega) hb]
    by_cases c : n ≠ b ∧ ¬ (100 + pc) * s (trI fr st b) < 100 * s (trI fr st n)
    · rw [if_pos c, if_pos (e.mp c)]
    · rw [if_neg c, if_neg (fun g => c (e.mpr g))]
