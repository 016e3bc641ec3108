/-! ===== the minima: each one's place is how many are ahead ===== -/
def mnA (μ : Nat → Nat → Int32) (e : Int32) : Nat → Int32 := fun i => if μ 3 (ix (μ 30 i)) = e then 1 else 0
theorem mnA_y {μ : Nat → Nat → Int32} {e : Int32} {i : Nat} (h : μ 3 (ix (μ 30 i)) = e) : mnA μ e i = 1 := if_pos h
theorem mnA_n {μ : Nat → Nat → Int32} {e : Int32} {i : Nat} (h : ¬ μ 3 (ix (μ 30 i)) = e) : mnA μ e i = 0 := if_neg h
theorem mnA_1 {μ : Nat → Nat → Int32} {e : Int32} {i : Nat} (h : ¬ mnA μ e i = 0) : μ 3 (ix (μ 30 i)) = e := by
  by_cases c : μ 3 (ix (μ 30 i)) = e
  · exact c
  · exact absurd (mnA_n c) h
/-- the times laid are those of the sorted row -/
theorem lay_list {μ : Nat → Nat → Int32} {e : Int32} (n : Nat) : (layA μ e (fun _ => 0) n).2 = (ladL (mnA μ e) n).length ∧ ∀ i, i < (ladL (mnA μ e) n).length → (layA μ e (fun _ => 0) n).1 i = sp_mt μ ((sSort (sp_mt μ) [] (ladL (mnA μ e) n)).getD i 0) := by
  induction n with
  | zero => exact ⟨rfl, fun i h => absurd h (Nat.not_lt_zero _)⟩
  | succ n ih =>
    obtain ⟨h1, h2⟩ := ih
    rw [layA, ladL]
    by_cases c : μ 3 (ix (μ 30 n)) = e
    · have ca : ¬ mnA μ e n = 0 := by rw [mnA_y c]; decide
      rw [if_pos c, if_pos ca, sSort_snoc]
      have hlen : (sSort (sp_mt μ) [] (ladL (mnA μ e) n)).length = (ladL (mnA μ e) n).length := (sSort_perm _ _ []).length_eq
      refine ⟨by rw [List.length_append, h1]; rfl, fun i hi => ?_⟩
      rw [List.length_append] at hi
      have hi : i < (ladL (mnA μ e) n).length + 1 := hi
      have hup : row_up (ladL (mnA μ e) n).length (layA μ e (fun _ => 0) n).1 := fun a b hab hb => by
        rw [h2 a (by omega), h2 b hb]
        exact sSort_up (ladL_up n) a b hab (by omega)
      have hat := jpT_at (x := sp_mt μ n) hup
      rw [h1]
      generalize jpT (layA μ e (fun _ => 0) n).1 (sp_mt μ n) (ladL (mnA μ e) n).length = p at hat
      obtain ⟨p1, p2, p3⟩ := hat
      show insA (layA μ e (fun _ => 0) n).1 p (sp_mt μ n) (ladL (mnA μ e) n).length i = _
      rw [insA_ins (by omega), sIns_getD (p := p) (by omega) (fun j hj => by rw [← h2 j (by omega)]; exact p2 j hj) (fun j hj1 hj2 => by rw [← h2 j (by omega)]; exact p3 j hj1 (by omega)) i (by omega)]
      unfold ins
      by_cases g1 : i < p
      · rw [if_pos g1, if_pos g1]; exact h2 i (by omega)
      · rw [if_neg g1, if_neg g1]
        by_cases g2 : i = p
        · rw [if_pos g2, if_pos g2]
        · rw [if_neg g2, if_neg g2]; exact h2 (i - 1) (by omega)
    · have ca : ¬ ¬ mnA μ e n = 0 := fun g => g (mnA_n c)
      rw [if_neg c, if_neg ca]
      exact ⟨h1, h2⟩
/-- the rank, as a number -/
def rkN (a b : Nat → Int32) (N i : Nat) : Nat := (ladL a N).countP (fun y => decide (bef b (fun x y => x < y) y i))
theorem rk_cnt {a b : Nat → Int32} {N i : Nat} (hi : i < 2 ^ 31) (hN : N < 2 ^ 31) : cntN a b i N = nI (rkN a b N i) := cntN_list hi N hN
theorem rk_lt {a b : Nat → Int32} {N i : Nat} (hi : i < N) (ha : ¬ a i = 0) : rkN a b N i < (ladL a N).length ∧ (sSort b [] (ladL a N)).getD (rkN a b N i) 0 = i := by
  obtain ⟨B, eB⟩ : ∃ B, B = sSort b [] (ladL a N) := ⟨_, rfl⟩
  have hp : B.Perm (ladL a N) := by rw [eB]; exact sSort_perm _ _ []
  have hB : B.Pairwise (bef b (fun x y => x < y)) := by
    rw [eB]
    exact sSort_bef List.Pairwise.nil (fun a h => absurd h List.not_mem_nil) (ladL_up N)
  obtain ⟨p, hp1, hp2⟩ := mem_getD (hp.mem_iff.mpr (ladL_mem.mpr ⟨hi, ha⟩))
  have hc : rkN a b N i = p := by
    unfold rkN
    rw [← hp.countP_eq, hp2, pw_count (fun a b => bef_asym (fun _ _ h g => absurd g (by omega)) a b) hB p hp1]
  have hl : B.length = (ladL a N).length := hp.length_eq
  rw [hc, ← eB]
  exact ⟨by omega, hp2.symm⟩
theorem rk_at {a b : Nat → Int32} {N p : Nat} (hp0 : p < (ladL a N).length) : (sSort b [] (ladL a N)).getD p 0 < N ∧ ¬ a ((sSort b [] (ladL a N)).getD p 0) = 0 ∧ rkN a b N ((sSort b [] (ladL a N)).getD p 0) = p := by
  obtain ⟨B, eB⟩ : ∃ B, B = sSort b [] (ladL a N) := ⟨_, rfl⟩
  have hp : B.Perm (ladL a N) := by rw [eB]; exact sSort_perm _ _ []
  have hB : B.Pairwise (bef b (fun x y => x < y)) := by
    rw [eB]
    exact sSort_bef List.Pairwise.nil (fun a h => absurd h List.not_mem_nil) (ladL_up N)
  have hl : B.length = (ladL a N).length := hp.length_eq
  rw [← eB]
  have hm := ladL_mem.mp (hp.mem_iff.mp (getD_mem (A := B) (i := p) (by omega)))
  refine ⟨hm.1, hm.2, ?_⟩
  unfold rkN
  rw [← hp.countP_eq, pw_count (fun a b => bef_asym (fun _ _ h g => absurd g (by omega)) a b) hB p (by omega)]
/-- what the law's row d holds, the first k minima looked at -/
def dI (a b : Nat → Int32) (N : Nat) (D : Nat → Int32) (k : Nat) : Prop := ∀ j, j < k → ¬ a j = 0 → D (rkN a b N j) = b j
theorem dI_y {a b : Nat → Int32} {N : Nat} {D : Nat → Int32} {k : Nat} (h : dI a b N D k) (hk : k < N) (ha : ¬ a k = 0) : dI a b N (upd D (rkN a b N k) (b k)) (k + 1) := by
  intro j hj hja
  by_cases e : rkN a b N j = rkN a b N k
  · have h1 := (rk_lt (b := b) (show j < N by omega) hja).2
    have h2 := (rk_lt (b := b) hk ha).2
    rw [e, h2] at h1
    subst h1
    exact upd_at
  · rw [upd_ne e]
    exact h j (by
      by_cases g : j = k
      · subst g; exact absurd rfl e
      · omega) hja
theorem dI_n {a b : Nat → Int32} {N : Nat} {D : Nat → Int32} {k q : Nat} {v : Int32} (h : dI a b N D k) (hk : k < N) (ha : a k = 0) (hq : (ladL a N).length ≤ q) : dI a b N (upd D q v) (k + 1) := by
  intro j hj hja
  have hjk : j < k := by
    by_cases g : j = k
    · subst g; exact absurd ha hja
    · omega
  have h1 := (rk_lt (b := b) (show j < N by omega) hja).1
  rw [upd_ne (by omega)]
  exact h j hjk hja
theorem dI_lay {μ : Nat → Nat → Int32} {e : Int32} {N : Nat} {D : Nat → Int32} (h : dI (mnA μ e) (sp_mt μ) N D N) : ∀ i, i < (layA μ e (fun _ => 0) N).2 → D i = (layA μ e (fun _ => 0) N).1 i := by
  intro i hi
  obtain ⟨h1, h2⟩ := lay_list (μ := μ) (e := e) N
  rw [h1] at hi
  obtain ⟨g1, g2, g3⟩ := rk_at (b := sp_mt μ) hi
  rw [h2 i hi, ← h _ g1 g2, g3]
theorem mt_at {μ : Nat → Nat → Int32} {k sk : Nat} {v : Int32} (h30 : μ 30 k = nI sk) (hs : sk < 4) (hv : v = μ 2 sk) (h31 : inr (μ 31 k) 0 9999999) (h2 : inr (μ 2 sk) 0 363) : μ 31 k + l_late (μ 31 k) v = sp_mt μ k := by
  unfold sp_mt
  rw [hv, h30, ix_nI (by omega), l_late_eq h31 h2]
/-- the row's times go up, and are small -/
theorem lay_rng {S : mS} (hI : Inv S) {e : Int32} {i : Nat} (hi : i < (layS S e).2) : (layS S e).1 0 ≤ (layS S e).1 i ∧ mtr ((layS S e).1 i) ∧ mtr ((layS S e).1 0) := by
  obtain ⟨h1, h2⟩ := lay_list (μ := S.2.2) (e := e) (S.1 29)
  unfold layS at *
  rw [h1] at hi
  have hp : ∀ j, j < (ladL (mnA S.2.2 e) (S.1 29)).length → mtr (sp_mt S.2.2 ((sSort (sp_mt S.2.2) [] (ladL (mnA S.2.2 e) (S.1 29))).getD j 0)) := fun j hj => mt_rng (cn := S.1) (sc := S.2.1) (μ := S.2.2) hI (rk_at (b := sp_mt S.2.2) hj).1
  rw [h2 i hi, h2 0 (by omega)]
  refine ⟨sSort_up (ladL_up _) 0 i (Nat.zero_le _) (by rw [(sSort_perm _ _ []).length_eq]; exact hi), hp i hi, hp 0 (by omega)⟩
theorem cyc_nat {L P : Nat} (hP : 0 < P) : (2 * L + P) / (2 * P) = L / P + if P ≤ 2 * (L % P) then 1 else 0 := by
  have h1 := Nat.div_add_mod L P
  have h2 := Nat.mod_lt L hP
  generalize L / P = q at h1 ⊢
  generalize L % P = r at h1 h2 ⊢
  by_cases c : P ≤ 2 * r
  · rw [if_pos c, show 2 * L + P = (2 * r - P) + (q + 1) * (2 * P) from by rw [← h1, Nat.add_mul, Nat.mul_comm q (2 * P), Nat.mul_assoc 2 P q]; omega, Nat.add_mul_div_right _ _ (by omega), Nat.div_eq_of_lt (by omega), Nat.zero_add]
  · rw [if_neg c, show 2 * L + P = (2 * r + P) + q * (2 * P) from by rw [← h1, Nat.mul_comm q (2 * P), Nat.mul_assoc 2 P q]; omega, Nat.add_mul_div_right _ _ (by omega), Nat.div_eq_of_lt (by omega), Nat.zero_add, Nat.add_zero]
/-- cycle and offset of one that is L behind the first -/
theorem cyc_y {g : Nat → Int32} {i L P : Nat} (hL : g i - g 0 = nI L) (hL2 : L < 10000020) (hP : 30 ≤ P) (hP2 : P ≤ 1000000) (c : nI P ≤ 2 * nI (L % P)) : nI (L / P) + 1 = sp_cy g i (nI P) := by
  have hm := Nat.mod_lt L (show 0 < P by omega)
  have c2 : P ≤ 2 * (L % P) := by
    have e : (2 : Int32) * nI (L % P) = nI (2 * (L % P)) := nI_mul 2 _
    rw [e] at c
    exact (nI_leI (by omega) (by omega)).mp c
  unfold sp_cy
  rw [hL, show (2 : Int32) * nI L + nI P = nI (2 * L + P) from by rw [show (2 : Int32) * nI L = nI (2 * L) from nI_mul 2 L, nI_add], show (2 : Int32) * nI P = nI (2 * P) from nI_mul 2 P, pk_div (by omega) (by omega) (by omega), cyc_nat (by omega), if_pos c2, nI_1]
theorem cyc_n {g : Nat → Int32} {i L P : Nat} (hL : g i - g 0 = nI L) (hL2 : L < 10000020) (hP : 30 ≤ P) (hP2 : P ≤ 1000000) (c : ¬ nI P ≤ 2 * nI (L % P)) : nI (L / P) + 0 = sp_cy g i (nI P) := by
  have hm := Nat.mod_lt L (show 0 < P by omega)
  have c2 : ¬ P ≤ 2 * (L % P) := fun h => c (by
    have e : (2 : Int32) * nI (L % P) = nI (2 * (L % P)) := nI_mul 2 _
    rw [e]
    exact nI_le h (by omega))
  unfold sp_cy
  rw [hL, show (2 : Int32) * nI L + nI P = nI (2 * L + P) from by rw [show (2 : Int32) * nI L = nI (2 * L) from nI_mul 2 L, nI_add], show (2 : Int32) * nI P = nI (2 * P) from nI_mul 2 P, pk_div (by omega) (by omega) (by omega), cyc_nat (by omega), if_neg c2, Int32.add_zero, Nat.add_zero]
theorem off_rng {g : Nat → Int32} {i L P : Nat} (hL : g i - g 0 = nI L) (hL2 : L < 10000020) (hP : 30 ≤ P) (hP2 : P ≤ 1000000) : -(P : Int) ≤ (sp_of g i (nI P)).toInt ∧ (sp_of g i (nI P)).toInt ≤ (P : Int) := by
  have hm := Nat.mod_lt L (show 0 < P by omega)
  have h1 := Nat.div_add_mod L P
  have hq : L / P ≤ L := Nat.div_le_self _ _
  obtain ⟨C, eC, hC⟩ : ∃ C : Nat, sp_cy g i (nI P) = nI C ∧ (C = L / P ∨ (C = L / P + 1 ∧ P ≤ 2 * (L % P))) := by
    by_cases c : nI P ≤ 2 * nI (L % P)
    · refine ⟨L / P + 1, (cyc_y hL hL2 hP hP2 c).symm.trans (nI_1 _), Or.inr ⟨rfl, ?_⟩⟩
      have e : (2 : Int32) * nI (L % P) = nI (2 * (L % P)) := nI_mul 2 _
      rw [e] at c
      exact (nI_leI (by omega) (by omega)).mp c
    · exact ⟨L / P, (cyc_n hL hL2 hP hP2 c).symm.trans (Int32.add_zero _), Or.inl rfl⟩
  unfold sp_of
  rw [hL, eC, nI_mul]
  have hCP : C * P ≤ L + P := by
    rcases hC with h | ⟨h, -⟩
    · rw [h, Nat.mul_comm]; omega
    · rw [h, Nat.add_mul, Nat.mul_comm]; omega
  have hCP2 : L ≤ C * P + P := by
    rcases hC with h | ⟨h, -⟩
    · rw [h, Nat.mul_comm]; omega
    · rw [h, Nat.add_mul, Nat.mul_comm]; omega
  rw [fb_subI (by rw [nI_toInt (by omega), nI_toInt (by omega)]; omega) (by rw [nI_toInt (by omega), nI_toInt (by omega)]; omega), nI_toInt (by omega), nI_toInt (by omega)]
  omega
/-- the offset before -/
def lastC (g : Nat → Int32) (P : Int32) : Nat → Int32
  | 0 => 0
  | q + 1 => sp_of g q P
theorem lastC_at {g : Nat → Int32} {P : Int32} {p : Nat} (h : 0 < p) : lastC g P p = sp_of g (p - 1) P := by
  obtain ⟨q, rfl⟩ : ∃ q, p = q + 1 := ⟨p - 1, by omega⟩
  rfl
theorem abs_y {x y : Int32} (hx : -2000000 ≤ x.toInt ∧ x.toInt ≤ 2000000) (hy : -2000000 ≤ y.toInt ∧ y.toInt ≤ 2000000) (c : ¬ x ≤ y) : x - y = absd (x - y) := by
  refine absd_y ?_
  have c2 := Int32.not_le.mp c
  rw [i_lt] at c2
  rw [i_le, i_0, fb_subI (by omega) (by omega)]
  omega
theorem abs_n {x y : Int32} (hx : -2000000 ≤ x.toInt ∧ x.toInt ≤ 2000000) (hy : -2000000 ≤ y.toInt ∧ y.toInt ≤ 2000000) (c : x ≤ y) : y - x = absd (x - y) := by
  rw [absd_sub]
  refine absd_y ?_
  rw [i_le] at c
  rw [i_le, i_0, fb_subI (by omega) (by omega)]
  omega
theorem lost_y {g : Nat → Int32} {P v : Int32} {p : Nat} (hp : 0 < p) (hv : v = absd (sp_of g p P - lastC g P p)) (c : ¬ 4 * v ≤ P) : sp_lost g P (p - 1) + 1 = sp_lost g P p := by
  obtain ⟨q, rfl⟩ : ∃ q, p = q + 1 := ⟨p - 1, by omega⟩
  rw [show lastC g P (q + 1) = sp_of g q P from rfl] at hv
  rw [show q + 1 - 1 = q from rfl]
  conv => rhs; rw [sp_lost]
  rw [← hv, if_neg c]
theorem lost_n {g : Nat → Int32} {P v : Int32} {p : Nat} (h : p = 0 ∨ (v = absd (sp_of g p P - lastC g P p) ∧ 4 * v ≤ P)) : sp_lost g P (p - 1) + 0 = sp_lost g P p := by
  rw [Int32.add_zero]
  rcases h with h | ⟨hv, c⟩
  · subst h; rfl
  · by_cases hp : p = 0
    · subst hp; rfl
    · obtain ⟨q, rfl⟩ : ∃ q, p = q + 1 := ⟨p - 1, by omega⟩
      rw [show lastC g P (q + 1) = sp_of g q P from rfl] at hv
      rw [show q + 1 - 1 = q from rfl]
      conv => rhs; rw [sp_lost]
      rw [← hv, if_pos c, Int32.add_zero]
section
variable {S : mS} {k P p : Nat} {a1 a2 a3 : Int32}
theorem cyc_0 (hk : k < S.1 1) (hn : S.1 1 ≤ 4) (hP : 30 ≤ P) (hP2 : P ≤ 1000000) (hp : p < (layS S (S.2.2 3 k)).2) (hM : (layS S (S.2.2 3 k)).2 ≤ 8) : dv (cd_cycle (nI k) (nI P) (nI p) 0 S) (an_cycle (nI k) (nI P) (nI p) 0 S) a1 a2 a3 = sp_cy (layS S (S.2.2 3 k)).1 p (nI P) := by
  refine (dv_0 ?_).trans ?_
  · unfold cd_cycle
    rw [if_pos (isS_nI hk (by omega)), ix_nI (by omega), if_pos (isS_nI hp (by omega)), if_pos (show inr (nI P) 30 1000000 from inr_nI (a := 30) (b := 1000000) hP hP2 (by omega))]
  · unfold an_cycle
    rw [if_pos rfl, ix_nI (by omega), ix_nI (by omega)]
theorem cyc_1 (hk : k < S.1 1) (hn : S.1 1 ≤ 4) (hP : 30 ≤ P) (hP2 : P ≤ 1000000) (hp : p < (layS S (S.2.2 3 k)).2) (hM : (layS S (S.2.2 3 k)).2 ≤ 8) : dv (cd_cycle (nI k) (nI P) (nI p) 1 S) (an_cycle (nI k) (nI P) (nI p) 1 S) a1 a2 a3 = sp_of (layS S (S.2.2 3 k)).1 p (nI P) := by
  refine (dv_0 ?_).trans ?_
  · unfold cd_cycle
    rw [if_pos (isS_nI hk (by omega)), ix_nI (by omega), if_pos (isS_nI hp (by omega)), if_pos (show inr (nI P) 30 1000000 from inr_nI (a := 30) (b := 1000000) hP hP2 (by omega))]
  · unfold an_cycle
    rw [if_neg (by decide), ix_nI (by omega), ix_nI (by omega)]
theorem cyc_e {q : Int32} (hk : k < S.1 1) (hn : S.1 1 ≤ 4) (hM : (layS S (S.2.2 3 k)).2 ≤ 8) : dv (cd_cycle (nI k) q (nI (layS S (S.2.2 3 k)).2) 0 S) (an_cycle (nI k) q (nI (layS S (S.2.2 3 k)).2) 0 S) a1 a2 a3 = a1 := by
  refine dv_1 ?_
  unfold cd_cycle
  rw [if_pos (isS_nI hk (by omega)), ix_nI (by omega), if_neg (fun h => Int32.lt_irrefl h.2)]
theorem lost_cd (hk : k < S.1 1) (hn : S.1 1 ≤ 4) (hP : 30 ≤ P) (hP2 : P ≤ 1000000) : cd_lost (nI k) (nI P) S = 0 := by
  unfold cd_lost
  rw [if_pos (isS_nI hk (by omega)), if_pos (show inr (nI P) 30 1000000 from inr_nI (a := 30) (b := 1000000) hP hP2 (by omega))]
theorem lost_an {q : Int32} (hk : k < 4) : an_lost (nI k) q S = sp_lost (layS S (S.2.2 3 k)).1 q ((layS S (S.2.2 3 k)).2 - 1) := by
  unfold an_lost
  rw [ix_nI (by omega)]
end
