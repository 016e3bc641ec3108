/-! ===== the law's own tables, and what they hold of the house ===== -/
def llen (k : Nat) : Nat := [10, 8, 8, 16, 9, 24, 24, 24, 24, 16, 6, 24, 24].getD k 0
/-- the law's tables: c b w a p i t h r m g x y -/
def LW (E : hk_E) (la : Nat → Nat) (V : Nat → Nat → Int32) (H : Heap) : Prop := ∀ k, k < 13 → hk_I E 0 (la k) (llen k) (V k) H
/-- a set of stars, as bits: those of the entries e1 and e2 -/
def mskR (n : Nat) (f : Nat → Int32) (m : Nat) (e1 e2 : Int32) : Prop := m < 16 ∧ ∀ k, k < 4 → (m.testBit k = true ↔ k < n ∧ (f k = e1 ∨ f k = e2))
/-- a look: its sort, star, watcher or plate, doubt; a step's comparisons and parts -/
def lkR (S : mS) (v5 v7 : Int32) (k : Nat) : Prop := ∃ s st of d : Nat, s < 2 ∧ st < S.1 1 ∧ of < 8 ∧ d < 2 ∧ S.2.2 13 k = nI s ∧ S.2.2 14 k = nI st ∧ S.2.2 15 k = nI of ∧ S.2.2 21 k = nI d ∧ v5 = nI (s + 2 * st + 8 * of + 64 * d) ∧ (s = 1 → of < S.1 8) ∧
  (s = 0 → ∃ f a b g : Nat, f < 10 ∧ a < 10 ∧ b < 10 ∧ g < 10 ∧ 0 < a + b ∧ S.2.2 17 k = nI f ∧ S.2.2 18 k = nI a ∧ S.2.2 19 k = nI b ∧ S.2.2 20 k = nI g ∧ v7 = nI (f + 10 * a + 100 * b + 1000 * g))
/-- what the tables hold of a house's state -/
def LV (S : mS) (V : Nat → Nat → Int32) : Prop :=
  (S.1 1 ≤ 4 ∧ S.1 8 ≤ 3 ∧ S.1 12 ≤ 24 ∧ S.1 22 ≤ 4 ∧ S.1 29 ≤ 8) ∧
  (V 10 0 = nI (S.1 1) ∧ V 10 1 = nI (S.1 8) ∧ V 10 2 = nI (S.1 12) ∧ V 10 3 = nI (S.1 22) ∧ V 10 4 = nI (S.1 29) ∧ V 10 5 = S.2.1 32) ∧
  (∀ j, j < 10 → V 0 j = S.2.2 0 j) ∧ (∀ j, j < 8 → V 1 j = S.2.2 6 j ∧ V 2 j = S.2.2 7 j) ∧
  (∀ j, j < S.1 1 → V 3 (4 * j) = S.2.2 2 j ∧ ∃ m, V 3 (4 * j + 1) = nI m ∧ mskR (S.1 1) (S.2.2 3) m (S.2.2 3 j) (-1)) ∧
  (∀ j, j < 4 → V 3 (4 * j + 2) = S.2.2 4 j ∧ V 3 (4 * j + 3) = S.2.2 5 j) ∧
  (∀ j, j < S.1 8 → V 4 (3 * j) = S.2.2 9 j ∧ V 4 (3 * j + 1) = S.2.2 10 j ∧ V 4 (3 * j + 2) = S.2.2 11 j) ∧
  (∀ k, k < S.1 12 → V 6 k = S.2.2 16 k ∧ lkR S (V 5 k) (V 7 k) k) ∧
  (∀ j, j < S.1 22 → V 8 (6 * j) = S.2.2 23 j ∧ V 8 (6 * j + 1) = S.2.2 24 j ∧ V 8 (6 * j + 2) = S.2.2 25 j ∧ V 8 (6 * j + 3) = S.2.2 26 j ∧ V 8 (6 * j + 4) = S.2.2 27 j) ∧
  (∀ j, j < 4 → V 8 (6 * j + 5) = S.2.2 28 j) ∧
  (∀ j, j < S.1 29 → V 9 (2 * j) = S.2.2 30 j ∧ V 9 (2 * j + 1) = S.2.2 31 j)
/-- lights and times are laid -/
def LXY (S : mS) (V : Nat → Nat → Int32) : Prop := ∀ k, k < S.1 12 → V 11 k = sp_light S.2.2 k ∧ V 12 k = sp_time S.2.2 k
theorem LW.c0 {E : hk_E} {la : Nat → Nat} {V : Nat → Nat → Int32} {H : Heap} (h : LW E la V H) : hk_I E 0 (la 0) 10 (V 0) H := h 0 (by decide)
theorem LW.c1 {E : hk_E} {la : Nat → Nat} {V : Nat → Nat → Int32} {H : Heap} (h : LW E la V H) : hk_I E 0 (la 1) 8 (V 1) H := h 1 (by decide)
theorem LW.c2 {E : hk_E} {la : Nat → Nat} {V : Nat → Nat → Int32} {H : Heap} (h : LW E la V H) : hk_I E 0 (la 2) 8 (V 2) H := h 2 (by decide)
theorem LW.c3 {E : hk_E} {la : Nat → Nat} {V : Nat → Nat → Int32} {H : Heap} (h : LW E la V H) : hk_I E 0 (la 3) 16 (V 3) H := h 3 (by decide)
theorem LW.c4 {E : hk_E} {la : Nat → Nat} {V : Nat → Nat → Int32} {H : Heap} (h : LW E la V H) : hk_I E 0 (la 4) 9 (V 4) H := h 4 (by decide)
theorem LW.c5 {E : hk_E} {la : Nat → Nat} {V : Nat → Nat → Int32} {H : Heap} (h : LW E la V H) : hk_I E 0 (la 5) 24 (V 5) H := h 5 (by decide)
theorem LW.c6 {E : hk_E} {la : Nat → Nat} {V : Nat → Nat → Int32} {H : Heap} (h : LW E la V H) : hk_I E 0 (la 6) 24 (V 6) H := h 6 (by decide)
theorem LW.c7 {E : hk_E} {la : Nat → Nat} {V : Nat → Nat → Int32} {H : Heap} (h : LW E la V H) : hk_I E 0 (la 7) 24 (V 7) H := h 7 (by decide)
theorem LW.c8 {E : hk_E} {la : Nat → Nat} {V : Nat → Nat → Int32} {H : Heap} (h : LW E la V H) : hk_I E 0 (la 8) 24 (V 8) H := h 8 (by decide)
theorem LW.c9 {E : hk_E} {la : Nat → Nat} {V : Nat → Nat → Int32} {H : Heap} (h : LW E la V H) : hk_I E 0 (la 9) 16 (V 9) H := h 9 (by decide)
theorem LW.c10 {E : hk_E} {la : Nat → Nat} {V : Nat → Nat → Int32} {H : Heap} (h : LW E la V H) : hk_I E 0 (la 10) 6 (V 10) H := h 10 (by decide)
theorem LW.c11 {E : hk_E} {la : Nat → Nat} {V : Nat → Nat → Int32} {H : Heap} (h : LW E la V H) : hk_I E 0 (la 11) 24 (V 11) H := h 11 (by decide)
theorem LW.c12 {E : hk_E} {la : Nat → Nat} {V : Nat → Nat → Int32} {H : Heap} (h : LW E la V H) : hk_I E 0 (la 12) 24 (V 12) H := h 12 (by decide)
theorem LW.kept {E : hk_E} {la : Nat → Nat} {V : Nat → Nat → Int32} {H H1 : Heap} (h : LW E la V H) (hq : ∀ k, k < 13 → H1[la k]? = H[la k]?) : LW E la V H1 := fun k hk => (hq k hk).trans (h k hk)
theorem LW.lt {E : hk_E} {la : Nat → Nat} {V : Nat → Nat → Int32} {H : Heap} (h : LW E la V H) {k : Nat} (hk : k < 13) : la k < H.size := ar_lt (h k hk)
theorem LW.set {E : hk_E} {la : Nat → Nat} {V : Nat → Nat → Int32} {H H1 : Heap} (h : LW E la V H) {j : Nat} {f : Nat → Int32} (hl : ∀ a, a < 13 → ∀ b, b < 13 → la a = la b → a = b) (hj : j < 13) (hI : hk_I E 0 (la j) (llen j) f H1) (hq : ∀ q : Nat, q ≠ la j → H1[q]? = H[q]?) : LW E la (va_up V j f) H1 := by
  intro k hk
  by_cases e : k = j
  · subst e
    rw [show va_up V k f k = f from if_pos rfl]
    exact hI
  · rw [show va_up V j f k = V k from if_neg e]
    exact (hq _ (fun g => e (hl k hk j hj g))).trans (h k hk)
-- what the tables say, by place
section
variable {S : mS} {V : Nat → Nat → Int32}
theorem LV.g0 (h : LV S V) : V 10 (0 : Int32).toNatClampNeg = nI (S.1 1) := h.2.1.1
theorem LV.g1 (h : LV S V) : V 10 (1 : Int32).toNatClampNeg = nI (S.1 8) := h.2.1.2.1
theorem LV.g2 (h : LV S V) : V 10 (2 : Int32).toNatClampNeg = nI (S.1 12) := h.2.1.2.2.1
theorem LV.g3 (h : LV S V) : V 10 (3 : Int32).toNatClampNeg = nI (S.1 22) := h.2.1.2.2.2.1
theorem LV.g4 (h : LV S V) : V 10 (4 : Int32).toNatClampNeg = nI (S.1 29) := h.2.1.2.2.2.2.1
theorem LV.g5 (h : LV S V) : V 10 (5 : Int32).toNatClampNeg = S.2.1 32 := h.2.1.2.2.2.2.2
theorem LV.c (h : LV S V) {j : Nat} (hj : j < 10) : V 0 j = S.2.2 0 j := h.2.2.1 j hj
theorem LV.b (h : LV S V) {j : Nat} (hj : j < 8) : V 1 j = S.2.2 6 j := (h.2.2.2.1 j hj).1
theorem LV.w (h : LV S V) {j : Nat} (hj : j < 8) : V 2 j = S.2.2 7 j := (h.2.2.2.1 j hj).2
theorem LV.a0 (h : LV S V) {j : Nat} (hj : j < S.1 1) : V 3 (4 * j) = S.2.2 2 j := (h.2.2.2.2.1 j hj).1
theorem LV.a1 (h : LV S V) {j : Nat} (hj : j < S.1 1) : ∃ m, V 3 (4 * j + 1) = nI m ∧ mskR (S.1 1) (S.2.2 3) m (S.2.2 3 j) (-1) := (h.2.2.2.2.1 j hj).2
theorem LV.a2 (h : LV S V) {j : Nat} (hj : j < 4) : V 3 (4 * j + 2) = S.2.2 4 j := (h.2.2.2.2.2.1 j hj).1
theorem LV.a3 (h : LV S V) {j : Nat} (hj : j < 4) : V 3 (4 * j + 3) = S.2.2 5 j := (h.2.2.2.2.2.1 j hj).2
theorem LV.p (h : LV S V) {j : Nat} (hj : j < S.1 8) : V 4 (3 * j) = S.2.2 9 j ∧ V 4 (3 * j + 1) = S.2.2 10 j ∧ V 4 (3 * j + 2) = S.2.2 11 j := h.2.2.2.2.2.2.1 j hj
theorem LV.t (h : LV S V) {k : Nat} (hk : k < S.1 12) : V 6 k = S.2.2 16 k := (h.2.2.2.2.2.2.2.1 k hk).1
theorem LV.lk (h : LV S V) {k : Nat} (hk : k < S.1 12) : lkR S (V 5 k) (V 7 k) k := (h.2.2.2.2.2.2.2.1 k hk).2
theorem LV.r (h : LV S V) {j : Nat} (hj : j < S.1 22) : V 8 (6 * j) = S.2.2 23 j ∧ V 8 (6 * j + 1) = S.2.2 24 j ∧ V 8 (6 * j + 2) = S.2.2 25 j ∧ V 8 (6 * j + 3) = S.2.2 26 j ∧ V 8 (6 * j + 4) = S.2.2 27 j := h.2.2.2.2.2.2.2.2.1 j hj
theorem LV.r5 (h : LV S V) {j : Nat} (hj : j < 4) : V 8 (6 * j + 5) = S.2.2 28 j := h.2.2.2.2.2.2.2.2.2.1 j hj
theorem LV.m (h : LV S V) {j : Nat} (hj : j < S.1 29) : V 9 (2 * j) = S.2.2 30 j ∧ V 9 (2 * j + 1) = S.2.2 31 j := h.2.2.2.2.2.2.2.2.2.2 j hj
theorem LV.n1 (h : LV S V) : S.1 1 ≤ 4 := h.1.1
theorem LV.n8 (h : LV S V) : S.1 8 ≤ 3 := h.1.2.1
theorem LV.n12 (h : LV S V) : S.1 12 ≤ 24 := h.1.2.2.1
theorem LV.n22 (h : LV S V) : S.1 22 ≤ 4 := h.1.2.2.2.1
theorem LV.n29 (h : LV S V) : S.1 29 ≤ 8 := h.1.2.2.2.2
end
-- how late the light is
def l_late (a b : Int32) : Int32 := if a / 1440 + b - (a / 1440 + b) / 364 * 364 ≤ 182 then 8 - 8 * (a / 1440 + b - (a / 1440 + b) / 364 * 364) / 91 else 8 - 8 * (364 - (a / 1440 + b - (a / 1440 + b) / 364 * 364)) / 91
theorem lt_q : ∀ x : Nat, x < 364 → (if nI x ≤ 182 then 8 - 8 * nI x / 91 else 8 - 8 * (364 - nI x) / 91) = if 364 - nI x ≤ nI x then 8 - 16 * (364 - nI x) / 182 else 8 - 16 * nI x / 182 := by decide +kernel
theorem l_late_eq {μ : Nat → Nat → Int32} {a : Int32} {j : Nat} (ha : inr a 0 9999999) (hj : inr (μ 2 j) 0 363) : l_late a (μ 2 j) = sp_late μ a j := by
  obtain ⟨n, rfl, -, h2, -⟩ := inr_nat ha (by decide)
  obtain ⟨p, hp, -, h4, -⟩ := inr_nat hj (by decide)
  have h2 : (n : Int) ≤ 9999999 := h2
  have h4 : (p : Int) ≤ 363 := h4
  have e1 : nI n / 1440 = nI (n / 1440) := pk_div (a := n) (d := 1440) (by omega) (by omega) (by omega)
  have e2 : nI n / 1440 + nI p = nI (n / 1440 + p) := by rw [e1]; exact nI_add _ _
  have e3 : nI (n / 1440 + p) - nI (n / 1440 + p) / 364 * 364 = nI ((n / 1440 + p) % 364) := pk_rem (a := n / 1440 + p) (d := 364) (by omega) (by omega) (by omega)
  have hx : (n / 1440 + p) % 364 < 364 := Nat.mod_lt _ (by decide)
  unfold l_late sp_late sp_k
  rw [hp, e2, e3]
  generalize (n / 1440 + p) % 364 = x at hx
  exact lt_q x hx
-- quotients rounded down
theorem down_le {n d : Int32} (hd : 0 < d) (h : n / d * d ≤ n) : n / d = qd n d := by
  have e := tr_i (n := n) hd
  have h0 : (0 : Int) < d.toInt := by have := i_lt.mp hd; rwa [i_0] at this
  rw [i_le, e.1] at h
  have h4 := Int.tdiv_mul_add_tmod n.toInt d.toInt
  unfold qd
  rw [if_neg (by rw [i_lt, i_0, e.2]; omega)]
theorem down_gt {n d : Int32} (hd : 0 < d) (h : ¬ n / d * d ≤ n) : n / d - 1 = qd n d := by
  have e := tr_i (n := n) hd
  have h0 : (0 : Int) < d.toInt := by have := i_lt.mp hd; rwa [i_0] at this
  rw [i_le, e.1] at h
  have h4 := Int.tdiv_mul_add_tmod n.toInt d.toInt
  unfold qd
  rw [if_pos (by rw [i_lt, i_0, e.2]; omega)]
-- the set's bits
theorem l_bit : ∀ m : Nat, m < 16 → ∀ k : Nat, k < 4 → (nI m >>> (nI k &&& 31)) &&& 1 = if m.testBit k = true then (1 : Int32) else 0 := by decide +kernel
theorem sel_yes {μ : Nat → Nat → Int32} {e1 e2 : Int32} {k : Nat} (h : selp μ e1 e2 k) {n : Nat} (e : n = k) : sp_sel μ e1 e2 (n + 1) = sp_sel μ e1 e2 n ++ [n] := by
  subst e
  rw [sp_sel, if_pos h]
theorem sel_no {μ : Nat → Nat → Int32} {e1 e2 : Int32} {k : Nat} (h : ¬ selp μ e1 e2 k) : sp_sel μ e1 e2 (k + 1) = sp_sel μ e1 e2 k := by
  rw [sp_sel, if_neg h]
theorem io_d {μ : Nat → Nat → Int32} {e1 e2 : Int32} {k s st of d : Nat} (hs : s < 2) (hst : st < 4) (hof : of < 8) (hd : d < 2) (h21 : μ 21 k = nI d) (c : 64 ≤ nI (s + 2 * st + 8 * of + 64 * d)) : ¬ selp μ e1 e2 k := by
  intro g
  have h1 := (nI_leI (a := 64) (b := s + 2 * st + 8 * of + 64 * d) (by omega) (by omega)).mp c
  have hd1 : d = 1 := by omega
  subst hd1
  exact absurd (h21.symm.trans g.1) (by decide)
theorem io_u {μ : Nat → Nat → Int32} {e1 e2 : Int32} {k s st of d m n : Nat} (hs : s < 2) (hst : st < n) (hn : n ≤ 4) (hof : of < 8) (hd : d < 2) (h21 : μ 21 k = nI d) (h14 : μ 14 k = nI st) (hm : mskR n (μ 3) m e1 e2) (c : ¬ 64 ≤ nI (s + 2 * st + 8 * of + 64 * d)) : m.testBit st = true ↔ selp μ e1 e2 k := by
  have hd0 : d = 0 := by
    by_cases g : d = 0
    · exact g
    · exact absurd (nI_le (a := 64) (by omega) (by omega)) c
  subst hd0
  rw [hm.2 st (by omega)]
  unfold selp
  rw [h21, h14, ix_nI (by omega)]
  exact ⟨fun h => ⟨rfl, h.2⟩, fun h => ⟨hst, h.2⟩⟩
-- raw lights, lights, times
theorem raw_s {μ : Nat → Nat → Int32} {V : Nat → Nat → Int32} {k f a b g : Nat} (hc : ∀ j, j < 10 → V 0 j = μ 0 j) (hf : f < 10) (hg : g < 10) (h13 : μ 13 k = nI 0) (h17 : μ 17 k = nI f) (h18 : μ 18 k = nI a) (h19 : μ 19 k = nI b) (h20 : μ 20 k = nI g) : V 0 f + qd ((V 0 g - V 0 f) * nI a) (nI (a + b)) = sp_raw μ k := by
  unfold sp_raw
  rw [if_pos (show μ 13 k = 0 from h13), h17, h18, h19, h20, ix_nI (by omega), ix_nI (by omega), hc f hf, hc g hg, nI_add]
theorem raw_d {S : mS} {V : Nat → Nat → Int32} (hV : LV S V) {k of : Nat} (hk : k < S.1 12) (hof : of < S.1 8) (h13 : S.2.2 13 k = nI 1) (h15 : S.2.2 15 k = nI of) : V 4 (3 * of + 1) - V 6 k * V 4 (3 * of + 2) / 10 = sp_raw S.2.2 k := by
  have hp := hV.p hof
  have := hV.n8
  unfold sp_raw
  rw [if_neg (by rw [h13]; decide), h15, ix_nI (by omega), hp.2.1, hp.2.2, hV.t hk]
theorem light_s {μ : Nat → Nat → Int32} {b : Int32} {k of : Nat} (h13 : μ 13 k = nI 0) (h15 : μ 15 k = nI of) (hof : of < 8) (hb : b = μ 6 of) : sp_raw μ k - b = sp_light μ k := by
  unfold sp_light
  rw [if_pos (show μ 13 k = 0 from h13), h15, ix_nI (by omega), hb]
theorem light_d {μ : Nat → Nat → Int32} {k : Nat} (h13 : μ 13 k = nI 1) : sp_raw μ k - 0 = sp_light μ k := by
  unfold sp_light
  rw [if_neg (by rw [h13]; decide)]
theorem time_ac (a b c : Int32) : a + b - c = a - c + b := by
  rw [Int32.sub_eq_add_neg, Int32.sub_eq_add_neg, Int32.add_assoc, Int32.add_comm b, ← Int32.add_assoc]
theorem time_s {S : mS} {V : Nat → Nat → Int32} (hV : LV S V) (hI : Inv S) {k st of : Nat} (hk : k < S.1 12) (hst : st < S.1 1) (hof : of < 8) (h13 : S.2.2 13 k = nI 0) (h14 : S.2.2 14 k = nI st) (h15 : S.2.2 15 k = nI of) : V 6 k + l_late (V 6 k) (V 3 (4 * st)) - V 2 of = sp_time S.2.2 k := by
  have h16 := (Inv.step (cn := S.1) (sc := S.2.1) (μ := S.2.2) hI hk h13).2.1
  have hn := hV.n1
  unfold sp_time
  rw [if_pos (show S.2.2 13 k = 0 from h13), hV.t hk, hV.a0 hst, hV.w hof, h15, h14, ix_nI (by omega), ix_nI (by omega), l_late_eq h16 (hI.2.2.1 st hst).1, time_ac]
theorem time_d {S : mS} {V : Nat → Nat → Int32} (hV : LV S V) (hI : Inv S) {k st of : Nat} (hk : k < S.1 12) (hst : st < S.1 1) (hof : of < S.1 8) (h13 : S.2.2 13 k = nI 1) (h14 : S.2.2 14 k = nI st) (h15 : S.2.2 15 k = nI of) : V 4 (3 * of) + l_late (V 4 (3 * of)) (V 3 (4 * st)) - 0 = sp_time S.2.2 k := by
  have h9 := (hI.2.2.2.2.1 of hof).1
  have hn := hV.n1
  have hn8 := hV.n8
  unfold sp_time
  rw [if_neg (by rw [h13]; decide), (hV.p hof).1, hV.a0 hst, h15, h14, ix_nI (by omega), ix_nI (by omega), l_late_eq h9 (hI.2.2.1 st hst).1, time_ac]
-- who is ahead
theorem rmd2 {y P : Int32} (hP : inr P 30 1000000) : y - y / P * P + P - (y - y / P * P + P) / P * P = rmd y P := by
  have hp : 0 < P := per_pos hP
  have h0 : (0 : Int) < P.toInt := by have := i_lt.mp hp; rwa [i_0] at this
  have hr := fb_rng P
  have hb := inr_int hP
  have hb2 : P.toInt ≤ 1000000 := hb.2
  have e := (tr_i (n := y) hp).2
  have hm1 : -P.toInt < y.toInt.tmod P.toInt ∧ y.toInt.tmod P.toInt < P.toInt := by
    rcases Int.lt_or_le y.toInt 0 with h | h
    · obtain ⟨-, g2, g3, -⟩ := td_neg h h0; omega
    · obtain ⟨-, g2, g3, -⟩ := td_pos h h0; omega
  have e2 : (y - y / P * P + P).toInt = y.toInt.tmod P.toInt + P.toInt := by rw [fb_addI (by rw [e]; omega) (by rw [e]; omega), e]
  have e3 := (tr_i (n := y - y / P * P + P) hp).2
  rw [e2] at e3
  rw [i_eq, e3]
  unfold rmd
  by_cases c : y - y / P * P < 0
  · rw [if_pos c]
    rw [i_lt, i_0, e] at c
    rw [e2, Int.tmod_eq_of_lt (by omega) (by omega)]
  · rw [if_neg c]
    rw [i_lt, i_0, e] at c
    rw [e, Int.tmod_eq_emod_of_nonneg (by omega), Int.add_emod_right, Int.emod_eq_of_lt (by omega) (by omega)]
