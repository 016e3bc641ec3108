/-! ===== the law's body: what its loop keeps ===== -/
/-- what stands through the whole law -/
def lw_G (p : Program) (l : Launch) (s : State) (m : MethodId) (meth : Method) (c : Code) (b L : Nat) (xs : Nat → Int32) (E : hk_E) (Z : Nat → Prop) (la : Nat → Nat) (b4 : Nat) : Prop :=
  l.stackTraces = false ∧ L ≤ 260 ∧ lw_At p s m meth c b L xs ∧ CallFix p m c cL_law 26 s #[Value.ref b] wsL_law RL ∧ hk_K E s s.heap ∧ E.2.2.1 = s.heap.size ∧ (∀ q, b4 ≤ q → Z q) ∧ (∀ k, k < 13 → ¬ Z (la k)) ∧ (∀ a, a < 13 → ∀ b, b < 13 → la a = la b → a = b) ∧ ∀ k, k < 13 → hk_A E (la k)
/-- what the loop keeps: a house, and the tables that hold it -/
def lw_J (E : hk_E) (Z : Nat → Prop) (ho ts : Nat) (li : Nat → Nat) (rr : Nat → Nat → Nat) (la : Nat → Nat) (b4 : Nat) (s : State) (P : mS → Prop) (H : Heap) (locs : List Loc) : Prop :=
  ∃ (G : hG) (R : hR) (V : Nat → Nat → Int32) (S : mS), InvF S ∧ LV S V ∧ HW E Z (ho, li, rr, ts) G R S H ∧ LW E la V H ∧ va_S (hk_A E) s.heap H locs ∧ b4 ≤ H.size ∧ P S
/-- how many stars there are at a turn -/
def tI (tn n : Nat) : Prop := (tn < 2 → n = tn) ∧ (2 ≤ tn → 2 ≤ n)
theorem LW.mk13 {E : hk_E} {la : Nat → Nat} {V : Nat → Nat → Int32} {H : Heap} (h0 : hk_I E 0 (la 0) 10 (V 0) H) (h1 : hk_I E 0 (la 1) 8 (V 1) H) (h2 : hk_I E 0 (la 2) 8 (V 2) H) (h3 : hk_I E 0 (la 3) 16 (V 3) H) (h4 : hk_I E 0 (la 4) 9 (V 4) H) (h5 : hk_I E 0 (la 5) 24 (V 5) H) (h6 : hk_I E 0 (la 6) 24 (V 6) H) (h7 : hk_I E 0 (la 7) 24 (V 7) H) (h8 : hk_I E 0 (la 8) 24 (V 8) H) (h9 : hk_I E 0 (la 9) 16 (V 9) H) (h10 : hk_I E 0 (la 10) 6 (V 10) H) (h11 : hk_I E 0 (la 11) 24 (V 11) H) (h12 : hk_I E 0 (la 12) 24 (V 12) H) : LW E la V H := by
  intro k hk
  rcases (show k = 0 ∨ k = 1 ∨ k = 2 ∨ k = 3 ∨ k = 4 ∨ k = 5 ∨ k = 6 ∨ k = 7 ∨ k = 8 ∨ k = 9 ∨ k = 10 ∨ k = 11 ∨ k = 12 by omega) with g | g | g | g | g | g | g | g | g | g | g | g | g <;> subst g
  · exact h0
  · exact h1
  · exact h2
  · exact h3
  · exact h4
  · exact h5
  · exact h6
  · exact h7
  · exact h8
  · exact h9
  · exact h10
  · exact h11
  · exact h12
theorem sub_int {y c : Nat} (hy : y < 2 ^ 30) (hc : c < 2 ^ 30) : (nI y - nI c).toInt = (y : Int) - (c : Int) := by
  rw [fb_subI (by rw [nI_toInt (by omega), nI_toInt (by omega)]; omega) (by rw [nI_toInt (by omega), nI_toInt (by omega)]; omega), nI_toInt (by omega), nI_toInt (by omega)]
theorem sub_rng {y c : Nat} {lo hi : Int32} (hy : y < 2 ^ 30) (hc : c < 2 ^ 30) (h1 : lo.toInt ≤ (y : Int) - (c : Int)) (h2 : (y : Int) - (c : Int) ≤ hi.toInt) : inr (nI y - nI c) lo hi := by
  refine ⟨?_, ?_⟩
  · rw [i_le, sub_int hy hc]; exact h1
  · rw [i_le, sub_int hy hc]; exact h2
section
variable {S : mS}
theorem star_c {x : Nat} (hx : x < 364) (hn : S.1 1 < 4) : cd_star (nI x) S = 0 := by
  unfold cd_star
  rw [if_pos (show inr (nI x) 0 363 from inr_nI (a := 0) (b := 363) (by omega) (by omega) (by omega)), if_neg (fun g => by have := (nI_eq (b := 12) (by omega) (by omega)).mp g; omega)]
theorem comp_c {x : Nat} {v : Int32} (hx : x < 10) (hv : inr v (-200) 2000) : cd_comparison (nI x) v S = 0 := by
  unfold cd_comparison
  rw [if_pos (show inr (nI x) 0 9 from inr_nI (a := 0) (b := 9) (by omega) (by omega) (by omega)), if_pos hv]
theorem comp_a {x : Nat} {v : Int32} (hx : x < 10) : an_comparison (nI x) v S = S.2.2 0 x := by unfold an_comparison; rw [ix_nI (by omega)]
theorem plat_c {x z : Nat} {v : Int32} (hx : x ≤ 9999999) (hv : inr v (-500) 3000) (hz1 : 1 ≤ z) (hz : z ≤ 20) (hn : S.1 8 < 3) : cd_plate (nI x) v (nI z) S = 0 := by
  unfold cd_plate
  rw [if_pos (show inr (nI x) 0 9999999 from inr_nI (a := 0) (b := 9999999) (by omega) (by omega) (by omega)), if_pos hv, if_pos (show inr (nI z) 1 20 from inr_nI (a := 1) (b := 20) (by omega) (by omega) (by omega)), if_neg (fun g => by have := (nI_eq (b := 8) (by omega) (by omega)).mp g; omega)]
theorem bias_c {x : Nat} {v : Int32} (hx : x < 8) (hv : inr v (-99) 99) : cd_bias (nI x) v S = 0 := by
  unfold cd_bias
  rw [if_pos (show inr (nI x) 0 7 from inr_nI (a := 0) (b := 7) (by omega) (by omega) (by omega)), if_pos hv]
theorem bias_a {x : Nat} {v : Int32} (hx : x < 8) : an_bias (nI x) v S = S.2.2 6 x := by unfold an_bias; rw [ix_nI (by omega)]
theorem cloc_c {x : Nat} {v : Int32} (hx : x < 8) (hv : inr v (-1440) 1440) : cd_clock (nI x) v S = 0 := by
  unfold cd_clock
  rw [if_pos (show inr (nI x) 0 7 from inr_nI (a := 0) (b := 7) (by omega) (by omega) (by omega)), if_pos hv]
theorem cloc_a {x : Nat} {v : Int32} (hx : x < 8) : an_clock (nI x) v S = S.2.2 7 x := by unfold an_clock; rw [ix_nI (by omega)]
theorem join_c {x : Nat} {v : Int32} (hx : x < S.1 8) (hn : S.1 8 ≤ 3) (hv : inr v (-500) 3000) : cd_join (nI x) v S = 0 := by
  unfold cd_join
  rw [if_pos (isS_nI hx (by omega)), if_pos hv]
theorem join_a {x : Nat} {v : Int32} (hx : x < 3) : an_join (nI x) v S = S.2.2 10 x := by unfold an_join; rw [ix_nI (by omega)]
theorem step_c {st of x f a b g : Nat} (hst : st < S.1 1) (hn1 : S.1 1 ≤ 4) (hof : of < 8) (hx : x ≤ 9999999) (hf : f < 10) (ha : a < 10) (hb : b < 10) (hg : g < 10) (hab : 0 < a + b) (hfg : f ≠ g) (hn : S.1 12 < 24) : cd_step (nI st) (nI of) (nI x) (nI f) (nI a) (nI b) (nI g) S = 0 := by
  have hi : ∀ y, y < 10 → inr (nI y) 0 9 := fun y hy => inr_nI (a := 0) (b := 9) (by omega) (by omega) (by omega)
  unfold cd_step
  rw [if_pos (isS_nI hst (by omega)), if_pos (show inr (nI of) 0 7 from inr_nI (a := 0) (b := 7) (by omega) (by omega) (by omega)), if_pos (hi f hf), if_pos (hi g hg), if_pos (show inr (nI x) 0 9999999 from inr_nI (a := 0) (b := 9999999) (by omega) (by omega) (by omega)), if_pos (hi a ha), if_pos (hi b hb), nI_add,
    if_neg (fun q => by have := (nI_leI (b := 0) (by omega) (by omega)).mp q; omega), if_neg (fun q => hfg ((nI_eq (by omega) (by omega)).mp q)), if_neg (fun q => by have := (nI_eq (b := 80) (by omega) (by omega)).mp q; omega)]
theorem dens_c {st of x : Nat} (hst : st < S.1 1) (hn1 : S.1 1 ≤ 4) (hof : of < S.1 8) (hn8 : S.1 8 ≤ 3) (hx : x < 256) (hn : S.1 12 < 24) : cd_density (nI st) (nI of) (nI x) S = 0 := by
  unfold cd_density
  rw [if_pos (isS_nI hst (by omega)), if_pos (isS_nI hof (by omega)), if_pos (show inr (nI x) 0 255 from inr_nI (a := 0) (b := 255) (by omega) (by omega) (by omega)), if_neg (fun q => by have := (nI_eq (b := 80) (by omega) (by omega)).mp q; omega)]
theorem doub_c {k : Nat} {v : Int32} (hk : k < S.1 12) (hn : S.1 12 ≤ 24) : cd_doubt (nI k) v S = 0 := by
  unfold cd_doubt
  rw [if_pos (isS_nI hk (by omega))]
theorem doub_a {k : Nat} {v : Int32} (hk : k < 24) : an_doubt (nI k) v S = S.2.2 21 k := by unfold an_doubt; rw [ix_nI (by omega)]
theorem mini_c {st x : Nat} (hst : st < S.1 1) (hn1 : S.1 1 ≤ 4) (hx : x ≤ 9999999) (hn : S.1 29 < 8) : cd_minimum (nI st) (nI x) S = 0 := by
  unfold cd_minimum
  rw [if_pos (isS_nI hst (by omega)), if_pos (show inr (nI x) 0 9999999 from inr_nI (a := 0) (b := 9999999) (by omega) (by omega) (by omega)), if_neg (fun q => by have := (nI_eq (b := 30) (by omega) (by omega)).mp q; omega)]
theorem clai_c {st : Nat} {v : Int32} (hst : st < S.1 1) (hn1 : S.1 1 ≤ 4) (hv : v = 0 ∨ inr v 30 1000000) : cd_claim (nI st) v S = 0 := by
  unfold cd_claim
  rw [if_pos (isS_nI hst (by omega))]
  by_cases c : v = 0
  · rw [if_pos c]
  · rw [if_neg c, if_pos (hv.resolve_left c)]
theorem clai_a {st : Nat} {v : Int32} (hst : st < 4) : an_claim (nI st) v S = S.2.2 4 st := by unfold an_claim; rw [ix_nI (by omega)]
theorem dust_c {st x : Nat} (hst : st < S.1 1) (hn1 : S.1 1 ≤ 4) (hx : x ≤ 500) : cd_dust (nI st) (nI x) S = 0 := by
  unfold cd_dust
  rw [if_pos (isS_nI hst (by omega)), if_pos (show inr (nI x) 0 500 from inr_nI (a := 0) (b := 500) (by omega) (by omega) (by omega))]
theorem dust_a {st : Nat} {v : Int32} (hst : st < 4) : an_dust (nI st) v S = S.2.2 5 st := by unfold an_dust; rw [ix_nI (by omega)]
theorem rule_c {a b f t : Nat} {v : Int32} (ha : a < 5) (hb : b < 3) (hf : f ≤ 1000000) (ht : f ≤ t) (ht2 : t ≤ 1000000) (hv : inr v (-9) 9) (hv0 : ¬ v = 0) (hn : S.1 22 < 4) : cd_rule (nI a) (nI b) (nI f) (nI t) v S = 0 := by
  unfold cd_rule
  rw [if_pos (show inr (nI a) 0 4 from inr_nI (a := 0) (b := 4) (by omega) (by omega) (by omega)), if_pos (show inr (nI b) 0 2 from inr_nI (a := 0) (b := 2) (by omega) (by omega) (by omega)), if_pos (show inr (nI f) 0 1000000 from inr_nI (a := 0) (b := 1000000) (by omega) (by omega) (by omega)), if_pos (show inr (nI t) (nI f) 1000000 from inr_nI (b := 1000000) ht ht2 (by omega)), if_pos hv, if_neg hv0, if_neg (fun q => by have := (nI_eq (b := 8) (by omega) (by omega)).mp q; omega)]
theorem with_c {k : Nat} {v : Int32} (hk : k < S.1 22) (hn : S.1 22 ≤ 4) : cd_withdraw (nI k) v S = 0 := by
  unfold cd_withdraw
  rw [if_pos (isS_nI hk (by omega))]
theorem with_a {k : Nat} {v : Int32} (hk : k < 4) : an_withdraw (nI k) v S = S.2.2 28 k := by unfold an_withdraw; rw [ix_nI (by omega)]
theorem zero_c {v : Int32} (hv : inr v (-1000) 1000) : cd_zero v S = 0 := if_pos hv
end
/-- the sets, the first j told anew -/
def chA (A g : Nat → Int32) (j : Nat) : Nat → Int32 := fun i => if i % 4 = 1 ∧ i / 4 < j then g (i / 4) else A i
theorem chA_0 {A g : Nat → Int32} : chA A g 0 = A := by
  funext i
  exact if_neg (fun h => absurd h.2 (Nat.not_lt_zero _))
theorem chA_step {A g : Nat → Int32} {j : Nat} {v : Int32} (hv : v = g j) : upd (chA A g j) (4 * j + 1) v = chA A g (j + 1) := by
  funext i
  unfold upd chA
  by_cases c : i = 4 * j + 1
  · rw [if_pos c, if_pos ⟨by omega, by omega⟩, hv, show i / 4 = j by omega]
  · rw [if_neg c]
    by_cases d : i % 4 = 1 ∧ i / 4 < j
    · rw [if_pos d, if_pos ⟨d.1, by omega⟩]
    · rw [if_neg d, if_neg (fun h => d ⟨h.1, by omega⟩)]
theorem chA_rd {A g : Nat → Int32} {j : Nat} : chA A g j (4 * j + 1) = A (4 * j + 1) := if_neg (fun h => by have := h.2; omega)
theorem chA_at {A g : Nat → Int32} {j : Nat} (hj : j < 4) : chA A g 4 (4 * j + 1) = g j := by
  unfold chA
  rw [if_pos ⟨by omega, by omega⟩, show (4 * j + 1) / 4 = j by omega]
theorem chA_ot {A g : Nat → Int32} {i : Nat} (h : ∀ j, j < 4 → i ≠ 4 * j + 1) : chA A g 4 i = A i := by
  refine if_neg (fun q => ?_)
  exact h (i / 4) q.2 (by omega)
def mgG (A : Nat → Int32) (sq : Nat) : Nat → Int32 := fun k => if sq.testBit k = true then nI sq else A (4 * k + 1)
def spG (A : Nat → Int32) (sq st : Nat) : Nat → Int32 := fun k => if sq.testBit k = true then nI sq else if k = st then nI (2 ^ st) else A (4 * k + 1)
theorem st_merge_at {S : mS} {a b : Nat} (ha : a < 4) (hb : b < 4) : st_merge (nI a) (nI b) S = (S.1, S.2.1, va_up S.2.2 3 (sp_mrg (S.2.2 3) (S.2.2 3 a) (S.2.2 3 b) (S.1 1))) := by
  unfold st_merge
  rw [ix_nI (by omega), ix_nI (by omega)]
theorem st_split_at {S : mS} {a : Nat} (ha : a < 4) : st_split (nI a) S = (S.1, S.2.1, va_up S.2.2 3 (sp_spl (S.2.2 3) a (nI a) (S.1 1))) := by
  unfold st_split
  rw [ix_nI (by omega)]
theorem ent_id {S : mS} {V : Nat → Nat → Int32} (h : LV (S.1, S.2.1, va_up S.2.2 3 (S.2.2 3)) V) : LV S V := by
  rw [va_same] at h
  exact h
theorem lv_mrg0 {S : mS} {V : Nat → Nat → Int32} (h : LV S V) (hI : InvF S) {a b ma mb sq : Nat} (ha : a < S.1 1) (hmA : mskR (S.1 1) (S.2.2 3) ma (S.2.2 3 a) (-1)) (hsq : sq = ma ||| mb) (hab : ma = mb) : LV S (va_up V 3 (chA (V 3) (mgG (V 3) sq) 4)) := by
  have hn := h.n1
  have e : sq = ma := by rw [hsq, ← hab, Nat.or_self]
  refine ent_id (lv_ent h (fun j hj => ?_) (fun i hi => chA_ot hi))
  rw [chA_at (by omega)]
  unfold mgG
  by_cases c : sq.testBit j = true
  · rw [if_pos c]
    rw [e] at c ⊢
    have g := ((hmA.2 j (by omega)).mp c).2.resolve_right (ent_ne hI hn j hj)
    exact ⟨ma, rfl, by rw [g]; exact hmA⟩
  · rw [if_neg c]; exact h.a1 hj
theorem lv_mrg1 {S : mS} {V : Nat → Nat → Int32} (h : LV S V) (hI : InvF S) {a b sq : Nat} (ha : a < S.1 1) (hb : b < S.1 1) (hne : ¬ S.2.2 3 a = S.2.2 3 b) (hmu : mskR (S.1 1) (S.2.2 3) sq (S.2.2 3 a) (S.2.2 3 b)) : LV (st_merge (nI a) (nI b) S) (va_up V 3 (chA (V 3) (mgG (V 3) sq) 4)) := by
  have hn := h.n1
  have he : entI (S.2.2 3) (S.1 1) := entI_of (cn := S.1) (sc := S.2.1) (μ := S.2.2) hI.1
  rw [st_merge_at (by omega) (by omega)]
  refine lv_ent h (fun j hj => ?_) (fun i hi => chA_ot hi)
  rw [chA_at (by omega)]
  unfold mgG
  by_cases c : sq.testBit j = true
  · rw [if_pos c]
    exact ⟨sq, rfl, mrg_set he ha hb hne hmu hj c hn⟩
  · rw [if_neg c]
    obtain ⟨mj, h1, h2⟩ := h.a1 hj
    exact ⟨mj, h1, mrg_oth he ha hb hne hmu hj c hn h2⟩
theorem merge_0 {S : mS} {a b : Nat} (hn : S.1 1 ≤ 4) (ha : a < S.1 1) (hb : b < S.1 1) (he : S.2.2 3 a = S.2.2 3 b) : cd_merge (nI a) (nI b) S = 2 := by
  unfold cd_merge
  rw [if_pos (isS_nI ha (by omega)), if_pos (isS_nI hb (by omega)), ix_nI (by omega), ix_nI (by omega), if_pos he]
theorem merge_1 {S : mS} {a b : Nat} (hn : S.1 1 ≤ 4) (ha : a < S.1 1) (hb : b < S.1 1) (he : ¬ S.2.2 3 a = S.2.2 3 b) : cd_merge (nI a) (nI b) S = 0 := by
  unfold cd_merge
  rw [if_pos (isS_nI ha (by omega)), if_pos (isS_nI hb (by omega)), ix_nI (by omega), ix_nI (by omega), if_neg he]
theorem merge_a {S : mS} (hI : InvF S) {a b sq : Nat} (hn : S.1 1 ≤ 4) (ha : a < S.1 1) (hb : b < S.1 1) (hne : ¬ S.2.2 3 a = S.2.2 3 b) (hmu : mskR (S.1 1) (S.2.2 3) sq (S.2.2 3 a) (S.2.2 3 b)) : an_merge (nI a) (nI b) S = nI (lowb sq) ∧ sq ≠ 0 := by
  have he : entI (S.2.2 3) (S.1 1) := entI_of (cn := S.1) (sc := S.2.1) (μ := S.2.2) hI.1
  have hba : sq.testBit a = true := (hmu.2 a (by omega)).mpr ⟨ha, Or.inl rfl⟩
  have h1 := mrg_set he ha hb hne hmu ha hba hn
  have hok : entOK (S.1 1) (sp_mrg (S.2.2 3) (S.2.2 3 a) (S.2.2 3 b) (S.1 1)) := ent_mrg (InvF.ent (cn := S.1) (sc := S.2.1) (μ := S.2.2) hI) ha hne
  obtain ⟨g1, g2, -⟩ := low_ent hok hn ha h1
  refine ⟨?_, g1⟩
  unfold an_merge
  rw [ix_nI (by omega), ix_nI (by omega), mrg_low he ha hb hne, ← g2, mrg_at he ha hb hne ha, if_pos (Or.inl rfl)]
theorem split_0 {S : mS} (hI : InvF S) {a ma : Nat} (hn : S.1 1 ≤ 4) (ha : a < S.1 1) (hmA : mskR (S.1 1) (S.2.2 3) ma (S.2.2 3 a) (-1)) (h0 : ma - 2 ^ a = 0) : cd_split (nI a) S = 2 := by
  have he : entI (S.2.2 3) (S.1 1) := entI_of (cn := S.1) (sc := S.2.1) (μ := S.2.2) hI.1
  unfold cd_split
  rw [if_pos (isS_nI ha (by omega)), ix_nI (by omega), if_pos ((spl_cnt he hn ha hmA).mpr h0)]
theorem split_1 {S : mS} (hI : InvF S) {a ma : Nat} (hn : S.1 1 ≤ 4) (ha : a < S.1 1) (hmA : mskR (S.1 1) (S.2.2 3) ma (S.2.2 3 a) (-1)) (h0 : ma - 2 ^ a ≠ 0) : cd_split (nI a) S = 0 := by
  have he : entI (S.2.2 3) (S.1 1) := entI_of (cn := S.1) (sc := S.2.1) (μ := S.2.2) hI.1
  unfold cd_split
  rw [if_pos (isS_nI ha (by omega)), ix_nI (by omega), if_neg (fun g => h0 ((spl_cnt he hn ha hmA).mp g))]
theorem split_a {S : mS} (hI : InvF S) {a ma : Nat} (hn : S.1 1 ≤ 4) (ha : a < S.1 1) (hmA : mskR (S.1 1) (S.2.2 3) ma (S.2.2 3 a) (-1)) (h0 : ma - 2 ^ a ≠ 0) : an_split (nI a) S = nI (lowb (ma - 2 ^ a)) := by
  have he : entI (S.2.2 3) (S.1 1) := entI_of (cn := S.1) (sc := S.2.1) (μ := S.2.2) hI.1
  unfold an_split
  rw [ix_nI (by omega)]
  exact (spl_low he hn ha hmA h0).1
theorem lv_spl0 {S : mS} {V : Nat → Nat → Int32} (h : LV S V) {a ma : Nat} (ha : a < S.1 1) (hma : V 3 (4 * a + 1) = nI ma) (hmA : mskR (S.1 1) (S.2.2 3) ma (S.2.2 3 a) (-1)) (h0 : ma - 2 ^ a = 0) : LV S (va_up V 3 (chA (V 3) (spG (V 3) (ma - 2 ^ a) a) 4)) := by
  have hn := h.n1
  have hba : ma.testBit a = true := (hmA.2 a (by omega)).mpr ⟨ha, Or.inl rfl⟩
  have hs2 := sub_bit ma hmA.1 a (by omega) hba
  have e : ma = 2 ^ a := by omega
  refine ent_id (lv_ent h (fun j hj => ?_) (fun i hi => chA_ot hi))
  rw [chA_at (by omega)]
  unfold spG
  rw [h0, if_neg (bit_0 j)]
  by_cases c : j = a
  · rw [if_pos c, c, ← e]
    exact ⟨ma, rfl, hmA⟩
  · rw [if_neg c]; exact h.a1 hj
theorem lv_spl1 {S : mS} {V : Nat → Nat → Int32} (h : LV S V) (hI : InvF S) {a ma : Nat} (ha : a < S.1 1) (hmA : mskR (S.1 1) (S.2.2 3) ma (S.2.2 3 a) (-1)) (h0 : ma - 2 ^ a ≠ 0) : LV (st_split (nI a) S) (va_up V 3 (chA (V 3) (spG (V 3) (ma - 2 ^ a) a) 4)) := by
  have hn := h.n1
  have he : entI (S.2.2 3) (S.1 1) := entI_of (cn := S.1) (sc := S.2.1) (μ := S.2.2) hI.1
  rw [st_split_at (by omega)]
  refine lv_ent h (fun j hj => ?_) (fun i hi => chA_ot hi)
  rw [chA_at (by omega)]
  unfold spG
  by_cases c : (ma - 2 ^ a).testBit j = true
  · rw [if_pos c]
    exact ⟨_, rfl, spl_set he hn ha hmA h0 hj c⟩
  · rw [if_neg c]
    by_cases d : j = a
    · rw [if_pos d, d]
      exact ⟨_, rfl, spl_own he hn ha hmA h0⟩
    · rw [if_neg d]
      obtain ⟨mj, h1, h2⟩ := h.a1 hj
      exact ⟨mj, h1, spl_oth he hn ha hmA h0 hj c d h2⟩
theorem hd_L_areLooks : yL_areLooks.cls ≠ "java/lang/invoke/MethodHandle" ∧ yL_areLooks.cls ≠ "java/lang/invoke/VarHandle" ∧ (parseMethodDescriptor yL_areLooks.desc).map (fun d => d.parameters.length) = some 9 := ⟨by decide, by decide, by decide +kernel⟩
theorem hd_L_areMinima : yL_areMinima.cls ≠ "java/lang/invoke/MethodHandle" ∧ yL_areMinima.cls ≠ "java/lang/invoke/VarHandle" ∧ (parseMethodDescriptor yL_areMinima.desc).map (fun d => d.parameters.length) = some 5 := ⟨by decide, by decide, by decide +kernel⟩
theorem hd_L_areNear : yL_areNear.cls ≠ "java/lang/invoke/MethodHandle" ∧ yL_areNear.cls ≠ "java/lang/invoke/VarHandle" ∧ (parseMethodDescriptor yL_areNear.desc).map (fun d => d.parameters.length) = some 5 := ⟨by decide, by decide, by decide +kernel⟩
theorem hd_L_areStars : yL_areStars.cls ≠ "java/lang/invoke/MethodHandle" ∧ yL_areStars.cls ≠ "java/lang/invoke/VarHandle" ∧ (parseMethodDescriptor yL_areStars.desc).map (fun d => d.parameters.length) = some 8 := ⟨by decide, by decide, by decide +kernel⟩
theorem hd_L_areTrials : yL_areTrials.cls ≠ "java/lang/invoke/MethodHandle" ∧ yL_areTrials.cls ≠ "java/lang/invoke/VarHandle" ∧ (parseMethodDescriptor yL_areTrials.desc).map (fun d => d.parameters.length) = some 7 := ⟨by decide, by decide, by decide +kernel⟩
theorem hd_L_lays : yL_lays.cls ≠ "java/lang/invoke/MethodHandle" ∧ yL_lays.cls ≠ "java/lang/invoke/VarHandle" ∧ (parseMethodDescriptor yL_lays.desc).map (fun d => d.parameters.length) = some 11 := ⟨by decide, by decide, by decide +kernel⟩
theorem hd_X10_bias : yX10_bias.cls ≠ "java/lang/invoke/MethodHandle" ∧ yX10_bias.cls ≠ "java/lang/invoke/VarHandle" ∧ (parseMethodDescriptor yX10_bias.desc).map (fun d => d.parameters.length) = some 2 := ⟨by decide, by decide, by decide +kernel⟩
theorem hd_X10_claim : yX10_claim.cls ≠ "java/lang/invoke/MethodHandle" ∧ yX10_claim.cls ≠ "java/lang/invoke/VarHandle" ∧ (parseMethodDescriptor yX10_claim.desc).map (fun d => d.parameters.length) = some 2 := ⟨by decide, by decide, by decide +kernel⟩
theorem hd_X10_clock : yX10_clock.cls ≠ "java/lang/invoke/MethodHandle" ∧ yX10_clock.cls ≠ "java/lang/invoke/VarHandle" ∧ (parseMethodDescriptor yX10_clock.desc).map (fun d => d.parameters.length) = some 2 := ⟨by decide, by decide, by decide +kernel⟩
theorem hd_X10_comparison : yX10_comparison.cls ≠ "java/lang/invoke/MethodHandle" ∧ yX10_comparison.cls ≠ "java/lang/invoke/VarHandle" ∧ (parseMethodDescriptor yX10_comparison.desc).map (fun d => d.parameters.length) = some 2 := ⟨by decide, by decide, by decide +kernel⟩
theorem hd_X10_density : yX10_density.cls ≠ "java/lang/invoke/MethodHandle" ∧ yX10_density.cls ≠ "java/lang/invoke/VarHandle" ∧ (parseMethodDescriptor yX10_density.desc).map (fun d => d.parameters.length) = some 3 := ⟨by decide, by decide, by decide +kernel⟩
theorem hd_X10_doubt : yX10_doubt.cls ≠ "java/lang/invoke/MethodHandle" ∧ yX10_doubt.cls ≠ "java/lang/invoke/VarHandle" ∧ (parseMethodDescriptor yX10_doubt.desc).map (fun d => d.parameters.length) = some 2 := ⟨by decide, by decide, by decide +kernel⟩
theorem hd_X10_dust : yX10_dust.cls ≠ "java/lang/invoke/MethodHandle" ∧ yX10_dust.cls ≠ "java/lang/invoke/VarHandle" ∧ (parseMethodDescriptor yX10_dust.desc).map (fun d => d.parameters.length) = some 2 := ⟨by decide, by decide, by decide +kernel⟩
theorem hd_X10_init : yX10_init.cls ≠ "java/lang/invoke/MethodHandle" ∧ yX10_init.cls ≠ "java/lang/invoke/VarHandle" ∧ (parseMethodDescriptor yX10_init.desc).map (fun d => d.parameters.length) = some 0 := ⟨by decide, by decide, by decide +kernel⟩
theorem hd_X10_join : yX10_join.cls ≠ "java/lang/invoke/MethodHandle" ∧ yX10_join.cls ≠ "java/lang/invoke/VarHandle" ∧ (parseMethodDescriptor yX10_join.desc).map (fun d => d.parameters.length) = some 2 := ⟨by decide, by decide, by decide +kernel⟩
theorem hd_X10_minimum : yX10_minimum.cls ≠ "java/lang/invoke/MethodHandle" ∧ yX10_minimum.cls ≠ "java/lang/invoke/VarHandle" ∧ (parseMethodDescriptor yX10_minimum.desc).map (fun d => d.parameters.length) = some 2 := ⟨by decide, by decide, by decide +kernel⟩
theorem hd_X10_plate : yX10_plate.cls ≠ "java/lang/invoke/MethodHandle" ∧ yX10_plate.cls ≠ "java/lang/invoke/VarHandle" ∧ (parseMethodDescriptor yX10_plate.desc).map (fun d => d.parameters.length) = some 3 := ⟨by decide, by decide, by decide +kernel⟩
theorem hd_X10_rule : yX10_rule.cls ≠ "java/lang/invoke/MethodHandle" ∧ yX10_rule.cls ≠ "java/lang/invoke/VarHandle" ∧ (parseMethodDescriptor yX10_rule.desc).map (fun d => d.parameters.length) = some 5 := ⟨by decide, by decide, by decide +kernel⟩
theorem hd_X10_star : yX10_star.cls ≠ "java/lang/invoke/MethodHandle" ∧ yX10_star.cls ≠ "java/lang/invoke/VarHandle" ∧ (parseMethodDescriptor yX10_star.desc).map (fun d => d.parameters.length) = some 1 := ⟨by decide, by decide, by decide +kernel⟩
theorem hd_X10_step : yX10_step.cls ≠ "java/lang/invoke/MethodHandle" ∧ yX10_step.cls ≠ "java/lang/invoke/VarHandle" ∧ (parseMethodDescriptor yX10_step.desc).map (fun d => d.parameters.length) = some 7 := ⟨by decide, by decide, by decide +kernel⟩
theorem hd_X10_withdraw : yX10_withdraw.cls ≠ "java/lang/invoke/MethodHandle" ∧ yX10_withdraw.cls ≠ "java/lang/invoke/VarHandle" ∧ (parseMethodDescriptor yX10_withdraw.desc).map (fun d => d.parameters.length) = some 2 := ⟨by decide, by decide, by decide +kernel⟩
theorem hd_X10_zero : yX10_zero.cls ≠ "java/lang/invoke/MethodHandle" ∧ yX10_zero.cls ≠ "java/lang/invoke/VarHandle" ∧ (parseMethodDescriptor yX10_zero.desc).map (fun d => d.parameters.length) = some 1 := ⟨by decide, by decide, by decide +kernel⟩
