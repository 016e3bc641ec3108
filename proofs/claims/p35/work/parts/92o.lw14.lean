/-! ===== merging and splitting, as sets ===== -/
theorem mrg_at {f : Nat → Int32} {n a b : Nat} (h : entI f n) (ha : a < n) (hb : b < n) (hne : f a ≠ f b) {i : Nat} (hi : i < n) : sp_mrg f (f a) (f b) n i = if f i = f a ∨ f i = f b then (if f b < f a then f b else f a) else f i := by
  rw [← mrg_eq h ha hb hne]
  unfold sp_ren
  by_cases c : f a < f b
  · have c2 : ¬ f b < f a := fun g => by rw [i_lt] at c g; omega
    rw [if_pos c, if_neg c2]
    by_cases e : f i = f b
    · rw [if_pos ⟨hi, e⟩, if_pos (Or.inr e)]
    · rw [if_neg (fun g => e g.2)]
      by_cases e2 : f i = f a
      · rw [if_pos (Or.inl e2), e2]
      · rw [if_neg (fun g => g.elim e2 e)]
  · have c2 : f b < f a := by
      have hx : (f a).toInt ≠ (f b).toInt := fun g => hne (Int32.toInt_inj.mp g)
      rw [i_lt] at c ⊢; omega
    rw [if_neg c, if_pos c2]
    by_cases e : f i = f a
    · rw [if_pos ⟨hi, e⟩, if_pos (Or.inl e)]
    · rw [if_neg (fun g => e g.2)]
      by_cases e2 : f i = f b
      · rw [if_pos (Or.inr e2), e2]
      · rw [if_neg (fun g => g.elim e e2)]
/-- the union's set stands for the merged entry -/
theorem mrg_set {f : Nat → Int32} {n a b : Nat} (h : entI f n) (ha : a < n) (hb : b < n) (hne : f a ≠ f b) {m : Nat} (hm : mskR n f m (f a) (f b)) {j : Nat} (hj : j < n) (hb9 : m.testBit j = true) (hn : n ≤ 4) : mskR n (sp_mrg f (f a) (f b) n) m (sp_mrg f (f a) (f b) n j) (-1) := by
  have hjm := (hm.2 j (by omega)).mp hb9
  refine ⟨hm.1, fun k hk => ?_⟩
  rw [hm.2 k hk]
  have ej := mrg_at h ha hb hne hj
  rw [if_pos hjm.2] at ej
  rw [ej]
  have hlo : (if f b < f a then f b else f a) = f a ∨ (if f b < f a then f b else f a) = f b := by
    by_cases c : f b < f a
    · rw [if_pos c]; exact Or.inr rfl
    · rw [if_neg c]; exact Or.inl rfl
  constructor
  · intro g
    refine ⟨g.1, Or.inl ?_⟩
    rw [mrg_at h ha hb hne g.1, if_pos g.2]
  · intro g
    refine ⟨g.1, ?_⟩
    rcases g.2 with q | q
    · rw [mrg_at h ha hb hne g.1] at q
      by_cases c : f k = f a ∨ f k = f b
      · exact c
      · rw [if_neg c] at q
        rw [q]; exact hlo
    · rw [mrg_at h ha hb hne g.1] at q
      by_cases c : f k = f a ∨ f k = f b
      · exact c
      · rw [if_neg c] at q
        exact absurd q (h.neN g.1)
theorem mrg_oth {f : Nat → Int32} {n a b : Nat} (h : entI f n) (ha : a < n) (hb : b < n) (hne : f a ≠ f b) {m mj : Nat} (hm : mskR n f m (f a) (f b)) {j : Nat} (hj : j < n) (hb9 : ¬ m.testBit j = true) (hn : n ≤ 4) (hmj : mskR n f mj (f j) (-1)) : mskR n (sp_mrg f (f a) (f b) n) mj (sp_mrg f (f a) (f b) n j) (-1) := by
  have hjm : ¬ (f j = f a ∨ f j = f b) := fun g => hb9 ((hm.2 j (by omega)).mpr ⟨hj, g⟩)
  have ej := mrg_at h ha hb hne hj
  rw [if_neg hjm] at ej
  have hlo : (if f b < f a then f b else f a) = f a ∨ (if f b < f a then f b else f a) = f b := by
    by_cases c : f b < f a
    · rw [if_pos c]; exact Or.inr rfl
    · rw [if_neg c]; exact Or.inl rfl
  refine ⟨hmj.1, fun k hk => ?_⟩
  rw [hmj.2 k hk, ej]
  constructor
  · intro g
    have e := g.2.resolve_right (h.neN g.1)
    refine ⟨g.1, Or.inl ?_⟩
    rw [mrg_at h ha hb hne g.1, if_neg (by rw [e]; exact hjm), e]
  · intro g
    refine ⟨g.1, Or.inl ?_⟩
    have hx := mrg_at h ha hb hne g.1
    by_cases c : f k = f a ∨ f k = f b
    · rw [if_pos c] at hx
      rcases g.2 with q | q
      · rw [hx] at q
        rcases hlo with w | w
        · rw [w] at q; exact absurd (Or.inl q.symm) hjm
        · rw [w] at q; exact absurd (Or.inr q.symm) hjm
      · rw [hx] at q
        rcases hlo with w | w
        · rw [w] at q; exact absurd q (h.neN ha)
        · rw [w] at q; exact absurd q (h.neN hb)
    · rw [if_neg c] at hx
      rcases g.2 with q | q
      · rw [hx] at q; exact q
      · rw [hx] at q; exact absurd q (h.neN g.1)
theorem msk_eq {n : Nat} {f : Nat → Int32} {m1 m2 : Nat} {e : Int32} (h1 : mskR n f m1 e (-1)) (h2 : mskR n f m2 e (-1)) : m1 = m2 := by
  have hA : ∀ k, m1.testBit k = m2.testBit k := fun k => by
    by_cases hk : k < 4
    · have a := h1.2 k hk
      have b := h2.2 k hk
      cases c1 : m1.testBit k <;> cases c2 : m2.testBit k
      · rfl
      · exact absurd (a.mpr (b.mp c2)) (by rw [c1]; decide)
      · exact absurd (b.mpr (a.mp c1)) (by rw [c2]; decide)
      · rfl
    · have l1 : m1 < 2 ^ k := Nat.lt_of_lt_of_le h1.1 (Nat.pow_le_pow_right (n := 2) (by omega) (show 4 ≤ k by omega))
      have l2 : m2 < 2 ^ k := Nat.lt_of_lt_of_le h2.1 (Nat.pow_le_pow_right (n := 2) (by omega) (show 4 ≤ k by omega))
      rw [Nat.testBit_lt_two_pow l1, Nat.testBit_lt_two_pow l2]
  exact Nat.eq_of_testBit_eq hA
theorem sub_bit1 : ∀ m : Nat, m < 16 → ∀ j : Nat, j < 4 → m.testBit j = true → 2 ^ j ≤ m := by decide +kernel
theorem sub_bit3 : ∀ m : Nat, m < 16 → ∀ j : Nat, j < 4 → m.testBit j = true → ∀ k : Nat, k < 4 → (m - 2 ^ j).testBit k = (m.testBit k && !(decide (k = j))) := by decide +kernel
theorem sub_bit2 (m : Nat) (hm : m < 16) (j : Nat) (hj : j < 4) (k : Nat) (hk : k < 4) (h : m.testBit j = true) : (m - 2 ^ j).testBit k = true ↔ (m.testBit k = true ∧ k ≠ j) := by
  rw [sub_bit3 m hm j hj h k hk, Bool.and_eq_true, Bool.not_eq_true', decide_eq_false_iff_not]
theorem sub_bit (m : Nat) (hm : m < 16) (j : Nat) (hj : j < 4) (h : m.testBit j = true) : 2 ^ j ≤ m ∧ ∀ k : Nat, k < 4 → ((m - 2 ^ j).testBit k = true ↔ m.testBit k = true ∧ k ≠ j) := ⟨sub_bit1 m hm j hj h, fun k hk => sub_bit2 m hm j hj k hk h⟩
theorem bit_ex : ∀ m : Nat, m < 16 → m ≠ 0 → ∃ k : Nat, k < 4 ∧ m.testBit k = true := fun m h1 h2 => ⟨lowb m, by have := lowb_le m; omega, (lowb_bit m h1 h2).1⟩
theorem bit_0 : ∀ k : Nat, ¬ (0 : Nat).testBit k = true := fun k => by simp
/-- what splitting leaves -/
theorem spl_at {f : Nat → Int32} {n j : Nat} {o : Int32} (ho : o = sp_low (upd f j 12) (f j) n (-1)) {i : Nat} (hi : i < n) : sp_spl f j (nI j) n i = if i = j then nI j else if f i = f j then o else f i := by
  rw [← spl_eq rfl ho]
  by_cases c : i = j
  · rw [if_pos c, c, upd_at]
  · rw [if_neg c, upd_ne c]
    unfold sp_ren
    by_cases e : f i = f j
    · rw [if_pos ⟨hi, e⟩, if_pos e]
    · rw [if_neg (fun g => e g.2), if_neg e]
theorem spl_low {f : Nat → Int32} {n j m : Nat} (h : entI f n) (hn : n ≤ 4) (hj : j < n) (hm : mskR n f m (f j) (-1)) (hs : m - 2 ^ j ≠ 0) : sp_low (upd f j 12) (f j) n (-1) = nI (lowb (m - 2 ^ j)) ∧ lowb (m - 2 ^ j) < n ∧ lowb (m - 2 ^ j) ≠ j ∧ f (lowb (m - 2 ^ j)) = f j := by
  have hbj : m.testBit j = true := (hm.2 j (by omega)).mpr ⟨hj, Or.inl rfl⟩
  have hs2 := sub_bit m hm.1 j (by omega) hbj
  have hlt : m - 2 ^ j < 16 := Nat.lt_of_le_of_lt (Nat.sub_le _ _) hm.1
  have hl := lowb_bit _ hlt hs
  have hl3 := lowb_le (m - 2 ^ j)
  have g := (hs2.2 _ (by omega)).mp hl.1
  have g2 := (hm.2 _ (by omega)).mp g.1
  have g3 := g2.2.resolve_right (h.neN g2.1)
  refine ⟨low_found (h.ne12 hj) g2.1 (fun k hk hq => ?_) ⟨g.2, g3⟩, g2.1, g.2, g3⟩
  have hb := (hs2.2 k (by omega)).mpr ⟨(hm.2 k (by omega)).mpr ⟨by omega, Or.inl hq.2⟩, hq.1⟩
  have := hl.2 k (by omega) hb
  omega
theorem spl_cnt {f : Nat → Int32} {n j m : Nat} (h : entI f n) (hn : n ≤ 4) (hj : j < n) (hm : mskR n f m (f j) (-1)) : nI (sp_cnt f (f j) n) = 1 ↔ m - 2 ^ j = 0 := by
  have hbj : m.testBit j = true := (hm.2 j (by omega)).mpr ⟨hj, Or.inl rfl⟩
  have hs2 := sub_bit m hm.1 j (by omega) hbj
  rw [cnt_one (h.ne12 hj) hj (by omega)]
  constructor
  · intro g
    by_cases c : m - 2 ^ j = 0
    · exact c
    · obtain ⟨-, q2, q3, q4⟩ := spl_low h hn hj hm c
      exact absurd ⟨q3, q4⟩ (g _ q2)
  · intro g k hk hq
    have hb := (hs2.2 k (by omega)).mpr ⟨(hm.2 k (by omega)).mpr ⟨hk, Or.inl hq.2⟩, hq.1⟩
    rw [g] at hb
    exact bit_0 k hb
section
variable {f : Nat → Int32} {n j m : Nat}
theorem spl_ne (h : entI f n) (hn : n ≤ 4) (hj : j < n) (hm : mskR n f m (f j) (-1)) (hs : m - 2 ^ j ≠ 0) {k : Nat} (hk : k < n) (hkj : ¬ f k = f j) : ¬ f k = nI (lowb (m - 2 ^ j)) ∧ ¬ f k = nI j := by
  obtain ⟨-, q2, q3, q4⟩ := spl_low h hn hj hm hs
  refine ⟨fun g => ?_, fun g => ?_⟩
  · obtain ⟨e, he, h1, h2⟩ := h.2 k hk
    have e1 : e = lowb (m - 2 ^ j) := (nI_eq (by omega) (by omega)).mp (h1.symm.trans g)
    rw [e1] at h2
    exact hkj (g.trans (h2.symm.trans q4))
  · obtain ⟨e, he, h1, h2⟩ := h.2 k hk
    have e1 : e = j := (nI_eq (by omega) (by omega)).mp (h1.symm.trans g)
    rw [e1] at h2
    exact hkj (g.trans h2.symm)
theorem spl_set (h : entI f n) (hn : n ≤ 4) (hj : j < n) (hm : mskR n f m (f j) (-1)) (hs : m - 2 ^ j ≠ 0) {i : Nat} (hi : i < n) (hb : (m - 2 ^ j).testBit i = true) : mskR n (sp_spl f j (nI j) n) (m - 2 ^ j) (sp_spl f j (nI j) n i) (-1) := by
  have hbj : m.testBit j = true := (hm.2 j (by omega)).mpr ⟨hj, Or.inl rfl⟩
  have hs2 := sub_bit m hm.1 j (by omega) hbj
  obtain ⟨q1, q2, q3, q4⟩ := spl_low h hn hj hm hs
  have hi2 := (hs2.2 i (by omega)).mp hb
  have hi3 := ((hm.2 i (by omega)).mp hi2.1).2.resolve_right (h.neN hi)
  have hm1 : ¬ nI (lowb (m - 2 ^ j)) = -1 := fun g => absurd (congrArg Int32.toInt g) (by rw [nI_toInt (by omega)]; show ¬ (lowb (m - 2 ^ j) : Int) = -1; omega)
  refine ⟨Nat.lt_of_le_of_lt (Nat.sub_le _ _) hm.1, fun k hk => ?_⟩
  rw [hs2.2 k hk, hm.2 k hk, spl_at q1.symm hi, if_neg hi2.2, if_pos hi3]
  constructor
  · intro g
    have e := g.1.2.resolve_right (h.neN g.1.1)
    refine ⟨g.1.1, Or.inl ?_⟩
    rw [spl_at q1.symm g.1.1, if_neg g.2, if_pos e]
  · intro g
    have ek := spl_at q1.symm g.1
    by_cases c : k = j
    · rw [if_pos c] at ek
      rw [ek] at g
      rcases g.2 with w | w
      · exact absurd ((nI_eq (by omega) (by omega)).mp w) (fun z => q3 z.symm)
      · exact absurd (congrArg Int32.toInt w) (by rw [nI_toInt (by omega)]; show ¬ (j : Int) = -1; omega)
    · rw [if_neg c] at ek
      by_cases e : f k = f j
      · exact ⟨⟨g.1, Or.inl e⟩, c⟩
      · rw [if_neg e] at ek
        rw [ek] at g
        rcases g.2 with w | w
        · exact absurd w (spl_ne h hn hj hm hs g.1 e).1
        · exact absurd w (h.neN g.1)
theorem spl_own (h : entI f n) (hn : n ≤ 4) (hj : j < n) (hm : mskR n f m (f j) (-1)) (hs : m - 2 ^ j ≠ 0) : mskR n (sp_spl f j (nI j) n) (2 ^ j) (sp_spl f j (nI j) n j) (-1) := by
  obtain ⟨q1, q2, q3, q4⟩ := spl_low h hn hj hm hs
  have ho := msk_one j (by omega)
  refine ⟨ho.1, fun k hk => ?_⟩
  rw [ho.2 k hk, spl_at q1.symm hj, if_pos rfl]
  constructor
  · intro g
    rw [g]
    exact ⟨hj, Or.inl (by rw [spl_at q1.symm hj, if_pos rfl])⟩
  · intro g
    have ek := spl_at q1.symm g.1
    by_cases c : k = j
    · exact c
    · rw [if_neg c] at ek
      by_cases e : f k = f j
      · rw [if_pos e] at ek
        rw [ek] at g
        rcases g.2 with w | w
        · exact absurd ((nI_eq (by omega) (by omega)).mp w) q3
        · exact absurd (congrArg Int32.toInt w) (by rw [nI_toInt (by omega)]; show ¬ (lowb (m - 2 ^ j) : Int) = -1; omega)
      · rw [if_neg e] at ek
        rw [ek] at g
        rcases g.2 with w | w
        · exact absurd w (spl_ne h hn hj hm hs g.1 e).2
        · exact absurd w (h.neN g.1)
theorem spl_oth (h : entI f n) (hn : n ≤ 4) (hj : j < n) (hm : mskR n f m (f j) (-1)) (hs : m - 2 ^ j ≠ 0) {i mi : Nat} (hi : i < n) (hb : ¬ (m - 2 ^ j).testBit i = true) (hij : i ≠ j) (hmi : mskR n f mi (f i) (-1)) : mskR n (sp_spl f j (nI j) n) mi (sp_spl f j (nI j) n i) (-1) := by
  have hbj : m.testBit j = true := (hm.2 j (by omega)).mpr ⟨hj, Or.inl rfl⟩
  have hs2 := sub_bit m hm.1 j (by omega) hbj
  obtain ⟨q1, q2, q3, q4⟩ := spl_low h hn hj hm hs
  have hi3 : ¬ f i = f j := fun g => hb ((hs2.2 i (by omega)).mpr ⟨(hm.2 i (by omega)).mpr ⟨hi, Or.inl g⟩, hij⟩)
  refine ⟨hmi.1, fun k hk => ?_⟩
  rw [hmi.2 k hk, spl_at q1.symm hi, if_neg hij, if_neg hi3]
  constructor
  · intro g
    have e := g.2.resolve_right (h.neN g.1)
    refine ⟨g.1, Or.inl ?_⟩
    rw [spl_at q1.symm g.1, if_neg (fun c => hi3 (by rw [← e, c])), if_neg (by rw [e]; exact hi3), e]
  · intro g
    refine ⟨g.1, Or.inl ?_⟩
    have ek := spl_at q1.symm g.1
    by_cases c : k = j
    · rw [if_pos c] at ek
      rw [ek] at g
      rcases g.2 with w | w
      · exact absurd w.symm (spl_ne h hn hj hm hs hi hi3).2
      · exact absurd (congrArg Int32.toInt w) (by rw [nI_toInt (by omega)]; show ¬ (j : Int) = -1; omega)
    · rw [if_neg c] at ek
      by_cases e : f k = f j
      · rw [if_pos e] at ek
        rw [ek] at g
        rcases g.2 with w | w
        · exact absurd w.symm (spl_ne h hn hj hm hs hi hi3).1
        · exact absurd (congrArg Int32.toInt w) (by rw [nI_toInt (by omega)]; show ¬ (lowb (m - 2 ^ j) : Int) = -1; omega)
      · rw [if_neg e] at ek
        rw [ek] at g
        rcases g.2 with w | w
        · exact w
        · exact absurd w (h.neN g.1)
end
