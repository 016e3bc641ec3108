theorem invF_comparison {S : mS} (h : InvF S) {p0 p1 : Int32} (hc : cd_comparison p0 p1 S = 0) : InvF (st_comparison p0 p1 S) := ⟨inv_comparison h.1 hc, h.2⟩
theorem invF_bias {S : mS} (h : InvF S) {p0 p1 : Int32} (hc : cd_bias p0 p1 S = 0) : InvF (st_bias p0 p1 S) := ⟨inv_bias h.1 hc, h.2⟩
theorem invF_clock {S : mS} (h : InvF S) {p0 p1 : Int32} : InvF (st_clock p0 p1 S) := ⟨inv_clock h.1, h.2⟩
theorem invF_zero {S : mS} (h : InvF S) {p0 : Int32} : InvF (st_zero p0 S) := ⟨inv_zero h.1, h.2⟩
theorem invF_join {S : mS} (h : InvF S) {p0 p1 : Int32} (hc : cd_join p0 p1 S = 0) : InvF (st_join p0 p1 S) := ⟨inv_join h.1 hc, h.2⟩
theorem invF_doubt {S : mS} (h : InvF S) {p0 p1 : Int32} (hb : p1 = 0 ∨ p1 = 1) : InvF (st_doubt p0 p1 S) := ⟨inv_doubt h.1 hb, h.2⟩
theorem invF_claim {S : mS} (h : InvF S) {p0 p1 : Int32} (hc : cd_claim p0 p1 S = 0) : InvF (st_claim p0 p1 S) := by
  refine ⟨inv_claim h.1 hc, ?_, h.2.2⟩
  obtain ⟨cn, sc, μ⟩ := S
  intro i hi
  have h1 := h.1.1.1
  dsimp only at h1
  have hlt := isS_lt (by show cn 1 < 2 ^ 31; omega) (ite_ok hc (by decide)).1
  have hi2 : cn 1 ≤ i := hi
  have hl2 : ix p0 < cn 1 := hlt
  exact ⟨(upd_ne (show i ≠ ix p0 by omega)).trans (h.2.1 i hi).1, (h.2.1 i hi).2⟩
theorem invF_dust {S : mS} (h : InvF S) {p0 p1 : Int32} (hc : cd_dust p0 p1 S = 0) : InvF (st_dust p0 p1 S) := by
  refine ⟨inv_dust h.1, ?_, h.2.2⟩
  obtain ⟨cn, sc, μ⟩ := S
  intro i hi
  have h1 := h.1.1.1
  dsimp only at h1
  have hlt := isS_lt (by show cn 1 < 2 ^ 31; omega) (ite_ok hc (by decide)).1
  have hi2 : cn 1 ≤ i := hi
  have hl2 : ix p0 < cn 1 := hlt
  exact ⟨(h.2.1 i hi).1, (upd_ne (show i ≠ ix p0 by omega)).trans (h.2.1 i hi).2⟩
theorem invF_withdraw {S : mS} (h : InvF S) {p0 p1 : Int32} (hb : p1 = 0 ∨ p1 = 1) (hc : cd_withdraw p0 p1 S = 0) : InvF (st_withdraw p0 p1 S) := by
  refine ⟨inv_withdraw h.1 hb, h.2.1, ?_⟩
  obtain ⟨cn, sc, μ⟩ := S
  intro i hi
  have h1 := h.1.1.2.2.2.1
  dsimp only at h1
  have hlt := isS_lt (by show cn 22 < 2 ^ 31; omega) (ite_ok hc (by decide)).1
  have hi2 : cn 22 ≤ i := hi
  have hl2 : ix p0 < cn 22 := hlt
  exact (upd_ne (show i ≠ ix p0 by omega)).trans (h.2.2 i hi)
theorem sp_low_none {f : Nat → Int32} {e : Int32} (n : Nat) (h : ∀ i, i < n → f i ≠ e) : ∀ a, sp_low f e n a = a := by
  induction n with
  | zero => intro a; rfl
  | succ n ih =>
    intro a
    rw [sp_low, if_neg (h n (by omega))]
    exact ih (fun i hi => h i (by omega)) a
theorem sp_low_some {f : Nat → Int32} {e : Int32} (n : Nat) (h : ∃ j, j < n ∧ f j = e) : ∃ j, j < n ∧ f j = e ∧ (∀ i, i < j → f i ≠ e) ∧ ∀ a, sp_low f e n a = nI j := by
  induction n with
  | zero => obtain ⟨j, hj, _⟩ := h; exact absurd hj (Nat.not_lt_zero _)
  | succ n ih =>
    by_cases g : ∃ j, j < n ∧ f j = e
    · obtain ⟨j, h1, h2, h3, h4⟩ := ih g
      exact ⟨j, by omega, h2, h3, fun a => by rw [sp_low]; exact h4 _⟩
    · have g2 : ∀ i, i < n → f i ≠ e := fun i hi q => g ⟨i, hi, q⟩
      have hn : f n = e := by
        obtain ⟨j, hj, hf⟩ := h
        by_cases q : j = n
        · rw [← q]; exact hf
        · exact absurd hf (g2 j (by omega))
      exact ⟨n, by omega, hn, g2, fun a => by rw [sp_low, if_pos hn]; exact sp_low_none n g2 _⟩
/-- every star's entry is that of the lowest star in it -/
def entOK (n : Nat) (f : Nat → Int32) : Prop := ∀ i, i < n → ∃ e : Nat, e ≤ i ∧ f i = nI e ∧ f e = nI e
theorem ren_y {f : Nat → Int32} {e v : Int32} {n i : Nat} (hi : i < n) (h : f i = e) : sp_ren f e v n i = v := if_pos ⟨hi, h⟩
theorem ren_n {f : Nat → Int32} {e v : Int32} {n i : Nat} (h : ¬ f i = e) : sp_ren f e v n i = f i := if_neg (fun g => h g.2)
theorem ent_low {n : Nat} {g : Nat → Int32} {w : Int32} (hw : ∃ j, j < n ∧ g j = w) (hg : ∀ i, i < n → ¬ g i = w → ∃ e : Nat, e ≤ i ∧ g i = nI e ∧ g e = nI e) : entOK n (sp_ren g w (sp_low g w n (-1)) n) := by
  obtain ⟨j, h1, h2, h3, h4⟩ := sp_low_some n hw
  rw [h4 (-1)]
  intro i hi
  by_cases c : g i = w
  · refine ⟨j, Nat.le_of_not_lt (fun q => h3 i q c), ren_y hi c, ren_y h1 h2⟩
  · obtain ⟨e, q1, q2, q3⟩ := hg i hi c
    have q4 : ¬ g e = w := fun q => c (q2.trans (q3.symm.trans q))
    exact ⟨e, q1, by rw [ren_n c]; exact q2, by rw [ren_n q4]; exact q3⟩
theorem ent_mrg {n a b : Nat} {f : Nat → Int32} (hf : entOK n f) (ha : a < n) (hab : ¬ f a = f b) : entOK n (sp_mrg f (f a) (f b) n) := by
  unfold sp_mrg sp_low1
  refine ent_low ⟨a, ha, by rw [ren_n hab]⟩ (fun i hi c => ?_)
  have c2 : ¬ f i = f b := fun q => c (ren_y hi q)
  rw [ren_n c2] at c ⊢
  obtain ⟨e, q1, q2, q3⟩ := hf i hi
  exact ⟨e, q1, q2, by rw [ren_n (fun q => c2 (q2.trans (q3.symm.trans q)))]; exact q3⟩
