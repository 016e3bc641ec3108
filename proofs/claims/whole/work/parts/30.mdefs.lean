/-- the model: which fields are rows, how long, of which kind -/
def mlen (k : Nat) : Nat := [10, 0, 12, 12, 12, 12, 8, 8, 0, 8, 8, 8, 0, 80, 80, 80, 80, 80, 80, 80, 80, 80, 0, 8, 8, 8, 8, 8, 8, 0, 30, 30, 0, 0, 0, 80, 80, 80, 0, 30, 12, 12].getD k 0
def mty (k : Nat) : Nat := if k = 21 ∨ k = 28 ∨ k = 41 then 1 else 0
def mf (am cn : Nat → Nat) (sc : Nat → Int32) : List Value := [.ref (am 0), .int (nI (cn 1)), .ref (am 2), .ref (am 3), .ref (am 4), .ref (am 5), .ref (am 6), .ref (am 7), .int (nI (cn 8)), .ref (am 9), .ref (am 10), .ref (am 11), .int (nI (cn 12)), .ref (am 13), .ref (am 14), .ref (am 15), .ref (am 16), .ref (am 17), .ref (am 18), .ref (am 19), .ref (am 20), .ref (am 21), .int (nI (cn 22)), .ref (am 23), .ref (am 24), .ref (am 25), .ref (am 26), .ref (am 27), .ref (am 28), .int (nI (cn 29)), .ref (am 30), .ref (am 31), .int (sc 32), .int (sc 33), .int (nI (cn 34)), .ref (am 35), .ref (am 36), .ref (am 37), .int (nI (cn 38)), .ref (am 39), .ref (am 40), .ref (am 41)]
def MW (E : hk_E) (mo : Nat) (am : Nat → Nat) (Z : Nat → Prop) (cn : Nat → Nat) (sc : Nat → Int32) (μ : Nat → Nat → Int32) (H : Heap) : Prop :=
  hk_O E mo 11 (mf am cn sc) H ∧ (∀ k, 0 < mlen k → hk_I E (mty k) (am k) (mlen k) (μ k) H) ∧ (∀ j k, 0 < mlen j → 0 < mlen k → am j = am k → j = k) ∧ (∀ k, 0 < mlen k → am k ≠ mo) ∧ Z mo ∧ ∀ k, 0 < mlen k → Z (am k)
theorem MW.set {E : hk_E} {mo : Nat} {am : Nat → Nat} {Z : Nat → Prop} {cn : Nat → Nat} {sc : Nat → Int32} {μ : Nat → Nat → Int32} {H H1 : Heap} (h : MW E mo am Z cn sc μ H) (k : Nat) {f : Nat → Int32} (hk : 0 < mlen k) (hI : hk_I E (mty k) (am k) (mlen k) f H1) (hq : ∀ q : Nat, q ≠ am k → H1[q]? = H[q]?) : MW E mo am Z cn sc (va_up μ k f) H1 := by
  obtain ⟨h1, h2, h3, h4, h5, h6⟩ := h
  refine ⟨va_at.kept h1 (hq _ (fun e => h4 k hk e.symm)), fun j hj => ?_, h3, h4, h5, h6⟩
  by_cases e : j = k
  · subst e
    show hk_I E _ _ _ (va_up μ j f j) H1
    rw [show va_up μ j f j = f from if_pos rfl]
    exact hI
  · show hk_I E _ _ _ (va_up μ k f j) H1
    rw [show va_up μ k f j = μ j from if_neg e]
    exact (hq _ (fun g => e (h3 j k hj hk g))).trans (h2 j hj)
theorem MW.obj {E : hk_E} {mo : Nat} {am : Nat → Nat} {Z : Nat → Prop} {cn cn' : Nat → Nat} {sc sc' : Nat → Int32} {μ : Nat → Nat → Int32} {H H1 : Heap} (h : MW E mo am Z cn sc μ H) (hO : hk_O E mo 11 (mf am cn' sc') H1) (hq : ∀ q : Nat, q ≠ mo → H1[q]? = H[q]?) : MW E mo am Z cn' sc' μ H1 := by
  obtain ⟨h1, h2, h3, h4, h5, h6⟩ := h
  exact ⟨hO, fun j hj => (hq _ (h4 j hj)).trans (h2 j hj), h3, h4, h5, h6⟩
theorem MW.kept {E : hk_E} {mo : Nat} {am : Nat → Nat} {Z : Nat → Prop} {cn : Nat → Nat} {sc : Nat → Int32} {μ : Nat → Nat → Int32} {H H1 : Heap} (h : MW E mo am Z cn sc μ H) (hq : ∀ q : Nat, Z q → H1[q]? = H[q]?) : MW E mo am Z cn sc μ H1 := by
  obtain ⟨h1, h2, h3, h4, h5, h6⟩ := h
  exact ⟨va_at.kept h1 (hq _ h5), fun j hj => (hq _ (h6 j hj)).trans (h2 j hj), h3, h4, h5, h6⟩
theorem MW.a0 {E : hk_E} {mo : Nat} {am : Nat → Nat} {Z : Nat → Prop} {cn : Nat → Nat} {sc : Nat → Int32} {μ : Nat → Nat → Int32} {H : Heap} (h : MW E mo am Z cn sc μ H) : hk_I E 0 (am 0) 10 (μ 0) H := h.2.1 0 (by decide)
theorem MW.a2 {E : hk_E} {mo : Nat} {am : Nat → Nat} {Z : Nat → Prop} {cn : Nat → Nat} {sc : Nat → Int32} {μ : Nat → Nat → Int32} {H : Heap} (h : MW E mo am Z cn sc μ H) : hk_I E 0 (am 2) 12 (μ 2) H := h.2.1 2 (by decide)
theorem MW.a3 {E : hk_E} {mo : Nat} {am : Nat → Nat} {Z : Nat → Prop} {cn : Nat → Nat} {sc : Nat → Int32} {μ : Nat → Nat → Int32} {H : Heap} (h : MW E mo am Z cn sc μ H) : hk_I E 0 (am 3) 12 (μ 3) H := h.2.1 3 (by decide)
theorem MW.a4 {E : hk_E} {mo : Nat} {am : Nat → Nat} {Z : Nat → Prop} {cn : Nat → Nat} {sc : Nat → Int32} {μ : Nat → Nat → Int32} {H : Heap} (h : MW E mo am Z cn sc μ H) : hk_I E 0 (am 4) 12 (μ 4) H := h.2.1 4 (by decide)
theorem MW.a5 {E : hk_E} {mo : Nat} {am : Nat → Nat} {Z : Nat → Prop} {cn : Nat → Nat} {sc : Nat → Int32} {μ : Nat → Nat → Int32} {H : Heap} (h : MW E mo am Z cn sc μ H) : hk_I E 0 (am 5) 12 (μ 5) H := h.2.1 5 (by decide)
theorem MW.a6 {E : hk_E} {mo : Nat} {am : Nat → Nat} {Z : Nat → Prop} {cn : Nat → Nat} {sc : Nat → Int32} {μ : Nat → Nat → Int32} {H : Heap} (h : MW E mo am Z cn sc μ H) : hk_I E 0 (am 6) 8 (μ 6) H := h.2.1 6 (by decide)
theorem MW.a7 {E : hk_E} {mo : Nat} {am : Nat → Nat} {Z : Nat → Prop} {cn : Nat → Nat} {sc : Nat → Int32} {μ : Nat → Nat → Int32} {H : Heap} (h : MW E mo am Z cn sc μ H) : hk_I E 0 (am 7) 8 (μ 7) H := h.2.1 7 (by decide)
theorem MW.a9 {E : hk_E} {mo : Nat} {am : Nat → Nat} {Z : Nat → Prop} {cn : Nat → Nat} {sc : Nat → Int32} {μ : Nat → Nat → Int32} {H : Heap} (h : MW E mo am Z cn sc μ H) : hk_I E 0 (am 9) 8 (μ 9) H := h.2.1 9 (by decide)
theorem MW.a10 {E : hk_E} {mo : Nat} {am : Nat → Nat} {Z : Nat → Prop} {cn : Nat → Nat} {sc : Nat → Int32} {μ : Nat → Nat → Int32} {H : Heap} (h : MW E mo am Z cn sc μ H) : hk_I E 0 (am 10) 8 (μ 10) H := h.2.1 10 (by decide)
theorem MW.a11 {E : hk_E} {mo : Nat} {am : Nat → Nat} {Z : Nat → Prop} {cn : Nat → Nat} {sc : Nat → Int32} {μ : Nat → Nat → Int32} {H : Heap} (h : MW E mo am Z cn sc μ H) : hk_I E 0 (am 11) 8 (μ 11) H := h.2.1 11 (by decide)
theorem MW.a13 {E : hk_E} {mo : Nat} {am : Nat → Nat} {Z : Nat → Prop} {cn : Nat → Nat} {sc : Nat → Int32} {μ : Nat → Nat → Int32} {H : Heap} (h : MW E mo am Z cn sc μ H) : hk_I E 0 (am 13) 80 (μ 13) H := h.2.1 13 (by decide)
theorem MW.a14 {E : hk_E} {mo : Nat} {am : Nat → Nat} {Z : Nat → Prop} {cn : Nat → Nat} {sc : Nat → Int32} {μ : Nat → Nat → Int32} {H : Heap} (h : MW E mo am Z cn sc μ H) : hk_I E 0 (am 14) 80 (μ 14) H := h.2.1 14 (by decide)
theorem MW.a15 {E : hk_E} {mo : Nat} {am : Nat → Nat} {Z : Nat → Prop} {cn : Nat → Nat} {sc : Nat → Int32} {μ : Nat → Nat → Int32} {H : Heap} (h : MW E mo am Z cn sc μ H) : hk_I E 0 (am 15) 80 (μ 15) H := h.2.1 15 (by decide)
theorem MW.a16 {E : hk_E} {mo : Nat} {am : Nat → Nat} {Z : Nat → Prop} {cn : Nat → Nat} {sc : Nat → Int32} {μ : Nat → Nat → Int32} {H : Heap} (h : MW E mo am Z cn sc μ H) : hk_I E 0 (am 16) 80 (μ 16) H := h.2.1 16 (by decide)
theorem MW.a17 {E : hk_E} {mo : Nat} {am : Nat → Nat} {Z : Nat → Prop} {cn : Nat → Nat} {sc : Nat → Int32} {μ : Nat → Nat → Int32} {H : Heap} (h : MW E mo am Z cn sc μ H) : hk_I E 0 (am 17) 80 (μ 17) H := h.2.1 17 (by decide)
theorem MW.a18 {E : hk_E} {mo : Nat} {am : Nat → Nat} {Z : Nat → Prop} {cn : Nat → Nat} {sc : Nat → Int32} {μ : Nat → Nat → Int32} {H : Heap} (h : MW E mo am Z cn sc μ H) : hk_I E 0 (am 18) 80 (μ 18) H := h.2.1 18 (by decide)
theorem MW.a19 {E : hk_E} {mo : Nat} {am : Nat → Nat} {Z : Nat → Prop} {cn : Nat → Nat} {sc : Nat → Int32} {μ : Nat → Nat → Int32} {H : Heap} (h : MW E mo am Z cn sc μ H) : hk_I E 0 (am 19) 80 (μ 19) H := h.2.1 19 (by decide)
theorem MW.a20 {E : hk_E} {mo : Nat} {am : Nat → Nat} {Z : Nat → Prop} {cn : Nat → Nat} {sc : Nat → Int32} {μ : Nat → Nat → Int32} {H : Heap} (h : MW E mo am Z cn sc μ H) : hk_I E 0 (am 20) 80 (μ 20) H := h.2.1 20 (by decide)
theorem MW.a21 {E : hk_E} {mo : Nat} {am : Nat → Nat} {Z : Nat → Prop} {cn : Nat → Nat} {sc : Nat → Int32} {μ : Nat → Nat → Int32} {H : Heap} (h : MW E mo am Z cn sc μ H) : hk_I E 1 (am 21) 80 (μ 21) H := h.2.1 21 (by decide)
theorem MW.a23 {E : hk_E} {mo : Nat} {am : Nat → Nat} {Z : Nat → Prop} {cn : Nat → Nat} {sc : Nat → Int32} {μ : Nat → Nat → Int32} {H : Heap} (h : MW E mo am Z cn sc μ H) : hk_I E 0 (am 23) 8 (μ 23) H := h.2.1 23 (by decide)
theorem MW.a24 {E : hk_E} {mo : Nat} {am : Nat → Nat} {Z : Nat → Prop} {cn : Nat → Nat} {sc : Nat → Int32} {μ : Nat → Nat → Int32} {H : Heap} (h : MW E mo am Z cn sc μ H) : hk_I E 0 (am 24) 8 (μ 24) H := h.2.1 24 (by decide)
theorem MW.a25 {E : hk_E} {mo : Nat} {am : Nat → Nat} {Z : Nat → Prop} {cn : Nat → Nat} {sc : Nat → Int32} {μ : Nat → Nat → Int32} {H : Heap} (h : MW E mo am Z cn sc μ H) : hk_I E 0 (am 25) 8 (μ 25) H := h.2.1 25 (by decide)
theorem MW.a26 {E : hk_E} {mo : Nat} {am : Nat → Nat} {Z : Nat → Prop} {cn : Nat → Nat} {sc : Nat → Int32} {μ : Nat → Nat → Int32} {H : Heap} (h : MW E mo am Z cn sc μ H) : hk_I E 0 (am 26) 8 (μ 26) H := h.2.1 26 (by decide)
theorem MW.a27 {E : hk_E} {mo : Nat} {am : Nat → Nat} {Z : Nat → Prop} {cn : Nat → Nat} {sc : Nat → Int32} {μ : Nat → Nat → Int32} {H : Heap} (h : MW E mo am Z cn sc μ H) : hk_I E 0 (am 27) 8 (μ 27) H := h.2.1 27 (by decide)
theorem MW.a28 {E : hk_E} {mo : Nat} {am : Nat → Nat} {Z : Nat → Prop} {cn : Nat → Nat} {sc : Nat → Int32} {μ : Nat → Nat → Int32} {H : Heap} (h : MW E mo am Z cn sc μ H) : hk_I E 1 (am 28) 8 (μ 28) H := h.2.1 28 (by decide)
theorem MW.a30 {E : hk_E} {mo : Nat} {am : Nat → Nat} {Z : Nat → Prop} {cn : Nat → Nat} {sc : Nat → Int32} {μ : Nat → Nat → Int32} {H : Heap} (h : MW E mo am Z cn sc μ H) : hk_I E 0 (am 30) 30 (μ 30) H := h.2.1 30 (by decide)
theorem MW.a31 {E : hk_E} {mo : Nat} {am : Nat → Nat} {Z : Nat → Prop} {cn : Nat → Nat} {sc : Nat → Int32} {μ : Nat → Nat → Int32} {H : Heap} (h : MW E mo am Z cn sc μ H) : hk_I E 0 (am 31) 30 (μ 31) H := h.2.1 31 (by decide)
theorem MW.a35 {E : hk_E} {mo : Nat} {am : Nat → Nat} {Z : Nat → Prop} {cn : Nat → Nat} {sc : Nat → Int32} {μ : Nat → Nat → Int32} {H : Heap} (h : MW E mo am Z cn sc μ H) : hk_I E 0 (am 35) 80 (μ 35) H := h.2.1 35 (by decide)
theorem MW.a36 {E : hk_E} {mo : Nat} {am : Nat → Nat} {Z : Nat → Prop} {cn : Nat → Nat} {sc : Nat → Int32} {μ : Nat → Nat → Int32} {H : Heap} (h : MW E mo am Z cn sc μ H) : hk_I E 0 (am 36) 80 (μ 36) H := h.2.1 36 (by decide)
theorem MW.a37 {E : hk_E} {mo : Nat} {am : Nat → Nat} {Z : Nat → Prop} {cn : Nat → Nat} {sc : Nat → Int32} {μ : Nat → Nat → Int32} {H : Heap} (h : MW E mo am Z cn sc μ H) : hk_I E 0 (am 37) 80 (μ 37) H := h.2.1 37 (by decide)
theorem MW.a39 {E : hk_E} {mo : Nat} {am : Nat → Nat} {Z : Nat → Prop} {cn : Nat → Nat} {sc : Nat → Int32} {μ : Nat → Nat → Int32} {H : Heap} (h : MW E mo am Z cn sc μ H) : hk_I E 0 (am 39) 30 (μ 39) H := h.2.1 39 (by decide)
theorem MW.a40 {E : hk_E} {mo : Nat} {am : Nat → Nat} {Z : Nat → Prop} {cn : Nat → Nat} {sc : Nat → Int32} {μ : Nat → Nat → Int32} {H : Heap} (h : MW E mo am Z cn sc μ H) : hk_I E 0 (am 40) 12 (μ 40) H := h.2.1 40 (by decide)
theorem MW.a41 {E : hk_E} {mo : Nat} {am : Nat → Nat} {Z : Nat → Prop} {cn : Nat → Nat} {sc : Nat → Int32} {μ : Nat → Nat → Int32} {H : Heap} (h : MW E mo am Z cn sc μ H) : hk_I E 1 (am 41) 12 (μ 41) H := h.2.1 41 (by decide)
theorem mf_1 {am cn : Nat → Nat} {sc : Nat → Int32} {n : Nat} : (mf am cn sc).set 1 (.int (nI n)) = mf am (va_up cn 1 n) sc := rfl
theorem mf_8 {am cn : Nat → Nat} {sc : Nat → Int32} {n : Nat} : (mf am cn sc).set 8 (.int (nI n)) = mf am (va_up cn 8 n) sc := rfl
theorem mf_12 {am cn : Nat → Nat} {sc : Nat → Int32} {n : Nat} : (mf am cn sc).set 12 (.int (nI n)) = mf am (va_up cn 12 n) sc := rfl
theorem mf_22 {am cn : Nat → Nat} {sc : Nat → Int32} {n : Nat} : (mf am cn sc).set 22 (.int (nI n)) = mf am (va_up cn 22 n) sc := rfl
theorem mf_29 {am cn : Nat → Nat} {sc : Nat → Int32} {n : Nat} : (mf am cn sc).set 29 (.int (nI n)) = mf am (va_up cn 29 n) sc := rfl
theorem mf_34 {am cn : Nat → Nat} {sc : Nat → Int32} {n : Nat} : (mf am cn sc).set 34 (.int (nI n)) = mf am (va_up cn 34 n) sc := rfl
theorem mf_38 {am cn : Nat → Nat} {sc : Nat → Int32} {n : Nat} : (mf am cn sc).set 38 (.int (nI n)) = mf am (va_up cn 38 n) sc := rfl
theorem mf_32 {am cn : Nat → Nat} {sc : Nat → Int32} {v : Int32} : (mf am cn sc).set 32 (.int v) = mf am cn (va_up sc 32 v) := rfl
theorem mf_33 {am cn : Nat → Nat} {sc : Nat → Int32} {v : Int32} : (mf am cn sc).set 33 (.int v) = mf am cn (va_up sc 33 v) := rfl
/-- what of a state lasts: the fields below 33 -/
abbrev mS : Type := (Nat → Nat) × (Nat → Int32) × (Nat → Nat → Int32)
def agr (S T : mS) : Prop := ∀ k, k < 33 → S.1 k = T.1 k ∧ S.2.1 k = T.2.1 k ∧ S.2.2 k = T.2.2 k
theorem agr.rf {S : mS} : agr S S := fun _ _ => ⟨rfl, rfl, rfl⟩
abbrev ix (x : Int32) : Nat := x.toNatClampNeg
abbrev inr (a lo hi : Int32) : Prop := lo ≤ a ∧ a ≤ hi
abbrev isS (n : Nat) (i : Int32) : Prop := 0 ≤ i ∧ i < nI n
theorem isS_of {n : Nat} {i : Int32} (hn : n < 2 ^ 30) : inr i 0 (nI n - 1) ↔ isS n i := by
  constructor
  · intro h
    refine ⟨h.1, ?_⟩
    have h2 := h.2
    cases n with
    | zero =>
      exfalso
      have h3 : i ≤ -1 := by rw [nI_0] at h2; exact h2
      have h1 := h.1
      rw [i_le] at h1 h3
      have e : (-1 : Int32).toInt = -1 := rfl
      rw [i_0] at h1; omega
    | succ n =>
      rw [nI_pred] at h2
      rw [i_le, nI_toInt (by omega)] at h2
      rw [i_lt, nI_toInt (by omega)]; omega
  · intro h
    refine ⟨h.1, ?_⟩
    have h1 := h.1
    have h2 := h.2
    cases n with
    | zero => rw [nI_0] at h2; rw [i_le] at h1; rw [i_lt] at h2; rw [i_0] at h1 h2; omega
    | succ n =>
      rw [nI_pred]
      rw [i_lt, nI_toInt (by omega)] at h2
      rw [i_le, nI_toInt (by omega)]; omega
theorem isS_ix {n : Nat} {i : Int32} (hn : n < 2 ^ 31) (h : isS n i) : ∃ j, j < n ∧ i = nI j := by
  rcases pk_ix i hn with g | g | g
  · exact absurd g (Int32.not_lt.mpr h.1)
  · exact absurd g (Int32.not_le.mpr h.2)
  · exact g
theorem inr_ix {N : Nat} {i : Int32} (hN : N < 2 ^ 31) (h : inr i 0 (nI N)) : ∃ j, j ≤ N ∧ i = nI j := by
  have h1 := i_le.mp h.1
  have h2 := i_le.mp h.2
  rw [nI_toInt hN] at h2
  rw [i_0] at h1
  obtain ⟨j, hj, rfl⟩ := nI_of (x := i) (Int32.not_lt.mpr h.1)
  rw [nI_toInt hj] at h2
  exact ⟨j, by omega, rfl⟩
