/-! ===== the house ===== -/
/-- what is fixed at the start: the house, its lists, its rows (row, keys, values), the trial strings -/
abbrev hC : Type := Nat × (Nat → Nat) × (Nat → Nat → Nat) × Nat
/-- what changes when a list grows: its array, its places, its count of changes, its elements; a tag for each address -/
abbrev hG : Type := (Nat → Nat) × (Nat → Nat) × (Nat → Int32) × (Nat → Nat → Nat) × (Nat → Nat × Nat)
/-- what the rows hold -/
abbrev hR : Type := (Nat → Nat) × (Nat → Nat → Int32) × (Nat → Nat → Int32) × (Nat → Int32)
abbrev gad (G : hG) : Nat → Nat → Nat := G.2.2.2.1
abbrev gtg (G : hG) : Nat → Nat × Nat := G.2.2.2.2
def hn (S : mS) (j : Nat) : Nat := match j with
  | 0 => 10 | 1 => 8 | 2 => S.1 1 | 3 => S.1 8 | 4 => S.1 12 | 5 => S.1 22 | _ => S.1 29
def rlen (r : Nat) : Nat := match r with
  | 0 => 80 | 1 => 80 | 2 => 30 | _ => 12
def hci (S : mS) (j i : Nat) : Nat := match j with
  | 0 => 1 | 1 => 9 | 2 => 7 | 3 => 4 | 4 => (if S.2.2 13 i = 0 then 8 else 2) | 5 => 6 | _ => 3
def hfs (G : hG) (S : mS) (j i : Nat) : List Value := match j with
  | 0 => [.int (S.2.2 0 i)]
  | 1 => [.int (S.2.2 6 i), .int (S.2.2 7 i)]
  | 2 => [.int (nI i), .int (S.2.2 2 i), .int (S.2.2 3 i), .int (S.2.2 4 i), .int (S.2.2 5 i)]
  | 3 => [.int (S.2.2 9 i), .int (S.2.2 11 i), .int (S.2.2 10 i)]
  | 4 => (if S.2.2 13 i = 0 then [.ref (gad G 2 (ix (S.2.2 14 i))), .int (S.2.2 21 i), .ref (gad G 1 (ix (S.2.2 15 i))), .int (S.2.2 16 i), .ref (gad G 0 (ix (S.2.2 17 i))), .int (S.2.2 18 i), .int (S.2.2 19 i), .ref (gad G 0 (ix (S.2.2 20 i)))]
      else [.ref (gad G 2 (ix (S.2.2 14 i))), .int (S.2.2 21 i), .ref (gad G 3 (ix (S.2.2 15 i))), .int (S.2.2 16 i)])
  | 5 => [.int (S.2.2 23 i), .int (S.2.2 24 i), .int (S.2.2 27 i), .int (S.2.2 28 i), .int (S.2.2 25 i), .int (S.2.2 26 i)]
  | _ => [.ref (gad G 2 (ix (S.2.2 30 i))), .int (S.2.2 31 i)]
def hofs (C : hC) (S : mS) : List Value := [.ref (C.2.1 0), .ref (C.2.1 1), .ref (C.2.1 2), .ref (C.2.1 3), .ref (C.2.1 4), .ref (C.2.1 5), .ref (C.2.1 6), .int (S.2.1 32), .ref (C.2.2.1 0 0), .ref (C.2.2.1 1 0), .ref (C.2.2.1 2 0), .ref (C.2.2.1 3 0), .ref C.2.2.2]
def hT (E : hk_E) (Z : Nat → Prop) (C : hC) (G : hG) (S : mS) : Prop :=
  (gtg G C.1 = (0, 0) ∧ Z C.1) ∧ (∀ j, j < 7 → gtg G (C.2.1 j) = (1, j) ∧ Z (C.2.1 j)) ∧
  (∀ j, j < 7 → (hn S j ≤ G.2.1 j ∧ 2 ≤ G.2.1 j ∧ G.2.1 j ≤ 150 ∧ gtg G (G.1 j) = (2, j) ∧ Z (G.1 j)) ∨ (hn S j = 0 ∧ G.2.1 j = 0 ∧ G.1 j = E.2.2.2.1)) ∧
  (∀ r, r < 4 → ∀ t, t < 3 → gtg G (C.2.2.1 r t) = (3 + t, r) ∧ Z (C.2.2.1 r t)) ∧ (gtg G C.2.2.2 = (6, 0) ∧ Z C.2.2.2) ∧
  (∀ j, j < 7 → ∀ i, i < hn S j → gtg G (gad G j i) = (10 + j, i) ∧ Z (gad G j i)) ∧ ¬ hk_A E E.2.2.2.1 ∧ ∀ q, Z q → hk_A E q
/-- the heap holds a house for S -/
def HW (E : hk_E) (Z : Nat → Prop) (C : hC) (G : hG) (R : hR) (S : mS) (H : Heap) : Prop :=
  hk_O E C.1 10 (hofs C S) H ∧ (∀ j, j < 7 → hk_li E (C.2.1 j) (G.1 j) (hn S j) (G.2.1 j) (G.2.2.1 j) (gad G j) H) ∧
  (∀ r, r < 4 → hk_row E (C.2.2.1 r 0) (C.2.2.1 r 1) (C.2.2.1 r 2) (rlen r) (R.1 r) (R.2.1 r) (R.2.2.1 r) H ∧ R.1 r ≤ rlen r) ∧
  hk_I E 0 C.2.2.2 200 R.2.2.2 H ∧ (∀ j, j < 7 → ∀ i, i < hn S j → hk_O E (gad G j i) (hci S j i) (hfs G S j i) H) ∧ hT E Z C G S
theorem ar_lt {x : Nat} {cell : Cell} {H : Heap} (h : H[x]? = some cell) : x < H.size := (Array.getElem?_eq_some_iff.mp h).1
/-- other cells may change -/
theorem HW.kept {E : hk_E} {Z : Nat → Prop} {C : hC} {G : hG} {R : hR} {S : mS} {H H1 : Heap} (h : HW E Z C G R S H) (hq : ∀ q : Nat, q < H.size → (Z q ∨ ¬ hk_A E q) → H1[q]? = H[q]?) : HW E Z C G R S H1 := by
  obtain ⟨ho, hl, hr, ht, he, hT⟩ := h
  obtain ⟨t1, t2, t3, t4, t5, t6, t7, t8⟩ := id hT
  refine ⟨va_at.kept ho (hq _ (va_at.lt ho) (Or.inl t1.2)), fun j hj => ⟨va_at.kept (hl j hj).1 (hq _ (va_at.lt (hl j hj).1) (Or.inl (t2 j hj).2)), ?_⟩, fun r hr4 => ⟨⟨va_at.kept (hr r hr4).1.1 (hq _ (va_at.lt (hr r hr4).1.1) (Or.inl (t4 r hr4 0 (by decide)).2)), ?_, ?_⟩, (hr r hr4).2⟩, ?_, fun j hj i hi => va_at.kept (he j hj i hi) (hq _ (va_at.lt (he j hj i hi)) (Or.inl (t6 j hj i hi).2)), hT⟩
  · intro hc
    refine (hq _ (ar_lt ((hl j hj).2 hc)) ?_).trans ((hl j hj).2 hc)
    rcases t3 j hj with g | g
    · exact Or.inl g.2.2.2.2
    · exact absurd hc (by omega)
  · exact (hq _ (ar_lt (hr r hr4).1.2.1) (Or.inl (t4 r hr4 1 (by decide)).2)).trans (hr r hr4).1.2.1
  · exact (hq _ (ar_lt (hr r hr4).1.2.2) (Or.inl (t4 r hr4 2 (by decide)).2)).trans (hr r hr4).1.2.2
  · exact (hq _ (ar_lt ht) (Or.inl t5.2)).trans ht
/-- an element has changed -/
theorem HW.put {E : hk_E} {Z : Nat → Prop} {C : hC} {G : hG} {R : hR} {S S' : mS} {H H1 : Heap} (h : HW E Z C G R S H) (j0 i0 : Nat) (hj0 : j0 < 7) (hi0 : i0 < hn S j0)
    (hO : hk_O E (gad G j0 i0) (hci S' j0 i0) (hfs G S' j0 i0) H1) (hq : ∀ q : Nat, q ≠ gad G j0 i0 → H1[q]? = H[q]?)
    (e1 : ∀ j, hn S' j = hn S j) (e2 : ∀ j i, j < 7 → i < hn S j → (j ≠ j0 ∨ i ≠ i0) → hci S' j i = hci S j i ∧ hfs G S' j i = hfs G S j i) (e3 : S'.2.1 32 = S.2.1 32) : HW E Z C G R S' H1 := by
  obtain ⟨ho, hl, hr, ht, he, hT⟩ := h
  obtain ⟨t1, t2, t3, t4, t5, t6, t7, t8⟩ := id hT
  have hne : ∀ (q : Nat) (t : Nat × Nat), gtg G q = t → t ≠ (10 + j0, i0) → H1[q]? = H[q]? := fun q t e n => hq q (fun g => n (by rw [← e, g]; exact (t6 j0 hj0 i0 hi0).1))
  refine ⟨?_, fun j hj => ?_, fun r hr4 => ⟨⟨?_, ?_, ?_⟩, (hr r hr4).2⟩, ?_, fun j hj i hi => ?_, t1, t2, fun j hj => by rw [e1]; exact t3 j hj, t4, t5, fun j hj i hi => t6 j hj i (by rw [← e1]; exact hi), t7, t8⟩
  · have e : hofs C S' = hofs C S := by unfold hofs; rw [e3]
    rw [e]
    exact va_at.kept ho (hne _ _ t1.1 (fun g => absurd (congrArg Prod.fst g) (by show ¬ 0 = 10 + j0; omega)))
  · rw [e1]
    refine ⟨va_at.kept (hl j hj).1 (hne _ _ (t2 j hj).1 (fun g => absurd (congrArg Prod.fst g) (by show ¬ 1 = 10 + j0; omega))), ?_⟩
    intro hc
    refine Eq.trans ?_ ((hl j hj).2 hc)
    rcases t3 j hj with g | g
    · exact hne _ _ g.2.2.2.1 (fun g => absurd (congrArg Prod.fst g) (by show ¬ 2 = 10 + j0; omega))
    · exact absurd hc (by omega)
  · exact va_at.kept (hr r hr4).1.1 (hne _ _ (t4 r hr4 0 (by decide)).1 (fun g => absurd (congrArg Prod.fst g) (by show ¬ 3 + 0 = 10 + j0; omega)))
  · exact (hne _ _ (t4 r hr4 1 (by decide)).1 (fun g => absurd (congrArg Prod.fst g) (by show ¬ 3 + 1 = 10 + j0; omega))).trans (hr r hr4).1.2.1
  · exact (hne _ _ (t4 r hr4 2 (by decide)).1 (fun g => absurd (congrArg Prod.fst g) (by show ¬ 3 + 2 = 10 + j0; omega))).trans (hr r hr4).1.2.2
  · exact (hne _ _ t5.1 (fun g => absurd (congrArg Prod.fst g) (by show ¬ 6 = 10 + j0; omega))).trans ht
  · rw [e1] at hi
    by_cases g : j = j0 ∧ i = i0
    · rw [g.1, g.2]; exact hO
    · have g2 : j ≠ j0 ∨ i ≠ i0 := by
        by_cases g3 : j = j0
        · exact Or.inr (fun g4 => g ⟨g3, g4⟩)
        · exact Or.inl g3
      rw [(e2 j i hj hi g2).1, (e2 j i hj hi g2).2]
      refine va_at.kept (he j hj i hi) (hne _ _ (t6 j hj i hi).1 (fun g5 => ?_))
      have g6 : 10 + j = 10 + j0 := congrArg Prod.fst g5
      have g7 : i = i0 := congrArg Prod.snd g5
      exact g ⟨by omega, g7⟩
/-- a row has changed -/
theorem HW.row {E : hk_E} {Z : Nat → Prop} {C : hC} {G : hG} {R : hR} {S : mS} {H H1 : Heap} (h : HW E Z C G R S H) (r0 : Nat) (hr0 : r0 < 4) {n : Nat} {k v : Nat → Int32}
    (hrow : hk_row E (C.2.2.1 r0 0) (C.2.2.1 r0 1) (C.2.2.1 r0 2) (rlen r0) n k v H1) (hn1 : n ≤ rlen r0) (hq : ∀ q : Nat, q < H.size → ¬ (q = C.2.2.1 r0 0 ∨ q = C.2.2.1 r0 1 ∨ q = C.2.2.1 r0 2) → H1[q]? = H[q]?) : HW E Z C G (va_up R.1 r0 n, va_up R.2.1 r0 k, va_up R.2.2.1 r0 v, R.2.2.2) S H1 := by
  obtain ⟨ho, hl, hr, ht, he, hT⟩ := h
  obtain ⟨t1, t2, t3, t4, t5, t6, t7, t8⟩ := id hT
  have hne : ∀ (q : Nat) (t : Nat × Nat), q < H.size → gtg G q = t → (t.1 < 3 ∨ 6 ≤ t.1 ∨ t.2 ≠ r0) → H1[q]? = H[q]? := fun q t hz e n => hq q hz (fun g => by
    rcases g with g | g | g
    · have g1 : t = (3 + 0, r0) := by rw [← e, g]; exact (t4 r0 hr0 0 (by decide)).1
      rcases n with n | n | n
      · rw [g1] at n; exact absurd n (by show ¬ 3 + 0 < 3; omega)
      · rw [g1] at n; exact absurd n (by show ¬ 6 ≤ 3 + 0; omega)
      · rw [g1] at n; exact n rfl
    · have g1 : t = (3 + 1, r0) := by rw [← e, g]; exact (t4 r0 hr0 1 (by decide)).1
      rcases n with n | n | n
      · rw [g1] at n; exact absurd n (by show ¬ 3 + 1 < 3; omega)
      · rw [g1] at n; exact absurd n (by show ¬ 6 ≤ 3 + 1; omega)
      · rw [g1] at n; exact n rfl
    · have g1 : t = (3 + 2, r0) := by rw [← e, g]; exact (t4 r0 hr0 2 (by decide)).1
      rcases n with n | n | n
      · rw [g1] at n; exact absurd n (by show ¬ 3 + 2 < 3; omega)
      · rw [g1] at n; exact absurd n (by show ¬ 6 ≤ 3 + 2; omega)
      · rw [g1] at n; exact n rfl)
  refine ⟨va_at.kept ho (hne _ _ (va_at.lt ho) t1.1 (Or.inl (by show 0 < 3; omega))), fun j hj => ⟨va_at.kept (hl j hj).1 (hne _ _ (va_at.lt (hl j hj).1) (t2 j hj).1 (Or.inl (by show 1 < 3; omega))), ?_⟩, fun r hr4 => ?_, ?_, fun j hj i hi => va_at.kept (he j hj i hi) (hne _ _ (va_at.lt (he j hj i hi)) (t6 j hj i hi).1 (Or.inr (Or.inl (by show 6 ≤ 10 + j; omega)))), hT⟩
  · intro hc
    refine Eq.trans ?_ ((hl j hj).2 hc)
    rcases t3 j hj with g | g
    · exact hne _ _ (ar_lt ((hl j hj).2 hc)) g.2.2.2.1 (Or.inl (by show 2 < 3; omega))
    · exact absurd hc (by omega)
  · by_cases e : r = r0
    · subst e
      show hk_row E _ _ _ _ (va_up R.1 r n r) (va_up R.2.1 r k r) (va_up R.2.2.1 r v r) H1 ∧ va_up R.1 r n r ≤ rlen r
      rw [show va_up R.1 r n r = n from if_pos rfl, show va_up R.2.1 r k r = k from if_pos rfl, show va_up R.2.2.1 r v r = v from if_pos rfl]
      exact ⟨hrow, hn1⟩
    · show hk_row E _ _ _ _ (va_up R.1 r0 n r) (va_up R.2.1 r0 k r) (va_up R.2.2.1 r0 v r) H1 ∧ va_up R.1 r0 n r ≤ rlen r
      rw [show va_up R.1 r0 n r = R.1 r from if_neg e, show va_up R.2.1 r0 k r = R.2.1 r from if_neg e, show va_up R.2.2.1 r0 v r = R.2.2.1 r from if_neg e]
      exact ⟨⟨va_at.kept (hr r hr4).1.1 (hne _ _ (va_at.lt (hr r hr4).1.1) (t4 r hr4 0 (by decide)).1 (Or.inr (Or.inr e))), (hne _ _ (ar_lt (hr r hr4).1.2.1) (t4 r hr4 1 (by decide)).1 (Or.inr (Or.inr e))).trans (hr r hr4).1.2.1, (hne _ _ (ar_lt (hr r hr4).1.2.2) (t4 r hr4 2 (by decide)).1 (Or.inr (Or.inr e))).trans (hr r hr4).1.2.2⟩, (hr r hr4).2⟩
  · exact (hne _ _ (ar_lt ht) t5.1 (Or.inr (Or.inl (by show 6 ≤ 6; omega)))).trans ht
/-- the trial strings have changed -/
theorem HW.trial {E : hk_E} {Z : Nat → Prop} {C : hC} {G : hG} {R : hR} {S : mS} {H H1 : Heap} (h : HW E Z C G R S H) {f : Nat → Int32} (hI : hk_I E 0 C.2.2.2 200 f H1) (hq : ∀ q : Nat, q ≠ C.2.2.2 → H1[q]? = H[q]?) : HW E Z C G (R.1, R.2.1, R.2.2.1, f) S H1 := by
  obtain ⟨ho, hl, hr, ht, he, hT⟩ := h
  obtain ⟨t1, t2, t3, t4, t5, t6, t7, t8⟩ := id hT
  have hne : ∀ (q : Nat) (t : Nat × Nat), gtg G q = t → t ≠ (6, 0) → H1[q]? = H[q]? := fun q t e n => hq q (fun g => n (by rw [← e, g]; exact t5.1))
  have hn9 : ∀ (q a b : Nat), gtg G q = (a, b) → a ≠ 6 → H1[q]? = H[q]? := fun q a b e n => hne q _ e (fun g => n (congrArg Prod.fst g))
  refine ⟨va_at.kept ho (hn9 _ _ _ t1.1 (by decide)), fun j hj => ⟨va_at.kept (hl j hj).1 (hn9 _ _ _ (t2 j hj).1 (by decide)), ?_⟩, fun r hr4 => ⟨⟨va_at.kept (hr r hr4).1.1 (hn9 _ _ _ (t4 r hr4 0 (by decide)).1 (by decide)), (hn9 _ _ _ (t4 r hr4 1 (by decide)).1 (by decide)).trans (hr r hr4).1.2.1, (hn9 _ _ _ (t4 r hr4 2 (by decide)).1 (by decide)).trans (hr r hr4).1.2.2⟩, (hr r hr4).2⟩, hI, fun j hj i hi => va_at.kept (he j hj i hi) (hn9 _ _ _ (t6 j hj i hi).1 (by omega)), hT⟩
  intro hc
  refine Eq.trans ?_ ((hl j hj).2 hc)
  rcases t3 j hj with g | g
  · exact hn9 _ _ _ g.2.2.2.1 (by decide)
  · exact absurd hc (by omega)
/-- the ladder's zero has changed -/
theorem HW.zero {E : hk_E} {Z : Nat → Prop} {C : hC} {G : hG} {R : hR} {cn : Nat → Nat} {sc : Nat → Int32} {μ : Nat → Nat → Int32} {H H1 : Heap} (h : HW E Z C G R (cn, sc, μ) H) {v : Int32} (hO : hk_O E C.1 10 (hofs C (cn, va_up sc 32 v, μ)) H1) (hq : ∀ q : Nat, q ≠ C.1 → H1[q]? = H[q]?) : HW E Z C G R (cn, va_up sc 32 v, μ) H1 := by
  obtain ⟨ho, hl, hr, ht, he, hT⟩ := h
  obtain ⟨t1, t2, t3, t4, t5, t6, t7, t8⟩ := id hT
  have hn9 : ∀ (q a b : Nat), gtg G q = (a, b) → a ≠ 0 → H1[q]? = H[q]? := fun q a b e n => hq q (fun g => n (by rw [g, t1.1] at e; exact (congrArg Prod.fst e).symm))
  refine ⟨hO, fun j hj => ⟨va_at.kept (hl j hj).1 (hn9 _ _ _ (t2 j hj).1 (by decide)), ?_⟩, fun r hr4 => ⟨⟨va_at.kept (hr r hr4).1.1 (hn9 _ _ _ (t4 r hr4 0 (by decide)).1 (by decide)), (hn9 _ _ _ (t4 r hr4 1 (by decide)).1 (by decide)).trans (hr r hr4).1.2.1, (hn9 _ _ _ (t4 r hr4 2 (by decide)).1 (by decide)).trans (hr r hr4).1.2.2⟩, (hr r hr4).2⟩, (hn9 _ _ _ t5.1 (by decide)).trans ht, fun j hj i hi => va_at.kept (he j hj i hi) (hn9 _ _ _ (t6 j hj i hi).1 (by omega)), hT⟩
  intro hc
  refine Eq.trans ?_ ((hl j hj).2 hc)
  rcases t3 j hj with g | g
  · exact hn9 _ _ _ g.2.2.2.1 (by decide)
  · exact absurd hc (by omega)

/-- a list has got a new element -/
theorem HW.add {E : hk_E} {Z : Nat → Prop} {C : hC} {G : hG} {R : hR} {S S' : mS} {H Hb H1 : Heap} (h : HW E Z C G R S H) (j0 : Nat) (hj0 : j0 < 7) {v ci : Nat} {fs : List Value} (hv : H.size ≤ v) (hvb : v < Hb.size) (hZ : ∀ q, H.size ≤ q → Z q)
    (hb : ∀ q : Nat, q < H.size → Hb[q]? = H[q]?) (hO : hk_O E v ci fs Hb) (had : hk_ad E (C.2.1 j0) (G.1 j0) (hn S j0) (G.2.1 j0) (G.2.2.1 j0 + 1) (gad G j0) v Hb H1)
    (hf : ∀ q : Nat, q < Hb.size → ¬ (q = C.2.1 j0 ∨ (q = G.1 j0 ∧ hn S j0 < G.2.1 j0) ∨ Hb.size ≤ q) → H1[q]? = Hb[q]?)
    (e0 : hn S' j0 = hn S j0 + 1) (e1 : ∀ j, j < 7 → j ≠ j0 → hn S' j = hn S j) (e3 : S'.2.1 32 = S.2.1 32)
    (e2 : ∀ G' : hG, (∀ j i, j < 7 → i < hn S j → gad G' j i = gad G j i) → (∀ j i, j < 7 → i < hn S j → hci S' j i = hci S j i ∧ hfs G' S' j i = hfs G S j i) ∧ hci S' j0 (hn S j0) = ci ∧ hfs G' S' j0 (hn S j0) = fs) :
    ∃ G' : hG, HW E Z C G' R S' H1 := by
  obtain ⟨ho, hl, hr, ht, he, hT⟩ := h
  obtain ⟨t1, t2, t3, t4, t5, t6, t7, t8⟩ := id hT
  obtain ⟨el', cap', a1, a2, a3, a4, a5⟩ := had
  have hbz : H.size ≤ Hb.size := by omega
  have hn9 : ∀ (q a b : Nat), q < H.size → gtg G q = (a, b) → ((a ≠ 1 ∧ a ≠ 2) ∨ b ≠ j0) → H1[q]? = H[q]? := fun q a b hz e n => by
    rw [hf q (by omega) ?_, hb q hz]
    rintro (g | g | g)
    · rw [g, (t2 j0 hj0).1] at e
      have e5 : (1 : Nat) = a := congrArg Prod.fst e
      have e6 : j0 = b := congrArg Prod.snd e
      rcases n with n | n
      · exact n.1 e5.symm
      · exact n e6.symm
    · rcases t3 j0 hj0 with k | k
      · rw [g.1, k.2.2.2.1] at e
        have e5 : (2 : Nat) = a := congrArg Prod.fst e
        have e6 : j0 = b := congrArg Prod.snd e
        rcases n with n | n
        · exact n.2 e5.symm
        · exact n e6.symm
      · exact absurd g.2 (by omega)
    · omega
  have hel : (el' = G.1 j0 ∧ hn S j0 < G.2.1 j0) ∨ (Hb.size ≤ el' ∧ ¬ hn S j0 < G.2.1 j0) := a5
  obtain ⟨G', hG'⟩ : ∃ G' : hG, G' = (va_up G.1 j0 el', va_up G.2.1 j0 cap', va_up G.2.2.1 j0 (G.2.2.1 j0 + 1), va_up (gad G) j0 (va_up (gad G j0) (hn S j0) v), fun q => if q < H.size then gtg G q else if q = v then (10 + j0, hn S j0) else (2, j0)) := ⟨_, rfl⟩
  have ga : ∀ j i, j < 7 → i < hn S j → gad G' j i = gad G j i := fun j i hj hi => by
    rw [hG']
    show va_up (gad G) j0 (va_up (gad G j0) (hn S j0) v) j i = gad G j i
    unfold va_up
    by_cases e : j = j0
    · subst e
      rw [if_pos rfl, if_neg (by omega)]
    · rw [if_neg e]
  have gn : gad G' j0 (hn S j0) = v := by
    rw [hG']
    show va_up (gad G) j0 (va_up (gad G j0) (hn S j0) v) j0 (hn S j0) = v
    unfold va_up
    rw [if_pos rfl, if_pos rfl]
  have gt : ∀ q : Nat, q < H.size → gtg G' q = gtg G q := fun q hz => by
    rw [hG']
    exact if_pos hz
  have gv : gtg G' v = (10 + j0, hn S j0) := by
    rw [hG']
    show (if v < H.size then gtg G v else if v = v then (10 + j0, hn S j0) else (2, j0)) = _
    rw [if_neg (by omega), if_pos rfl]
  have g1 : ∀ j, j ≠ j0 → G'.1 j = G.1 j ∧ G'.2.1 j = G.2.1 j ∧ G'.2.2.1 j = G.2.2.1 j ∧ gad G' j = gad G j := fun j hj => by
    rw [hG']
    exact ⟨if_neg hj, if_neg hj, if_neg hj, if_neg hj⟩
  have g0 : G'.1 j0 = el' ∧ G'.2.1 j0 = cap' ∧ G'.2.2.1 j0 = G.2.2.1 j0 + 1 ∧ gad G' j0 = va_up (gad G j0) (hn S j0) v := by
    rw [hG']
    exact ⟨if_pos rfl, if_pos rfl, if_pos rfl, if_pos rfl⟩
  obtain ⟨f1, f2, f3⟩ := e2 G' ga
  have hv1 : H1[v]? = Hb[v]? := hf v hvb (by
    rintro (g | g | g)
    · exact absurd (va_at.lt (hl j0 hj0).1) (by rw [← g]; omega)
    · exact absurd (ar_lt ((hl j0 hj0).2 (by omega))) (by rw [← g.1]; omega)
    · omega)
  refine ⟨G', ?_, fun j hj => ?_, fun r hr4 => ⟨⟨va_at.kept (hr r hr4).1.1 (hn9 _ _ _ (va_at.lt (hr r hr4).1.1) (t4 r hr4 0 (by decide)).1 (Or.inl (by decide))), (hn9 _ _ _ (ar_lt (hr r hr4).1.2.1) (t4 r hr4 1 (by decide)).1 (Or.inl (by decide))).trans (hr r hr4).1.2.1, (hn9 _ _ _ (ar_lt (hr r hr4).1.2.2) (t4 r hr4 2 (by decide)).1 (Or.inl (by decide))).trans (hr r hr4).1.2.2⟩, (hr r hr4).2⟩, (hn9 _ _ _ (ar_lt ht) t5.1 (Or.inl (by decide))).trans ht, fun j hj i hi => ?_, ?_⟩
  · have e : hofs C S' = hofs C S := by unfold hofs; rw [e3]
    rw [e]
    exact va_at.kept ho (hn9 _ _ _ (va_at.lt ho) t1.1 (Or.inl (by decide)))
  · by_cases e : j = j0
    · subst e
      rw [g0.1, g0.2.1, g0.2.2.1, g0.2.2.2, e0]
      exact a1
    · rw [(g1 j e).1, (g1 j e).2.1, (g1 j e).2.2.1, (g1 j e).2.2.2, e1 j hj e]
      refine ⟨va_at.kept (hl j hj).1 (hn9 _ _ _ (va_at.lt (hl j hj).1) (t2 j hj).1 (Or.inr e)), ?_⟩
      intro hc
      refine Eq.trans ?_ ((hl j hj).2 hc)
      rcases t3 j hj with k | k
      · exact hn9 _ _ _ (ar_lt ((hl j hj).2 hc)) k.2.2.2.1 (Or.inr e)
      · exact absurd hc (by omega)
  · by_cases e : j = j0
    · subst e
      rw [e0] at hi
      by_cases ei : i = hn S j
      · subst ei
        rw [gn, f2, f3]
        exact va_at.kept hO hv1
      · rw [ga j i hj (by omega), (f1 j i hj (by omega)).1, (f1 j i hj (by omega)).2]
        exact va_at.kept (he j hj i (by omega)) (hn9 _ _ _ (va_at.lt (he j hj i (by omega))) (t6 j hj i (by omega)).1 (Or.inl (by omega)))
    · rw [e1 j hj e] at hi
      rw [ga j i hj hi, (f1 j i hj hi).1, (f1 j i hj hi).2]
      exact va_at.kept (he j hj i hi) (hn9 _ _ _ (va_at.lt (he j hj i hi)) (t6 j hj i hi).1 (Or.inl (by omega)))
  · refine ⟨⟨by rw [gt _ (va_at.lt ho)]; exact t1.1, t1.2⟩, fun j hj => ⟨by rw [gt _ (va_at.lt (hl j hj).1)]; exact (t2 j hj).1, (t2 j hj).2⟩, fun j hj => ?_, fun r hr4 t ht3 => ⟨?_, (t4 r hr4 t ht3).2⟩, ⟨by rw [gt _ (ar_lt ht)]; exact t5.1, t5.2⟩, fun j hj i hi => ?_, t7, t8⟩
    · by_cases e : j = j0
      · subst e
        rw [g0.1, g0.2.1, e0]
        refine Or.inl ?_
        rcases hel with ⟨k1, k2⟩ | ⟨k1, k2⟩
        · rcases t3 j hj with k | k
          · refine ⟨by omega, by omega, by omega, ?_, by rw [k1]; exact k.2.2.2.2⟩
            rw [k1, gt _ (ar_lt ((hl j hj).2 (by omega)))]
            exact k.2.2.2.1
          · exact absurd k2 (by omega)
        · refine ⟨by omega, by omega, ?_, ?_, hZ _ (by omega)⟩
          · rcases t3 j hj with k | k <;> omega
          · rw [hG']
            show (if el' < H.size then gtg G el' else if el' = v then (10 + j, hn S j) else (2, j)) = _
            rw [if_neg (by omega), if_neg (by omega)]
      · rw [(g1 j e).1, (g1 j e).2.1, e1 j hj e]
        rcases t3 j hj with k | k
        · exact Or.inl ⟨k.1, k.2.1, k.2.2.1, by rw [gt _ (ar_lt ((hl j hj).2 (by omega)))]; exact k.2.2.2.1, k.2.2.2.2⟩
        · exact Or.inr k
    · have hlt : C.2.2.1 r t < H.size := by
        rcases (show t = 0 ∨ t = 1 ∨ t = 2 by omega) with e | e | e
        · subst e; exact va_at.lt (hr r hr4).1.1
        · subst e; exact ar_lt (hr r hr4).1.2.1
        · subst e; exact ar_lt (hr r hr4).1.2.2
      rw [gt _ hlt]
      exact (t4 r hr4 t ht3).1
    · by_cases e : j = j0
      · subst e
        rw [e0] at hi
        by_cases ei : i = hn S j
        · subst ei
          rw [gn]
          exact ⟨gv, hZ _ hv⟩
        · rw [ga j i hj (by omega), gt _ (va_at.lt (he j hj i (by omega)))]
          exact t6 j hj i (by omega)
      · rw [e1 j hj e] at hi
        rw [ga j i hj hi, gt _ (va_at.lt (he j hj i hi))]
        exact t6 j hj i hi

theorem HW.o {E : hk_E} {Z : Nat → Prop} {ho ts : Nat} {li : Nat → Nat} {rr : Nat → Nat → Nat} {G : hG} {R : hR} {cn : Nat → Nat} {sc : Nat → Int32} {μ : Nat → Nat → Int32} {H : Heap} (h : HW E Z (ho, li, rr, ts) G R (cn, sc, μ) H) : hk_O E ho 10 [.ref (li 0), .ref (li 1), .ref (li 2), .ref (li 3), .ref (li 4), .ref (li 5), .ref (li 6), .int (sc 32), .ref (rr 0 0), .ref (rr 1 0), .ref (rr 2 0), .ref (rr 3 0), .ref ts] H := h.1
theorem HW.l0 {E : hk_E} {Z : Nat → Prop} {ho ts : Nat} {li : Nat → Nat} {rr : Nat → Nat → Nat} {G : hG} {R : hR} {cn : Nat → Nat} {sc : Nat → Int32} {μ : Nat → Nat → Int32} {H : Heap} (h : HW E Z (ho, li, rr, ts) G R (cn, sc, μ) H) : hk_li E (li 0) (G.1 0) 10 (G.2.1 0) (G.2.2.1 0) (gad G 0) H := h.2.1 0 (by decide)
theorem HW.l1 {E : hk_E} {Z : Nat → Prop} {ho ts : Nat} {li : Nat → Nat} {rr : Nat → Nat → Nat} {G : hG} {R : hR} {cn : Nat → Nat} {sc : Nat → Int32} {μ : Nat → Nat → Int32} {H : Heap} (h : HW E Z (ho, li, rr, ts) G R (cn, sc, μ) H) : hk_li E (li 1) (G.1 1) 8 (G.2.1 1) (G.2.2.1 1) (gad G 1) H := h.2.1 1 (by decide)
theorem HW.l2 {E : hk_E} {Z : Nat → Prop} {ho ts : Nat} {li : Nat → Nat} {rr : Nat → Nat → Nat} {G : hG} {R : hR} {cn : Nat → Nat} {sc : Nat → Int32} {μ : Nat → Nat → Int32} {H : Heap} (h : HW E Z (ho, li, rr, ts) G R (cn, sc, μ) H) : hk_li E (li 2) (G.1 2) (cn 1) (G.2.1 2) (G.2.2.1 2) (gad G 2) H := h.2.1 2 (by decide)
theorem HW.l3 {E : hk_E} {Z : Nat → Prop} {ho ts : Nat} {li : Nat → Nat} {rr : Nat → Nat → Nat} {G : hG} {R : hR} {cn : Nat → Nat} {sc : Nat → Int32} {μ : Nat → Nat → Int32} {H : Heap} (h : HW E Z (ho, li, rr, ts) G R (cn, sc, μ) H) : hk_li E (li 3) (G.1 3) (cn 8) (G.2.1 3) (G.2.2.1 3) (gad G 3) H := h.2.1 3 (by decide)
theorem HW.l4 {E : hk_E} {Z : Nat → Prop} {ho ts : Nat} {li : Nat → Nat} {rr : Nat → Nat → Nat} {G : hG} {R : hR} {cn : Nat → Nat} {sc : Nat → Int32} {μ : Nat → Nat → Int32} {H : Heap} (h : HW E Z (ho, li, rr, ts) G R (cn, sc, μ) H) : hk_li E (li 4) (G.1 4) (cn 12) (G.2.1 4) (G.2.2.1 4) (gad G 4) H := h.2.1 4 (by decide)
theorem HW.l5 {E : hk_E} {Z : Nat → Prop} {ho ts : Nat} {li : Nat → Nat} {rr : Nat → Nat → Nat} {G : hG} {R : hR} {cn : Nat → Nat} {sc : Nat → Int32} {μ : Nat → Nat → Int32} {H : Heap} (h : HW E Z (ho, li, rr, ts) G R (cn, sc, μ) H) : hk_li E (li 5) (G.1 5) (cn 22) (G.2.1 5) (G.2.2.1 5) (gad G 5) H := h.2.1 5 (by decide)
theorem HW.l6 {E : hk_E} {Z : Nat → Prop} {ho ts : Nat} {li : Nat → Nat} {rr : Nat → Nat → Nat} {G : hG} {R : hR} {cn : Nat → Nat} {sc : Nat → Int32} {μ : Nat → Nat → Int32} {H : Heap} (h : HW E Z (ho, li, rr, ts) G R (cn, sc, μ) H) : hk_li E (li 6) (G.1 6) (cn 29) (G.2.1 6) (G.2.2.1 6) (gad G 6) H := h.2.1 6 (by decide)
theorem HW.r0 {E : hk_E} {Z : Nat → Prop} {ho ts : Nat} {li : Nat → Nat} {rr : Nat → Nat → Nat} {G : hG} {R : hR} {cn : Nat → Nat} {sc : Nat → Int32} {μ : Nat → Nat → Int32} {H : Heap} (h : HW E Z (ho, li, rr, ts) G R (cn, sc, μ) H) : hk_row E (rr 0 0) (rr 0 1) (rr 0 2) 80 (R.1 0) (R.2.1 0) (R.2.2.1 0) H ∧ R.1 0 ≤ 80 := h.2.2.1 0 (by decide)
theorem HW.r1 {E : hk_E} {Z : Nat → Prop} {ho ts : Nat} {li : Nat → Nat} {rr : Nat → Nat → Nat} {G : hG} {R : hR} {cn : Nat → Nat} {sc : Nat → Int32} {μ : Nat → Nat → Int32} {H : Heap} (h : HW E Z (ho, li, rr, ts) G R (cn, sc, μ) H) : hk_row E (rr 1 0) (rr 1 1) (rr 1 2) 80 (R.1 1) (R.2.1 1) (R.2.2.1 1) H ∧ R.1 1 ≤ 80 := h.2.2.1 1 (by decide)
theorem HW.r2 {E : hk_E} {Z : Nat → Prop} {ho ts : Nat} {li : Nat → Nat} {rr : Nat → Nat → Nat} {G : hG} {R : hR} {cn : Nat → Nat} {sc : Nat → Int32} {μ : Nat → Nat → Int32} {H : Heap} (h : HW E Z (ho, li, rr, ts) G R (cn, sc, μ) H) : hk_row E (rr 2 0) (rr 2 1) (rr 2 2) 30 (R.1 2) (R.2.1 2) (R.2.2.1 2) H ∧ R.1 2 ≤ 30 := h.2.2.1 2 (by decide)
theorem HW.r3 {E : hk_E} {Z : Nat → Prop} {ho ts : Nat} {li : Nat → Nat} {rr : Nat → Nat → Nat} {G : hG} {R : hR} {cn : Nat → Nat} {sc : Nat → Int32} {μ : Nat → Nat → Int32} {H : Heap} (h : HW E Z (ho, li, rr, ts) G R (cn, sc, μ) H) : hk_row E (rr 3 0) (rr 3 1) (rr 3 2) 12 (R.1 3) (R.2.1 3) (R.2.2.1 3) H ∧ R.1 3 ≤ 12 := h.2.2.1 3 (by decide)
theorem HW.t {E : hk_E} {Z : Nat → Prop} {ho ts : Nat} {li : Nat → Nat} {rr : Nat → Nat → Nat} {G : hG} {R : hR} {cn : Nat → Nat} {sc : Nat → Int32} {μ : Nat → Nat → Int32} {H : Heap} (h : HW E Z (ho, li, rr, ts) G R (cn, sc, μ) H) : hk_I E 0 ts 200 R.2.2.2 H := h.2.2.2.1
theorem HW.e0 {E : hk_E} {Z : Nat → Prop} {ho ts : Nat} {li : Nat → Nat} {rr : Nat → Nat → Nat} {G : hG} {R : hR} {cn : Nat → Nat} {sc : Nat → Int32} {μ : Nat → Nat → Int32} {H : Heap} (h : HW E Z (ho, li, rr, ts) G R (cn, sc, μ) H) {i : Nat} (hi : i < 10) : hk_O E (gad G 0 i) 1 [.int (μ 0 i)] H := h.2.2.2.2.1 0 (by decide) i hi
theorem HW.e1 {E : hk_E} {Z : Nat → Prop} {ho ts : Nat} {li : Nat → Nat} {rr : Nat → Nat → Nat} {G : hG} {R : hR} {cn : Nat → Nat} {sc : Nat → Int32} {μ : Nat → Nat → Int32} {H : Heap} (h : HW E Z (ho, li, rr, ts) G R (cn, sc, μ) H) {i : Nat} (hi : i < 8) : hk_O E (gad G 1 i) 9 [.int (μ 6 i), .int (μ 7 i)] H := h.2.2.2.2.1 1 (by decide) i hi
theorem HW.e2 {E : hk_E} {Z : Nat → Prop} {ho ts : Nat} {li : Nat → Nat} {rr : Nat → Nat → Nat} {G : hG} {R : hR} {cn : Nat → Nat} {sc : Nat → Int32} {μ : Nat → Nat → Int32} {H : Heap} (h : HW E Z (ho, li, rr, ts) G R (cn, sc, μ) H) {i : Nat} (hi : i < cn 1) : hk_O E (gad G 2 i) 7 [.int (nI i), .int (μ 2 i), .int (μ 3 i), .int (μ 4 i), .int (μ 5 i)] H := h.2.2.2.2.1 2 (by decide) i hi
theorem HW.e3 {E : hk_E} {Z : Nat → Prop} {ho ts : Nat} {li : Nat → Nat} {rr : Nat → Nat → Nat} {G : hG} {R : hR} {cn : Nat → Nat} {sc : Nat → Int32} {μ : Nat → Nat → Int32} {H : Heap} (h : HW E Z (ho, li, rr, ts) G R (cn, sc, μ) H) {i : Nat} (hi : i < cn 8) : hk_O E (gad G 3 i) 4 [.int (μ 9 i), .int (μ 11 i), .int (μ 10 i)] H := h.2.2.2.2.1 3 (by decide) i hi
theorem HW.e5 {E : hk_E} {Z : Nat → Prop} {ho ts : Nat} {li : Nat → Nat} {rr : Nat → Nat → Nat} {G : hG} {R : hR} {cn : Nat → Nat} {sc : Nat → Int32} {μ : Nat → Nat → Int32} {H : Heap} (h : HW E Z (ho, li, rr, ts) G R (cn, sc, μ) H) {i : Nat} (hi : i < cn 22) : hk_O E (gad G 5 i) 6 [.int (μ 23 i), .int (μ 24 i), .int (μ 27 i), .int (μ 28 i), .int (μ 25 i), .int (μ 26 i)] H := h.2.2.2.2.1 5 (by decide) i hi
theorem HW.e6 {E : hk_E} {Z : Nat → Prop} {ho ts : Nat} {li : Nat → Nat} {rr : Nat → Nat → Nat} {G : hG} {R : hR} {cn : Nat → Nat} {sc : Nat → Int32} {μ : Nat → Nat → Int32} {H : Heap} (h : HW E Z (ho, li, rr, ts) G R (cn, sc, μ) H) {i : Nat} (hi : i < cn 29) : hk_O E (gad G 6 i) 3 [.ref (gad G 2 (ix (μ 30 i))), .int (μ 31 i)] H := h.2.2.2.2.1 6 (by decide) i hi
theorem HW.e8 {E : hk_E} {Z : Nat → Prop} {ho ts : Nat} {li : Nat → Nat} {rr : Nat → Nat → Nat} {G : hG} {R : hR} {cn : Nat → Nat} {sc : Nat → Int32} {μ : Nat → Nat → Int32} {H : Heap} (h : HW E Z (ho, li, rr, ts) G R (cn, sc, μ) H) {i : Nat} (hi : i < cn 12) (hs : μ 13 i = 0) : hk_O E (gad G 4 i) 8 [.ref (gad G 2 (ix (μ 14 i))), .int (μ 21 i), .ref (gad G 1 (ix (μ 15 i))), .int (μ 16 i), .ref (gad G 0 (ix (μ 17 i))), .int (μ 18 i), .int (μ 19 i), .ref (gad G 0 (ix (μ 20 i)))] H := by
  have q := h.2.2.2.2.1 4 (by decide) i hi
  have e1 : hci (cn, sc, μ) 4 i = 8 := if_pos hs
  have e2 : hfs G (cn, sc, μ) 4 i = [.ref (gad G 2 (ix (μ 14 i))), .int (μ 21 i), .ref (gad G 1 (ix (μ 15 i))), .int (μ 16 i), .ref (gad G 0 (ix (μ 17 i))), .int (μ 18 i), .int (μ 19 i), .ref (gad G 0 (ix (μ 20 i)))] := if_pos hs
  rw [e1, e2] at q
  exact q
theorem HW.e9 {E : hk_E} {Z : Nat → Prop} {ho ts : Nat} {li : Nat → Nat} {rr : Nat → Nat → Nat} {G : hG} {R : hR} {cn : Nat → Nat} {sc : Nat → Int32} {μ : Nat → Nat → Int32} {H : Heap} (h : HW E Z (ho, li, rr, ts) G R (cn, sc, μ) H) {i : Nat} (hi : i < cn 12) (hs : ¬ μ 13 i = 0) : hk_O E (gad G 4 i) 2 [.ref (gad G 2 (ix (μ 14 i))), .int (μ 21 i), .ref (gad G 3 (ix (μ 15 i))), .int (μ 16 i)] H := by
  have q := h.2.2.2.2.1 4 (by decide) i hi
  have e1 : hci (cn, sc, μ) 4 i = 2 := if_neg hs
  have e2 : hfs G (cn, sc, μ) 4 i = [.ref (gad G 2 (ix (μ 14 i))), .int (μ 21 i), .ref (gad G 3 (ix (μ 15 i))), .int (μ 16 i)] := if_neg hs
  rw [e1, e2] at q
  exact q
theorem HW.c0 {E : hk_E} {Z : Nat → Prop} {ho ts : Nat} {li : Nat → Nat} {rr : Nat → Nat → Nat} {G : hG} {R : hR} {cn : Nat → Nat} {sc : Nat → Int32} {μ : Nat → Nat → Int32} {H : Heap} (h : HW E Z (ho, li, rr, ts) G R (cn, sc, μ) H) : 10 ≤ G.2.1 0 ∧ G.2.1 0 ≤ 150 := by
  rcases h.2.2.2.2.2.2.2.1 0 (by decide) with g | g
  · exact ⟨g.1, g.2.2.1⟩
  · exact ⟨by have := g.1; have := g.2.1; show hn (cn, sc, μ) 0 ≤ _; omega, by have := g.2.1; omega⟩
theorem HW.c1 {E : hk_E} {Z : Nat → Prop} {ho ts : Nat} {li : Nat → Nat} {rr : Nat → Nat → Nat} {G : hG} {R : hR} {cn : Nat → Nat} {sc : Nat → Int32} {μ : Nat → Nat → Int32} {H : Heap} (h : HW E Z (ho, li, rr, ts) G R (cn, sc, μ) H) : 8 ≤ G.2.1 1 ∧ G.2.1 1 ≤ 150 := by
  rcases h.2.2.2.2.2.2.2.1 1 (by decide) with g | g
  · exact ⟨g.1, g.2.2.1⟩
  · exact ⟨by have := g.1; have := g.2.1; show hn (cn, sc, μ) 1 ≤ _; omega, by have := g.2.1; omega⟩
theorem HW.c2 {E : hk_E} {Z : Nat → Prop} {ho ts : Nat} {li : Nat → Nat} {rr : Nat → Nat → Nat} {G : hG} {R : hR} {cn : Nat → Nat} {sc : Nat → Int32} {μ : Nat → Nat → Int32} {H : Heap} (h : HW E Z (ho, li, rr, ts) G R (cn, sc, μ) H) : (cn 1) ≤ G.2.1 2 ∧ G.2.1 2 ≤ 150 := by
  rcases h.2.2.2.2.2.2.2.1 2 (by decide) with g | g
  · exact ⟨g.1, g.2.2.1⟩
  · exact ⟨by have := g.1; have := g.2.1; show hn (cn, sc, μ) 2 ≤ _; omega, by have := g.2.1; omega⟩
theorem HW.c3 {E : hk_E} {Z : Nat → Prop} {ho ts : Nat} {li : Nat → Nat} {rr : Nat → Nat → Nat} {G : hG} {R : hR} {cn : Nat → Nat} {sc : Nat → Int32} {μ : Nat → Nat → Int32} {H : Heap} (h : HW E Z (ho, li, rr, ts) G R (cn, sc, μ) H) : (cn 8) ≤ G.2.1 3 ∧ G.2.1 3 ≤ 150 := by
  rcases h.2.2.2.2.2.2.2.1 3 (by decide) with g | g
  · exact ⟨g.1, g.2.2.1⟩
  · exact ⟨by have := g.1; have := g.2.1; show hn (cn, sc, μ) 3 ≤ _; omega, by have := g.2.1; omega⟩
theorem HW.c4 {E : hk_E} {Z : Nat → Prop} {ho ts : Nat} {li : Nat → Nat} {rr : Nat → Nat → Nat} {G : hG} {R : hR} {cn : Nat → Nat} {sc : Nat → Int32} {μ : Nat → Nat → Int32} {H : Heap} (h : HW E Z (ho, li, rr, ts) G R (cn, sc, μ) H) : (cn 12) ≤ G.2.1 4 ∧ G.2.1 4 ≤ 150 := by
  rcases h.2.2.2.2.2.2.2.1 4 (by decide) with g | g
  · exact ⟨g.1, g.2.2.1⟩
  · exact ⟨by have := g.1; have := g.2.1; show hn (cn, sc, μ) 4 ≤ _; omega, by have := g.2.1; omega⟩
theorem HW.c5 {E : hk_E} {Z : Nat → Prop} {ho ts : Nat} {li : Nat → Nat} {rr : Nat → Nat → Nat} {G : hG} {R : hR} {cn : Nat → Nat} {sc : Nat → Int32} {μ : Nat → Nat → Int32} {H : Heap} (h : HW E Z (ho, li, rr, ts) G R (cn, sc, μ) H) : (cn 22) ≤ G.2.1 5 ∧ G.2.1 5 ≤ 150 := by
  rcases h.2.2.2.2.2.2.2.1 5 (by decide) with g | g
  · exact ⟨g.1, g.2.2.1⟩
  · exact ⟨by have := g.1; have := g.2.1; show hn (cn, sc, μ) 5 ≤ _; omega, by have := g.2.1; omega⟩
theorem HW.c6 {E : hk_E} {Z : Nat → Prop} {ho ts : Nat} {li : Nat → Nat} {rr : Nat → Nat → Nat} {G : hG} {R : hR} {cn : Nat → Nat} {sc : Nat → Int32} {μ : Nat → Nat → Int32} {H : Heap} (h : HW E Z (ho, li, rr, ts) G R (cn, sc, μ) H) : (cn 29) ≤ G.2.1 6 ∧ G.2.1 6 ≤ 150 := by
  rcases h.2.2.2.2.2.2.2.1 6 (by decide) with g | g
  · exact ⟨g.1, g.2.2.1⟩
  · exact ⟨by have := g.1; have := g.2.1; show hn (cn, sc, μ) 6 ≤ _; omega, by have := g.2.1; omega⟩
theorem isS_xl {n : Nat} {i : Int32} (h : isS n i) (hn : n < 2 ^ 31) : ix i < n := by
  obtain ⟨j, hj, rfl⟩ := isS_ix hn h
  show (nI j).toNatClampNeg < n
  rw [nI_clamp (by omega)]
  exact hj
theorem nI_ix {i : Int32} (h : 0 ≤ i) : nI (ix i) = i := by
  obtain ⟨j, hj, rfl⟩ := nI_of (x := i) (Int32.not_lt.mpr h)
  show nI ((nI j).toNatClampNeg) = nI j
  rw [nI_clamp hj]
theorem inr_lt {N : Nat} {i : Int32} (hN : N < 2 ^ 31) (h : inr i 0 (nI N)) : ix i < N + 1 := by
  obtain ⟨j, hj, rfl⟩ := inr_ix hN h
  show (nI j).toNatClampNeg < N + 1
  rw [nI_clamp (by omega)]
  omega
/-- a public call of the house: it answers, or throws -/
def hpost (E : hk_E) (Z : Nat → Prop) (C : hC) (cd an : Int32) (S' : mS) : Option Value → Heap → Prop := fun z H1 => cd = 0 ∧ z = some (.int an) ∧ ∃ G R, HW E Z C G R S' H1
def hpx (E : hk_E) (Z : Nat → Prop) (C : hC) (cd : Int32) (S : mS) (nm : List String) : String → Heap → Prop := fun x H1 => ((cd = 1 ∧ x = nm.getD 0 "") ∨ (cd = 2 ∧ x = nm.getD 1 "") ∨ (cd = 3 ∧ x = nm.getD 2 "")) ∧ ∃ G R, HW E Z C G R S H1
theorem hpx_1 {E : hk_E} {Z : Nat → Prop} {C : hC} {G : hG} {R : hR} {cd : Int32} {S : mS} {nm : List String} {x : String} {H H1 : Heap} (hW : HW E Z C G R S H) (hk : ∀ q : Nat, q < H.size → ¬ H.size ≤ q → H1[q]? = H[q]?)
    (hc : (cd = 1 ∧ x = nm.getD 0 "") ∨ (cd = 2 ∧ x = nm.getD 1 "") ∨ (cd = 3 ∧ x = nm.getD 2 "")) : hpx E Z C cd S nm x H1 :=
  ⟨hc, G, R, hW.kept (fun q hq _ => hk q hq (by omega))⟩
abbrev XI : String := "java/lang/IndexOutOfBoundsException"
abbrev XA : String := "java/lang/IllegalArgumentException"
abbrev XS : String := "java/lang/IllegalStateException"

