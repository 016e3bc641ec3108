/-! a house whose lists are filled as far as N says -/
def hTn (E : hk_E) (Z : Nat → Prop) (C : hC) (G : hG) (N : Nat → Nat) : Prop :=
  (gtg G C.1 = (0, 0) ∧ Z C.1) ∧ (∀ j, j < 7 → gtg G (C.2.1 j) = (1, j) ∧ Z (C.2.1 j)) ∧
  (∀ j, j < 7 → (N j ≤ G.2.1 j ∧ 2 ≤ G.2.1 j ∧ G.2.1 j ≤ 150 ∧ gtg G (G.1 j) = (2, j) ∧ Z (G.1 j)) ∨ (N j = 0 ∧ G.2.1 j = 0 ∧ G.1 j = E.2.2.2.1)) ∧
  (∀ r, r < 4 → ∀ t, t < 3 → gtg G (C.2.2.1 r t) = (3 + t, r) ∧ Z (C.2.2.1 r t)) ∧ (gtg G C.2.2.2 = (6, 0) ∧ Z C.2.2.2) ∧
  (∀ j, j < 7 → ∀ i, i < N j → gtg G (gad G j i) = (10 + j, i) ∧ Z (gad G j i)) ∧ ¬ hk_A E E.2.2.2.1 ∧ ∀ q, Z q → hk_A E q
def HWn (E : hk_E) (Z : Nat → Prop) (C : hC) (G : hG) (R : hR) (S : mS) (N : Nat → Nat) (H : Heap) : Prop :=
  hk_O E C.1 10 (hofs C S) H ∧ (∀ j, j < 7 → hk_li E (C.2.1 j) (G.1 j) (N j) (G.2.1 j) (G.2.2.1 j) (gad G j) H) ∧
  (∀ r, r < 4 → hk_row E (C.2.2.1 r 0) (C.2.2.1 r 1) (C.2.2.1 r 2) (rlen r) (R.1 r) (R.2.1 r) (R.2.2.1 r) H ∧ R.1 r ≤ rlen r) ∧
  hk_I E 0 C.2.2.2 200 R.2.2.2 H ∧ (∀ j, j < 7 → ∀ i, i < N j → hk_O E (gad G j i) (hci S j i) (hfs G S j i) H) ∧ hTn E Z C G N
theorem HWn.kept {E : hk_E} {Z : Nat → Prop} {C : hC} {G : hG} {R : hR} {S : mS} {N : Nat → Nat} {H H1 : Heap} (h : HWn E Z C G R S N H) (hq : ∀ q : Nat, q < H.size → (Z q ∨ ¬ hk_A E q) → H1[q]? = H[q]?) : HWn E Z C G R S N H1 := by
  obtain ⟨ho, hl, hr, ht, he, hT⟩ := h
  obtain ⟨t1, t2, t3, t4, t5, t6, t7, t8⟩ := id hT
  refine ⟨va_at.kept ho (hq _ (va_at.lt ho) (Or.inl t1.2)), fun j hj => ⟨va_at.kept (hl j hj).1 (hq _ (va_at.lt (hl j hj).1) (Or.inl (t2 j hj).2)), ?_⟩, fun r hr4 => ⟨⟨va_at.kept (hr r hr4).1.1 (hq _ (va_at.lt (hr r hr4).1.1) (Or.inl (t4 r hr4 0 (by decide)).2)), ?_, ?_⟩, (hr r hr4).2⟩, ?_, fun j hj i hi => va_at.kept (he j hj i hi) (hq _ (va_at.lt (he j hj i hi)) (Or.inl (t6 j hj i hi).2)), hT⟩
  · intro hc
    refine (hq _ (ar_lt ((hl j hj).2 hc)) ?_).trans ((hl j hj).2 hc)
    rcases t3 j hj with g | g
    · exact Or.inl g.2.2.2.2
    · exact absurd hc (by omega)
  · exact (hq _ (ar_lt (hr r hr4).1.2.1) (Or.inl (t4 r hr4 1 (by decide)).2)).trans (hr r hr4).1.2.1
  · exact (hq _ (ar_lt (hr r hr4).1.2.2) (Or.inl (t4 r hr4 2 (by decide)).2)).trans (hr r hr4).1.2.2
  · exact (hq _ (ar_lt ht) (Or.inl t5.2)).trans ht
theorem HWn.add {E : hk_E} {Z : Nat → Prop} {C : hC} {G : hG} {R : hR} {S : mS} {N N' : Nat → Nat} {H Hb H1 : Heap} (h : HWn E Z C G R S N H) (j0 : Nat) (hj0 : j0 < 7) {v ci : Nat} {fs : List Value} (hv : H.size ≤ v) (hvb : v < Hb.size) (hZ : ∀ q, H.size ≤ q → Z q)
    (hb : ∀ q : Nat, q < H.size → Hb[q]? = H[q]?) (hO : hk_O E v ci fs Hb) (had : hk_ad E (C.2.1 j0) (G.1 j0) (N j0) (G.2.1 j0) (G.2.2.1 j0 + 1) (gad G j0) v Hb H1)
    (hf : ∀ q : Nat, q < Hb.size → ¬ (q = C.2.1 j0 ∨ (q = G.1 j0 ∧ N j0 < G.2.1 j0) ∨ Hb.size ≤ q) → H1[q]? = Hb[q]?)
    (e0 : N' j0 = N j0 + 1) (e1 : ∀ j, j < 7 → j ≠ j0 → N' j = N j) (e3 : S.2.1 32 = S.2.1 32)
    (e2 : ∀ G' : hG, (∀ j i, j < 7 → i < N j → gad G' j i = gad G j i) → (∀ j i, j < 7 → i < N j → hci S j i = hci S j i ∧ hfs G' S j i = hfs G S j i) ∧ hci S j0 (N j0) = ci ∧ hfs G' S j0 (N j0) = fs) :
    ∃ G' : hG, HWn E Z C G' R S N' H1 := by
  obtain ⟨ho, hl, hr, ht, he, hT⟩ := h
  obtain ⟨t1, t2, t3, t4, t5, t6, t7, t8⟩ := id hT
  obtain ⟨el', cap', a1, a2, a3, a4, a5⟩ := had
  have hbz : H.size ≤ Hb.size := by omega
  have hn9 : ∀ (q a b : Nat), q < H.size → gtg G q = (a, b) → ((a ≠ 1 ∧ a ≠ 2) ∨ b ≠ j0) → H1[q]? = H[q]? := fun q a b hz e n => by
    rw [hf q (by omega) ?_, hb q hz]
    rintro (g | g | g)
    · rw [g, (t2 j0 hj0).1] at e
      have e5 : (1 : Nat) = a := congrArg Prod.fst e
      have e6 : j0 = b := congrArg Prod.snd e
      rcases n with n | n
      · exact n.1 e5.symm
      · exact n e6.symm
    · rcases t3 j0 hj0 with k | k
      · rw [g.1, k.2.2.2.1] at e
        have e5 : (2 : Nat) = a := congrArg Prod.fst e
        have e6 : j0 = b := congrArg Prod.snd e
        rcases n with n | n
        · exact n.2 e5.symm
        · exact n e6.symm
      · exact absurd g.2 (by omega)
    · omega
  have hel : (el' = G.1 j0 ∧ N j0 < G.2.1 j0) ∨ (Hb.size ≤ el' ∧ ¬ N j0 < G.2.1 j0) := a5
  obtain ⟨G', hG'⟩ : ∃ G' : hG, G' = (va_up G.1 j0 el', va_up G.2.1 j0 cap', va_up G.2.2.1 j0 (G.2.2.1 j0 + 1), va_up (gad G) j0 (va_up (gad G j0) (N j0) v), fun q => if q < H.size then gtg G q else if q = v then (10 + j0, N j0) else (2, j0)) := ⟨_, rfl⟩
  have ga : ∀ j i, j < 7 → i < N j → gad G' j i = gad G j i := fun j i hj hi => by
    rw [hG']
    show va_up (gad G) j0 (va_up (gad G j0) (N j0) v) j i = gad G j i
    unfold va_up
    by_cases e : j = j0
    · subst e
      rw [if_pos rfl, if_neg (by omega)]
    · rw [if_neg e]
  have gn : gad G' j0 (N j0) = v := by
    rw [hG']
    show va_up (gad G) j0 (va_up (gad G j0) (N j0) v) j0 (N j0) = v
    unfold va_up
    rw [if_pos rfl, if_pos rfl]
  have gt : ∀ q : Nat, q < H.size → gtg G' q = gtg G q := fun q hz => by
    rw [hG']
    exact if_pos hz
  have gv : gtg G' v = (10 + j0, N j0) := by
    rw [hG']
    show (if v < H.size then gtg G v else if v = v then (10 + j0, N j0) else (2, j0)) = _
    rw [if_neg (by omega), if_pos rfl]
  have g1 : ∀ j, j ≠ j0 → G'.1 j = G.1 j ∧ G'.2.1 j = G.2.1 j ∧ G'.2.2.1 j = G.2.2.1 j ∧ gad G' j = gad G j := fun j hj => by
    rw [hG']
    exact ⟨if_neg hj, if_neg hj, if_neg hj, if_neg hj⟩
  have g0 : G'.1 j0 = el' ∧ G'.2.1 j0 = cap' ∧ G'.2.2.1 j0 = G.2.2.1 j0 + 1 ∧ gad G' j0 = va_up (gad G j0) (N j0) v := by
    rw [hG']
    exact ⟨if_pos rfl, if_pos rfl, if_pos rfl, if_pos rfl⟩
  obtain ⟨f1, f2, f3⟩ := e2 G' ga
  have hv1 : H1[v]? = Hb[v]? := hf v hvb (by
    rintro (g | g | g)
    · exact absurd (va_at.lt (hl j0 hj0).1) (by rw [← g]; omega)
    · exact absurd (ar_lt ((hl j0 hj0).2 (by omega))) (by rw [← g.1]; omega)
    · omega)
  refine ⟨G', ?_, fun j hj => ?_, fun r hr4 => ⟨⟨va_at.kept (hr r hr4).1.1 (hn9 _ _ _ (va_at.lt (hr r hr4).1.1) (t4 r hr4 0 (by decide)).1 (Or.inl (by decide))), (hn9 _ _ _ (ar_lt (hr r hr4).1.2.1) (t4 r hr4 1 (by decide)).1 (Or.inl (by decide))).trans (hr r hr4).1.2.1, (hn9 _ _ _ (ar_lt (hr r hr4).1.2.2) (t4 r hr4 2 (by decide)).1 (Or.inl (by decide))).trans (hr r hr4).1.2.2⟩, (hr r hr4).2⟩, (hn9 _ _ _ (ar_lt ht) t5.1 (Or.inl (by decide))).trans ht, fun j hj i hi => ?_, ?_⟩
  · have e : hofs C S = hofs C S := by unfold hofs; rw [e3]
    rw [e]
    exact va_at.kept ho (hn9 _ _ _ (va_at.lt ho) t1.1 (Or.inl (by decide)))
  · by_cases e : j = j0
    · subst e
      rw [g0.1, g0.2.1, g0.2.2.1, g0.2.2.2, e0]
      exact a1
    · rw [(g1 j e).1, (g1 j e).2.1, (g1 j e).2.2.1, (g1 j e).2.2.2, e1 j hj e]
      refine ⟨va_at.kept (hl j hj).1 (hn9 _ _ _ (va_at.lt (hl j hj).1) (t2 j hj).1 (Or.inr e)), ?_⟩
      intro hc
      refine Eq.trans ?_ ((hl j hj).2 hc)
      rcases t3 j hj with k | k
      · exact hn9 _ _ _ (ar_lt ((hl j hj).2 hc)) k.2.2.2.1 (Or.inr e)
      · exact absurd hc (by omega)
  · by_cases e : j = j0
    · subst e
      rw [e0] at hi
      by_cases ei : i = N j
      · subst ei
        rw [gn, f2, f3]
        exact va_at.kept hO hv1
      · rw [ga j i hj (by omega), (f1 j i hj (by omega)).1, (f1 j i hj (by omega)).2]
        exact va_at.kept (he j hj i (by omega)) (hn9 _ _ _ (va_at.lt (he j hj i (by omega))) (t6 j hj i (by omega)).1 (Or.inl (by omega)))
    · rw [e1 j hj e] at hi
      rw [ga j i hj hi, (f1 j i hj hi).1, (f1 j i hj hi).2]
      exact va_at.kept (he j hj i hi) (hn9 _ _ _ (va_at.lt (he j hj i hi)) (t6 j hj i hi).1 (Or.inl (by omega)))
  · refine ⟨⟨by rw [gt _ (va_at.lt ho)]; exact t1.1, t1.2⟩, fun j hj => ⟨by rw [gt _ (va_at.lt (hl j hj).1)]; exact (t2 j hj).1, (t2 j hj).2⟩, fun j hj => ?_, fun r hr4 t ht3 => ⟨?_, (t4 r hr4 t ht3).2⟩, ⟨by rw [gt _ (ar_lt ht)]; exact t5.1, t5.2⟩, fun j hj i hi => ?_, t7, t8⟩
    · by_cases e : j = j0
      · subst e
        rw [g0.1, g0.2.1, e0]
        refine Or.inl ?_
        rcases hel with ⟨k1, k2⟩ | ⟨k1, k2⟩
        · rcases t3 j hj with k | k
          · refine ⟨by omega, by omega, by omega, ?_, by rw [k1]; exact k.2.2.2.2⟩
            rw [k1, gt _ (ar_lt ((hl j hj).2 (by omega)))]
            exact k.2.2.2.1
          · exact absurd k2 (by omega)
        · refine ⟨by omega, by omega, ?_, ?_, hZ _ (by omega)⟩
          · rcases t3 j hj with k | k <;> omega
          · rw [hG']
            show (if el' < H.size then gtg G el' else if el' = v then (10 + j, N j) else (2, j)) = _
            rw [if_neg (by omega), if_neg (by omega)]
      · rw [(g1 j e).1, (g1 j e).2.1, e1 j hj e]
        rcases t3 j hj with k | k
        · exact Or.inl ⟨k.1, k.2.1, k.2.2.1, by rw [gt _ (ar_lt ((hl j hj).2 (by omega)))]; exact k.2.2.2.1, k.2.2.2.2⟩
        · exact Or.inr k
    · have hlt : C.2.2.1 r t < H.size := by
        rcases (show t = 0 ∨ t = 1 ∨ t = 2 by omega) with e | e | e
        · subst e; exact va_at.lt (hr r hr4).1.1
        · subst e; exact ar_lt (hr r hr4).1.2.1
        · subst e; exact ar_lt (hr r hr4).1.2.2
      rw [gt _ hlt]
      exact (t4 r hr4 t ht3).1
    · by_cases e : j = j0
      · subst e
        rw [e0] at hi
        by_cases ei : i = N j
        · subst ei
          rw [gn]
          exact ⟨gv, hZ _ hv⟩
        · rw [ga j i hj (by omega), gt _ (va_at.lt (he j hj i (by omega)))]
          exact t6 j hj i (by omega)
      · rw [e1 j hj e] at hi
        rw [ga j i hj hi, gt _ (va_at.lt (he j hj i hi))]
        exact t6 j hj i hi
theorem HWn.el {E : hk_E} {Z : Nat → Prop} {C : hC} {G : hG} {R : hR} {S : mS} {N : Nat → Nat} {H : Heap} (h : HWn E Z C G R S N H) {j i : Nat} (hj : j < 7) (hi : i < N j) : hk_el E (gad G j i) H := by
  have q := h.2.2.2.2.1 j hj i hi
  rcases lt7 hj with e | e | e | e | e | e | e <;> subst e
  · exact ⟨1, _, _, rfl, by decide +kernel, q⟩
  · exact ⟨9, _, _, rfl, by decide +kernel, q⟩
  · exact ⟨7, _, _, rfl, by decide +kernel, q⟩
  · exact ⟨4, _, _, rfl, by decide +kernel, q⟩
  · by_cases hs : S.2.2 13 i = 0
    · rw [show hci S 4 i = 8 from if_pos hs] at q
      exact ⟨8, _, _, rfl, by decide +kernel, q⟩
    · rw [show hci S 4 i = 2 from if_neg hs] at q
      exact ⟨2, _, _, rfl, by decide +kernel, q⟩
  · exact ⟨6, _, _, rfl, by decide +kernel, q⟩
  · exact ⟨3, _, _, rfl, by decide +kernel, q⟩
theorem c_haddn (E : hk_E) (l : Launch) (H0 : Heap) {Z : Nat → Prop} {C : hC} {G : hG} {R : hR} {S : mS} {N : Nat → Nat} (h : HWn E Z C G R S N H0) (j0 : Nat) (hj0 : j0 < 7) (hlt : N j0 ≤ 80) {v : Nat} (hv9 : hk_el E v H0) (hvL : v ≠ C.2.1 j0) (hbase : E.2.2.1 ≤ H0.size) :
    hk_M E l yJx4a65c_add_9ea2d wsJx4a65c_add_9ea2d rmlist_add (fun q => q = C.2.1 j0 ∨ (q = G.1 j0 ∧ N j0 < G.2.1 j0) ∨ H0.size ≤ q) [.ref (C.2.1 j0), .ref v] H0 (fun z H1 => z = some (.int 1) ∧ hk_ad E (C.2.1 j0) (G.1 j0) (N j0) (G.2.1 j0) (G.2.2.1 j0 + 1) (gad G j0) v H0 H1) := by
  obtain ⟨t1, t2, t3, t4, t5, t6, t7, t8⟩ := h.2.2.2.2.2
  have hne : C.2.1 j0 ≠ G.1 j0 := fun g => by
    rcases t3 j0 hj0 with k | k
    · have k1 := (t2 j0 hj0).1
      rw [g, k.2.2.2.1] at k1
      exact absurd (congrArg Prod.fst k1) (by show ¬ 2 = 1; decide)
    · exact t7 (by rw [← k.2.2, ← g]; exact t8 _ (t2 j0 hj0).2)
  refine c_list_add E l H0 (h.2.1 j0 hj0) (t8 _ (t2 j0 hj0).2) hbase (fun q => ?_) hne (fun i hi => h.el hj0 hi) hv9 hvL (fun i hi g => ?_) ?_
  · rcases t3 j0 hj0 with k | k
    · exact t8 _ k.2.2.2.2
    · exact absurd q (by omega)
  · have k1 := (t2 j0 hj0).1
    rw [← g, (t6 j0 hj0 i hi).1] at k1
    exact absurd (congrArg Prod.fst k1) (by show ¬ 10 + j0 = 1; omega)
  · rcases t3 j0 hj0 with k | k
    · by_cases g : N j0 < G.2.1 j0
      · exact Or.inl ⟨g, by omega, k.2.1⟩
      · exact Or.inr (Or.inr ⟨by omega, k.2.1, by omega⟩)
    · exact Or.inr (Or.inl k)
theorem HWn.hw {E : hk_E} {Z : Nat → Prop} {C : hC} {G : hG} {R : hR} {S : mS} {H : Heap} (h : HWn E Z C G R S (hn S) H) : HW E Z C G R S H := h
theorem HWn.addA {E : hk_E} {Z : Nat → Prop} {C : hC} {G : hG} {R : hR} {S : mS} {N : Nat → Nat} {H : Heap} (h : HWn E Z C G R S N H) {j0 M : Nat} (hj0 : j0 < 7) (hZ : ∀ q, M ≤ q → Z q) : ∀ q, (q = C.2.1 j0 ∨ (q = G.1 j0 ∧ N j0 < G.2.1 j0) ∨ M ≤ q) → Z q := by
  obtain ⟨t1, t2, t3, -⟩ := h.2.2.2.2.2
  rintro q (g | g | g)
  · rw [g]; exact (t2 j0 hj0).2
  · rcases t3 j0 hj0 with k | k
    · rw [g.1]; exact k.2.2.2.2
    · exact absurd g.2 (by omega)
  · exact hZ q g
