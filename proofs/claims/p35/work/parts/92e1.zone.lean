theorem HW.zone {E : hk_E} {Z Z' : Nat → Prop} {C : hC} {G : hG} {R : hR} {S : mS} {H : Heap} (h : HW E Z C G R S H) (hz : ∀ q, q < H.size → Z q → Z' q) (hA : ∀ q, Z' q → hk_A E q) : HW E Z' C G R S H := by
  obtain ⟨ho, hl, hr, ht, he, t1, t2, t3, t4, t5, t6, t7, t8⟩ := h
  refine ⟨ho, hl, hr, ht, he, ⟨t1.1, hz _ (va_at.lt ho) t1.2⟩, fun j hj => ⟨(t2 j hj).1, hz _ (va_at.lt (hl j hj).1) (t2 j hj).2⟩, fun j hj => ?_, fun r hr4 t ht3 => ⟨(t4 r hr4 t ht3).1, hz _ ?_ (t4 r hr4 t ht3).2⟩, ⟨t5.1, hz _ (ar_lt ht) t5.2⟩, fun j hj i hi => ⟨(t6 j hj i hi).1, hz _ (va_at.lt (he j hj i hi)) (t6 j hj i hi).2⟩, t7, hA⟩
  · rcases t3 j hj with g | g
    · exact Or.inl ⟨g.1, g.2.1, g.2.2.1, g.2.2.2.1, hz _ (ar_lt ((hl j hj).2 (by have := g.2.1; omega))) g.2.2.2.2⟩
    · exact Or.inr g
  · rcases (show t = 0 ∨ t = 1 ∨ t = 2 by omega) with g | g | g <;> subst g
    · exact va_at.lt (hr r hr4).1.1
    · exact ar_lt (hr r hr4).1.2.1
    · exact ar_lt (hr r hr4).1.2.2
