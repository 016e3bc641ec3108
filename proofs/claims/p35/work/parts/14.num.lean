theorem fb_rng (x : Int32) : -2147483648 ≤ x.toInt ∧ x.toInt < 2147483648 := by
  have h1 := Int32.le_toInt x
  have h2 := Int32.toInt_lt x
  omega
theorem fb_bmod {z : Int} (h1 : -2147483648 ≤ z) (h2 : z < 2147483648) : z.bmod (2 ^ 32) = z := by
  rw [Int.bmod_eq_of_le (by omega) (by omega)]
theorem fb_addI {x y : Int32} (h1 : -2147483648 ≤ x.toInt + y.toInt) (h2 : x.toInt + y.toInt < 2147483648) : (x + y).toInt = x.toInt + y.toInt := by
  rw [Int32.toInt_add, fb_bmod h1 h2]
theorem fb_subI {x y : Int32} (h1 : -2147483648 ≤ x.toInt - y.toInt) (h2 : x.toInt - y.toInt < 2147483648) : (x - y).toInt = x.toInt - y.toInt := by
  rw [Int32.toInt_sub, fb_bmod h1 h2]
theorem fb_mulI {x y : Int32} (h1 : -2147483648 ≤ x.toInt * y.toInt) (h2 : x.toInt * y.toInt < 2147483648) : (x * y).toInt = x.toInt * y.toInt := by
  rw [Int32.toInt_mul, fb_bmod h1 h2]
theorem fb_negI {x : Int32} (h : x.toInt ≠ -2147483648) : (-x).toInt = -x.toInt := by
  have := fb_rng x
  rw [Int32.toInt_neg, fb_bmod (by omega) (by omega)]
theorem fb_ofI {z : Int} (h1 : -2147483648 ≤ z) (h2 : z < 2147483648) : (Int32.ofInt z).toInt = z := by
  rw [Int32.toInt_ofInt, fb_bmod h1 h2]
theorem fb_asI (x : Int32) : Int32.ofInt x.toInt = x := Int32.ofInt_toInt x
theorem fb_rngL (x : Int64) : -9223372036854775808 ≤ x.toInt ∧ x.toInt < 9223372036854775808 := by
  have h1 := Int64.le_toInt x
  have h2 := Int64.toInt_lt x
  omega
theorem fb_bmodL {z : Int} (h1 : -9223372036854775808 ≤ z) (h2 : z < 9223372036854775808) : z.bmod (2 ^ 64) = z := by
  rw [Int.bmod_eq_of_le (by omega) (by omega)]
theorem fb_addL {x y : Int64} (h1 : -9223372036854775808 ≤ x.toInt + y.toInt) (h2 : x.toInt + y.toInt < 9223372036854775808) : (x + y).toInt = x.toInt + y.toInt := by
  rw [Int64.toInt_add, fb_bmodL h1 h2]
theorem fb_subL {x y : Int64} (h1 : -9223372036854775808 ≤ x.toInt - y.toInt) (h2 : x.toInt - y.toInt < 9223372036854775808) : (x - y).toInt = x.toInt - y.toInt := by
  rw [Int64.toInt_sub, fb_bmodL h1 h2]
theorem fb_mulL {x y : Int64} (h1 : -9223372036854775808 ≤ x.toInt * y.toInt) (h2 : x.toInt * y.toInt < 9223372036854775808) : (x * y).toInt = x.toInt * y.toInt := by
  rw [Int64.toInt_mul, fb_bmodL h1 h2]
/-! ===== cuts of what is narrow already ===== -/
/-! quotients rounded down, remainders from 0 on -/
def qd (n d : Int32) : Int32 := if n - n / d * d < 0 then n / d - 1 else n / d
def rmd (n d : Int32) : Int32 := if n - n / d * d < 0 then n - n / d * d + d else n - n / d * d
theorem i_lt {a b : Int32} : a < b ↔ a.toInt < b.toInt := Int32.lt_iff_toInt_lt
theorem i_le {a b : Int32} : a ≤ b ↔ a.toInt ≤ b.toInt := Int32.le_iff_toInt_le
theorem i_eq {a b : Int32} : a = b ↔ a.toInt = b.toInt := Int32.toInt_inj.symm
theorem i_0 : (0 : Int32).toInt = 0 := rfl
theorem td_pos {n d : Int} (hn : 0 ≤ n) (hd : 0 < d) : 0 ≤ n.tdiv d ∧ 0 ≤ n.tmod d ∧ n.tmod d < d ∧ n.tdiv d * d + n.tmod d = n ∧ n.tdiv d ≤ n := by
  have h1 := Int.tdiv_nonneg hn (Int.le_of_lt hd)
  have h2 := Int.tmod_nonneg d hn
  have h3 := Int.tmod_lt_of_pos n hd
  have h4 := Int.tdiv_mul_add_tmod n d
  refine ⟨h1, h2, h3, h4, ?_⟩
  have h5 : n.tdiv d * 1 ≤ n.tdiv d * d := Int.mul_le_mul_of_nonneg_left (by omega) h1
  omega
theorem td_neg {n d : Int} (hn : n < 0) (hd : 0 < d) : n.tdiv d ≤ 0 ∧ n.tmod d ≤ 0 ∧ -d < n.tmod d ∧ n.tdiv d * d + n.tmod d = n ∧ n ≤ n.tdiv d := by
  obtain ⟨h1, h2, h3, h4, h5⟩ := td_pos (n := -n) (d := d) (by omega) hd
  rw [Int.neg_tdiv] at h1 h5
  rw [Int.neg_tmod] at h2 h3
  have h6 := Int.tdiv_mul_add_tmod n d
  exact ⟨by omega, by omega, by omega, h6, by omega⟩
theorem td_i {n d : Int32} (hd : 0 < d) : (n / d).toInt = n.toInt.tdiv d.toInt := by
  have h0 : (0 : Int) < d.toInt := by have := i_lt.mp hd; rwa [i_0] at this
  have hr := fb_rng n
  rw [Int32.toInt_div]
  rcases Int.lt_or_le n.toInt 0 with h | h
  · obtain ⟨h1, -, -, -, h5⟩ := td_neg h h0
    exact fb_bmod (by omega) (by omega)
  · obtain ⟨h1, -, -, -, h5⟩ := td_pos h h0
    exact fb_bmod (by omega) (by omega)
theorem tr_i {n d : Int32} (hd : 0 < d) : (n / d * d).toInt = n.toInt.tdiv d.toInt * d.toInt ∧ (n - n / d * d).toInt = n.toInt.tmod d.toInt := by
  have h0 : (0 : Int) < d.toInt := by have := i_lt.mp hd; rwa [i_0] at this
  have hr := fb_rng n
  have hrd := fb_rng d
  have e := td_i (n := n) hd
  have key : (n / d * d).toInt = n.toInt.tdiv d.toInt * d.toInt := by
    rcases Int.lt_or_le n.toInt 0 with h | h
    · obtain ⟨h1, h2, h3, h4, h5⟩ := td_neg h h0
      rw [fb_mulI (by rw [e]; omega) (by rw [e]; omega), e]
    · obtain ⟨h1, h2, h3, h4, h5⟩ := td_pos h h0
      rw [fb_mulI (by rw [e]; omega) (by rw [e]; omega), e]
  refine ⟨key, ?_⟩
  rcases Int.lt_or_le n.toInt 0 with h | h
  · obtain ⟨h1, h2, h3, h4, h5⟩ := td_neg h h0
    rw [fb_subI (by rw [key]; omega) (by rw [key]; omega), key]; omega
  · obtain ⟨h1, h2, h3, h4, h5⟩ := td_pos h h0
    rw [fb_subI (by rw [key]; omega) (by rw [key]; omega), key]; omega
theorem i_msb (z : Int32) : z < 0 ↔ z.toBitVec.msb = true := by
  rw [i_lt, i_0, BitVec.msb_eq_toInt]
  show z.toBitVec.toInt < 0 ↔ _
  simp
theorem xor_neg (x y : Int32) : x ^^^ y < 0 ↔ ¬ (x < 0 ↔ y < 0) := by
  rw [i_msb, i_msb, i_msb, Int32.toBitVec_xor, BitVec.msb_xor]
  cases x.toBitVec.msb <;> cases y.toBitVec.msb <;> simp
theorem xor_pos {x y : Int32} (hy : 0 < y) : 0 ≤ x ^^^ y ↔ 0 ≤ x := by
  have h1 : ¬ y < 0 := fun h => by rw [i_lt, i_0] at *; omega
  have h2 := xor_neg x y
  constructor
  · intro h
    refine Int32.not_lt.mp fun hx => ?_
    exact absurd (h2.mpr (fun g => h1 (g.mp hx))) (Int32.not_lt.mpr h)
  · intro h
    refine Int32.not_lt.mp fun hx => ?_
    exact h2.mp hx ⟨fun g => absurd g (Int32.not_lt.mpr h), fun g => absurd g h1⟩
theorem r_sgn {n d : Int32} (hd : 0 < d) : (0 ≤ n → ¬ n - n / d * d < 0) ∧ (¬ 0 ≤ n → n - n / d * d ≤ 0) := by
  have h0 : (0 : Int) < d.toInt := by have := i_lt.mp hd; rwa [i_0] at this
  have e := (tr_i (n := n) hd).2
  refine ⟨fun h => ?_, fun h => ?_⟩
  · rw [i_le, i_0] at h
    obtain ⟨h1, h2, -⟩ := td_pos h h0
    rw [i_lt, i_0, e]; omega
  · rw [i_le, i_0] at h
    obtain ⟨h1, h2, -⟩ := td_neg (n := n.toInt) (by omega) h0
    rw [i_le, i_0, e]; omega
theorem q_eq {n d : Int32} (hd : 0 < d) : n / d * d = n ↔ n - n / d * d = 0 := by
  constructor
  · intro h; rw [h]; simp
  · intro h
    have h1 : n - n / d * d + n / d * d = 0 + n / d * d := by rw [h]
    rw [Int32.sub_add_cancel, Int32.zero_add] at h1
    exact h1.symm
theorem qd_a {n d : Int32} (hd : 0 < d) (h : 0 ≤ n ^^^ d) : n / d = qd n d := by
  unfold qd; rw [if_neg ((r_sgn hd).1 ((xor_pos hd).mp h))]
theorem qd_b {n d : Int32} (hd : 0 < d) (h2 : n / d * d = n) : n / d = qd n d := by
  unfold qd; rw [if_neg (by rw [(q_eq hd).mp h2]; decide)]
theorem qd_c {n d : Int32} (hd : 0 < d) (h : ¬ 0 ≤ n ^^^ d) (h2 : ¬ n / d * d = n) : n / d - 1 = qd n d := by
  have h3 := (r_sgn hd).2 (fun g => h ((xor_pos hd).mpr g))
  have h4 : ¬ n - n / d * d = 0 := fun g => h2 ((q_eq hd).mpr g)
  unfold qd; rw [if_pos (by rw [i_lt, i_0]; rw [i_le, i_0] at h3; rw [i_eq, i_0] at h4; omega)]
theorem rmd_a {n d : Int32} (hd : 0 < d) (h : 0 ≤ n ^^^ d) : n - n / d * d = rmd n d := by
  unfold rmd; rw [if_neg ((r_sgn hd).1 ((xor_pos hd).mp h))]
theorem rmd_b {n d : Int32} (h2 : n - n / d * d = 0) : n - n / d * d = rmd n d := by
  unfold rmd; rw [if_neg (by rw [h2]; decide)]
theorem rmd_c {n d : Int32} (hd : 0 < d) (h : ¬ 0 ≤ n ^^^ d) (h4 : ¬ n - n / d * d = 0) : n - n / d * d + d = rmd n d := by
  have h3 := (r_sgn hd).2 (fun g => h ((xor_pos hd).mpr g))
  unfold rmd; rw [if_pos (by rw [i_lt, i_0]; rw [i_le, i_0] at h3; rw [i_eq, i_0] at h4; omega)]
theorem rmd_rng {n d : Int32} (hd : 0 < d) : 0 ≤ rmd n d ∧ rmd n d < d := by
  have h0 : (0 : Int) < d.toInt := by have := i_lt.mp hd; rwa [i_0] at this
  have hrd := fb_rng d
  have e := (tr_i (n := n) hd).2
  unfold rmd
  rcases Int.lt_or_le n.toInt 0 with h | h
  · obtain ⟨h1, h2, h3, -⟩ := td_neg h h0
    split
    · rename_i g
      rw [i_lt, i_0, e] at g
      rw [i_le, i_lt, fb_addI (by rw [e]; omega) (by rw [e]; omega), e, i_0]; omega
    · rename_i g
      rw [i_lt, i_0, e] at g
      rw [i_le, i_lt, e, i_0]; omega
  · obtain ⟨h1, h2, h3, -⟩ := td_pos h h0
    have g : ¬ n - n / d * d < 0 := by rw [i_lt, i_0, e]; omega
    rw [if_neg g, i_le, i_lt, e, i_0]; omega
/-- of what is not below 0, the quotient is the machine's -/
theorem qd_pos {n d : Int32} (hd : 0 < d) (hn : 0 ≤ n) : qd n d = n / d := by
  unfold qd; rw [if_neg ((r_sgn hd).1 hn)]
theorem rmd_pos {n d : Int32} (hd : 0 < d) (hn : 0 ≤ n) : rmd n d = n - n / d * d := by
  unfold rmd; rw [if_neg ((r_sgn hd).1 hn)]
def iabs (x : Int32) : Int32 := if x < 0 then -x else x
theorem iabs_sub (a b : Int32) : iabs (a - b) = iabs (b - a) := by
  have e : b - a = -(a - b) := by rw [Int32.neg_sub]
  rw [e]
  generalize a - b = x
  unfold iabs
  have hr := fb_rng x
  by_cases h : x = -2147483648
  · subst h; decide
  · have hx : x.toInt ≠ -2147483648 := fun g => h (Int32.toInt_inj.mp g)
    have hn : (-x).toInt = -x.toInt := fb_negI hx
    by_cases h1 : x < 0
    · rw [if_pos h1, if_neg (by rw [i_lt, i_0, hn]; rw [i_lt, i_0] at h1; omega)]
    · by_cases h2 : x = 0
      · subst h2; decide
      · rw [if_neg h1, if_pos (by rw [i_lt, i_0, hn]; rw [i_lt, i_0] at h1; rw [i_eq, i_0] at h2; omega), Int32.neg_neg]
