/-- a Row: its keys and values, n of them, in arrays of len places -/
def hk_row (E : hk_E) (r ka va len n : Nat) (k v : Nat → Int32) (H : Heap) : Prop := hk_O E r 5 [.ref ka, .ref va, .int (nI n)] H ∧ hk_I E 0 ka len k H ∧ hk_I E 0 va len v H
def row_get (n : Nat) (f : Nat → Int32) (i : Int32) : Int32 := if 0 ≤ i ∧ i < nI n then f i.toNatClampNeg else 0
theorem row_get_in {n : Nat} {f : Nat → Int32} {i : Nat} (hi : i < n) (hn : n < 2 ^ 31) : row_get n f (nI i) = f i := by
  unfold row_get
  rw [if_pos ⟨nI_pos' (by omega), nI_lt hi hn⟩, nI_clamp (by omega)]
theorem in_of {i : Int32} {n len : Nat} (h1 : ¬ i < 0) (h2 : ¬ nI n ≤ i) (hn : n ≤ len) (hl : len < 2 ^ 31) : vp_in i len := by
  rcases pk_ix i (n := n) (by omega) with h | h | ⟨j, h, rfl⟩
  · exact absurd h h1
  · exact absurd h h2
  · exact vp_in_nI (by omega) hl
theorem row_get_t {n : Nat} {f : Nat → Int32} {i : Int32} (h1 : ¬ i < 0) (h2 : ¬ nI n ≤ i) : f i.toNatClampNeg = row_get n f i := by
  unfold row_get
  rw [if_pos ⟨Int32.not_lt.mp h1, Int32.not_le.mp h2⟩]
theorem row_get_f1 {n : Nat} {f : Nat → Int32} {i : Int32} (h1 : i < 0) : (0 : Int32) = row_get n f i := by
  unfold row_get
  rw [if_neg (fun h => absurd h1 (Int32.not_lt.mpr h.1))]
theorem row_get_f2 {n : Nat} {f : Nat → Int32} {i : Int32} (h2 : nI n ≤ i) : (0 : Int32) = row_get n f i := by
  unfold row_get
  rw [if_neg (fun h => absurd h2 (Int32.not_le.mpr h.2))]

abbrev rmX5_size : Room := { frames := 0, cells := 0, slots := 0, locals := 0 }
theorem iX5_size_X5 : ∀ w ∈ wsX50, w ∈ wsX5_size := by decide +kernel
set_option maxHeartbeats 4000000 in
set_option maxRecDepth 100000 in
theorem c_X5_size (E : hk_E) (l : Launch) (H0 : Heap) {r ka va len n : Nat} {k v : Nat → Int32} (hrow : hk_row E r ka va len n k v H0) : hk_M E l yX5_size wsX5_size rmX5_size (fun _ => False) [.ref r] H0 (fun x H1 => x = some (.int (nI n)) ∧ H0 = H1) := by
  refine hk_M.ofW (cc := cX5_size) (maxL := 1) (ret := (some .int)) (by decide +kernel) rfl (Nat.le_of_ble_eq_true rfl) ?_
  intro p e s m args below meth c ls Q hQ X hr hlk hnm K hs9 hS hl
  obtain ⟨hx, hb, hml, hown, hts⟩ := id X
  have hAE : ∀ q, (fun _ => False) q → hk_A E q := fun _ h => h.elim
  have hl : lv_has ls 1 [(0, .ref r)] := hl
  refine lv_aload_n hx hb dX5_size_0 rfl (lv_at hl 0 rfl) ?_
  refine hk_get (ref := "LightcurveHouse$Row") (v := .int (nI n)) X K hrow.1 rfl iX5_size_X5 2 (by decide) (by decide +kernel) (fun _ h => h) rfl dX5_size_1 ?_
  exact hk_iret X hr hlk hQ hS (Nat.le_of_ble_eq_true rfl) (Nat.le_of_ble_eq_true rfl) dX5_size_4 (⟨rfl, rfl⟩)

abbrev rmX5_key : Room := { frames := 0, cells := 0, slots := 0, locals := 0 }
theorem iX5_key_X5 : ∀ w ∈ wsX50, w ∈ wsX5_key := by decide +kernel
set_option maxHeartbeats 4000000 in
set_option maxRecDepth 100000 in
theorem c_X5_key (E : hk_E) (l : Launch) (H0 : Heap) {r ka va len n : Nat} {k v : Nat → Int32} (hrow : hk_row E r ka va len n k v H0) (hn : n ≤ len) (hlen : len < 2 ^ 31) (i : Int32) : hk_M E l yX5_key wsX5_key rmX5_key (fun _ => False) [.ref r, .int i] H0 (fun x H1 => x = some (.int (row_get n k i)) ∧ H0 = H1) := by
  refine hk_M.ofW (cc := cX5_key) (maxL := 2) (ret := (some .int)) (by decide +kernel) rfl (Nat.le_of_ble_eq_true rfl) ?_
  intro p e s m args below meth c ls Q hQ X hr hlk hnm K hs9 hS hl
  obtain ⟨hx, hb, hml, hown, hts⟩ := id X
  have hAE : ∀ q, (fun _ => False) q → hk_A E q := fun _ h => h.elim
  have hl : lv_has ls 2 [(0, .ref r), (1, .int i)] := hl
  refine lv_iload_n hx hb dX5_key_0 rfl (lv_at hl 1 rfl) ?_
  refine lv_if_lt (tgt := 21) hx hb dX5_key_1 (by decide) (fun c_1 => ?_) (fun c_1 => ?_)
  · refine lv_iconst (v := 0) hx hb dX5_key_21 (by decide) ?_
    exact hk_iret X hr hlk hQ hS (Nat.le_of_ble_eq_true rfl) (Nat.le_of_ble_eq_true rfl) dX5_key_22 (⟨by rw [← row_get_f1 c_1], rfl⟩)
  · refine lv_iload_n hx hb dX5_key_4 rfl (lv_at hl 1 rfl) ?_
    refine lv_aload_n hx hb dX5_key_5 rfl (lv_at hl 0 rfl) ?_
    refine hk_get (ref := "LightcurveHouse$Row") (v := .int (nI n)) X K hrow.1 rfl iX5_key_X5 2 (by decide) (by decide +kernel) (fun _ h => h) rfl dX5_key_6 ?_
    refine lv_icmp_ge (tgt := 21) hx hb dX5_key_9 (by decide) (fun c_9 => ?_) (fun c_9 => ?_)
    · 
      refine lv_iconst (v := 0) hx hb dX5_key_21 (by decide) ?_
      exact hk_iret X hr hlk hQ hS (Nat.le_of_ble_eq_true rfl) (Nat.le_of_ble_eq_true rfl) dX5_key_22 (⟨by rw [← row_get_f2 c_9], rfl⟩)
    · refine lv_aload_n hx hb dX5_key_12 rfl (lv_at hl 0 rfl) ?_
      refine hk_get (ref := "LightcurveHouse$Row") (v := .ref ka) X K hrow.1 rfl iX5_key_X5 0 (by decide) (by decide +kernel) (fun _ h => h) rfl dX5_key_13 ?_
      refine lv_iload_n hx hb dX5_key_16 rfl (lv_at hl 1 rfl) ?_
      refine hk_ild X K hrow.2.1 (in_of c_1 c_9 hn hlen) dX5_key_17 ?_
      refine lv_goto (tgt := 22) hx hb dX5_key_18 (by decide) ?_
      exact hk_iret X hr hlk hQ hS (Nat.le_of_ble_eq_true rfl) (Nat.le_of_ble_eq_true rfl) dX5_key_22 (⟨by rw [row_get_t (f := k) c_1 c_9], rfl⟩)

abbrev rmX5_value : Room := { frames := 0, cells := 0, slots := 0, locals := 0 }
theorem iX5_value_X5 : ∀ w ∈ wsX50, w ∈ wsX5_value := by decide +kernel
set_option maxHeartbeats 4000000 in
set_option maxRecDepth 100000 in
theorem c_X5_value (E : hk_E) (l : Launch) (H0 : Heap) {r ka va len n : Nat} {k v : Nat → Int32} (hrow : hk_row E r ka va len n k v H0) (hn : n ≤ len) (hlen : len < 2 ^ 31) (i : Int32) : hk_M E l yX5_value wsX5_value rmX5_value (fun _ => False) [.ref r, .int i] H0 (fun x H1 => x = some (.int (row_get n v i)) ∧ H0 = H1) := by
  refine hk_M.ofW (cc := cX5_value) (maxL := 2) (ret := (some .int)) (by decide +kernel) rfl (Nat.le_of_ble_eq_true rfl) ?_
  intro p e s m args below meth c ls Q hQ X hr hlk hnm K hs9 hS hl
  obtain ⟨hx, hb, hml, hown, hts⟩ := id X
  have hAE : ∀ q, (fun _ => False) q → hk_A E q := fun _ h => h.elim
  have hl : lv_has ls 2 [(0, .ref r), (1, .int i)] := hl
  refine lv_iload_n hx hb dX5_value_0 rfl (lv_at hl 1 rfl) ?_
  refine lv_if_lt (tgt := 21) hx hb dX5_value_1 (by decide) (fun c_1 => ?_) (fun c_1 => ?_)
  · refine lv_iconst (v := 0) hx hb dX5_value_21 (by decide) ?_
    exact hk_iret X hr hlk hQ hS (Nat.le_of_ble_eq_true rfl) (Nat.le_of_ble_eq_true rfl) dX5_value_22 (⟨by rw [← row_get_f1 c_1], rfl⟩)
  · refine lv_iload_n hx hb dX5_value_4 rfl (lv_at hl 1 rfl) ?_
    refine lv_aload_n hx hb dX5_value_5 rfl (lv_at hl 0 rfl) ?_
    refine hk_get (ref := "LightcurveHouse$Row") (v := .int (nI n)) X K hrow.1 rfl iX5_value_X5 2 (by decide) (by decide +kernel) (fun _ h => h) rfl dX5_value_6 ?_
    refine lv_icmp_ge (tgt := 21) hx hb dX5_value_9 (by decide) (fun c_9 => ?_) (fun c_9 => ?_)
    · 
      refine lv_iconst (v := 0) hx hb dX5_value_21 (by decide) ?_
      exact hk_iret X hr hlk hQ hS (Nat.le_of_ble_eq_true rfl) (Nat.le_of_ble_eq_true rfl) dX5_value_22 (⟨by rw [← row_get_f2 c_9], rfl⟩)
    · refine lv_aload_n hx hb dX5_value_12 rfl (lv_at hl 0 rfl) ?_
      refine hk_get (ref := "LightcurveHouse$Row") (v := .ref va) X K hrow.1 rfl iX5_value_X5 1 (by decide) (by decide +kernel) (fun _ h => h) rfl dX5_value_13 ?_
      refine lv_iload_n hx hb dX5_value_16 rfl (lv_at hl 1 rfl) ?_
      refine hk_ild X K hrow.2.2 (in_of c_1 c_9 hn hlen) dX5_value_17 ?_
      refine lv_goto (tgt := 22) hx hb dX5_value_18 (by decide) ?_
      exact hk_iret X hr hlk hQ hS (Nat.le_of_ble_eq_true rfl) (Nat.le_of_ble_eq_true rfl) dX5_value_22 (⟨by rw [row_get_t (f := v) c_1 c_9], rfl⟩)

/-- rows are kept in the order of their keys -/
def row_up (n : Nat) (k : Nat → Int32) : Prop := ∀ i j, i ≤ j → j < n → k i ≤ k j
/-- where what has this key is put -/
def row_at (n : Nat) (k : Nat → Int32) (x : Int32) (p : Nat) : Prop := p ≤ n ∧ (∀ i, i < p → k i ≤ x) ∧ ∀ i, p ≤ i → i < n → ¬ k i ≤ x
theorem nI_half {a b : Nat} (h : a + b < 2 ^ 31) : (nI a + nI b) / 2 = nI ((a + b) / 2) := by
  rw [nI_add, show (2 : Int32) = nI 2 from rfl, pk_div h (by omega) (by omega)]

abbrev rmX5_placeBehind : Room := { frames := 0, cells := 0, slots := 0, locals := 0 }
theorem iX5_placeBehind_X5 : ∀ w ∈ wsX50, w ∈ wsX5_placeBehind := by decide +kernel
set_option maxHeartbeats 4000000 in
set_option maxRecDepth 100000 in
theorem c_X5_placeBehind (E : hk_E) (l : Launch) (H0 : Heap) {r ka va len n : Nat} {k v : Nat → Int32} (hrow : hk_row E r ka va len n k v H0) (hn : n ≤ len) (hlen : len < 2 ^ 30) (hup : row_up n k) (x : Int32) : hk_M E l yX5_placeBehind wsX5_placeBehind rmX5_placeBehind (fun _ => False) [.ref r, .int x] H0 (fun z H1 => (∃ p, z = some (.int (nI p)) ∧ row_at n k x p) ∧ H0 = H1) := by
  refine hk_M.ofW (cc := cX5_placeBehind) (maxL := 6) (ret := (some .int)) (by decide +kernel) rfl (Nat.le_of_ble_eq_true rfl) ?_
  intro p e s m args below meth c ls Q hQ X hr hlk hnm K hs9 hS hl
  obtain ⟨hx, hb, hml, hown, hts⟩ := id X
  have hAE : ∀ q, (fun _ => False) q → hk_A E q := fun _ h => h.elim
  have hl : lv_has ls 6 [(0, .ref r), (1, .int x)] := hl
  refine lv_iconst (v := 0) hx hb dX5_placeBehind_0 (by decide) ?_
  refine lv_istore_n (lv' := [(2, .int 0), (0, .ref r), (1, .int x)]) hx hb dX5_placeBehind_1 rfl hl (by decide) rfl (fun ls hl => ?_)
  refine lv_aload_n hx hb dX5_placeBehind_2 rfl (lv_at hl 1 rfl) ?_
  refine hk_get (ref := "LightcurveHouse$Row") (v := .int (nI n)) X K hrow.1 rfl iX5_placeBehind_X5 2 (by decide) (by decide +kernel) (fun _ h => h) rfl dX5_placeBehind_3 ?_
  refine lv_istore_n (lv' := [(3, .int (nI n)), (2, .int 0), (0, .ref r), (1, .int x)]) hx hb dX5_placeBehind_6 rfl hl (by decide) rfl (fun ls hl => ?_)
  refine lv_iconst (v := 0) hx hb dX5_placeBehind_7 (by decide) ?_
  refine lv_istore (lv' := [(4, .int 0), (3, .int (nI n)), (2, .int 0), (0, .ref r), (1, .int x)]) hx hb dX5_placeBehind_8 hl (by decide) rfl (fun ls hl => ?_)
  have L10 : ∀ (n9 : Nat) (t a b : Nat), n + 1 ≤ t + n9 → (a ≤ b ∧ b ≤ n ∧ (∀ i, i < a → k i ≤ x) ∧ (∀ i, b ≤ i → i < n → ¬ k i ≤ x) ∧ t + b ≤ a + n) → ∀ (ls : Array Slot), lv_has ls 6 [(2, .int (nI a)), (3, .int (nI b)), (0, .ref r), (1, .int x), (4, .int (nI t))] → W p l e rmX5_placeBehind s m args below meth c H0 [] 0 0 Q (F0 m 10 ls []) := by
    intro n9
    induction n9 with
    | zero =>
      intro t a b hm hinv ls hl
      have hi1 := hinv.1
      have hi2 := hinv.2.1
      have hi3 := hinv.2.2.2.2
      exact absurd hm (by omega)
    | succ n9 ih =>
      intro t a b hm hinv ls hl
      have hi1 := hinv.1
      have hi2 := hinv.2.1
      have hi3 := hinv.2.2.2.2
      refine lv_iload hx hb dX5_placeBehind_10 (lv_at hl 4 rfl) ?_
      refine lv_aload_n hx hb dX5_placeBehind_12 rfl (lv_at hl 2 rfl) ?_
      refine hk_get (ref := "LightcurveHouse$Row") (v := .int (nI n)) X K hrow.1 rfl iX5_placeBehind_X5 2 (by decide) (by decide +kernel) (fun _ h => h) rfl dX5_placeBehind_13 ?_
      refine lv_icmp_ge (tgt := 59) hx hb dX5_placeBehind_16 (by decide) (fun c_16 => ?_) (fun c_16 => ?_)
      · have hab : b ≤ a := by
          have := (nI_leI (by omega) (by omega)).mp c_16
          omega
        refine lv_iload_n hx hb dX5_placeBehind_59 rfl (lv_at hl 0 rfl) ?_
        exact hk_iret X hr hlk hQ hS (Nat.le_of_ble_eq_true rfl) (Nat.le_of_ble_eq_true rfl) dX5_placeBehind_60 (⟨⟨a, rfl, by omega, hinv.2.2.1, fun i h1 h2 => hinv.2.2.2.1 i (by omega) h2⟩, rfl⟩)
      · have htn : t < n := Nat.lt_of_not_le (fun h => c_16 (nI_le h (by omega)))
        refine lv_iload_n hx hb dX5_placeBehind_19 rfl (lv_at hl 0 rfl) ?_
        refine lv_iload_n hx hb dX5_placeBehind_20 rfl (lv_at hl 1 rfl) ?_
        refine lv_icmp_ge (tgt := 59) hx hb dX5_placeBehind_21 (by decide) (fun c_21 => ?_) (fun c_21 => ?_)
        · have hab : b ≤ a := (nI_leI (by omega) (by omega)).mp c_21
          refine lv_iload_n hx hb dX5_placeBehind_59 rfl (lv_at hl 0 rfl) ?_
          exact hk_iret X hr hlk hQ hS (Nat.le_of_ble_eq_true rfl) (Nat.le_of_ble_eq_true rfl) dX5_placeBehind_60 (⟨⟨a, rfl, by omega, hinv.2.2.1, fun i h1 h2 => hinv.2.2.2.1 i (by omega) h2⟩, rfl⟩)
        · have hab : a < b := Nat.lt_of_not_le (fun h => c_21 (nI_le h (by omega)))
          refine lv_iload_n hx hb dX5_placeBehind_24 rfl (lv_at hl 0 rfl) ?_
          refine lv_iload_n hx hb dX5_placeBehind_25 rfl (lv_at hl 1 rfl) ?_
          refine lv_iadd hx hb dX5_placeBehind_26 ?_
          refine lv_iconst (v := 2) hx hb dX5_placeBehind_27 (by decide) ?_
          refine lv_idiv hx hb dX5_placeBehind_28 (by decide) ?_
          refine lv_topi (fun md emd => ?_)
          refine lv_istore (lv' := [(5, .int md), (2, .int (nI a)), (3, .int (nI b)), (0, .ref r), (1, .int x), (4, .int (nI t))]) hx hb dX5_placeBehind_29 hl (by decide) rfl (fun ls hl => ?_)
          rw [nI_half (by omega)] at emd
          subst emd
          refine lv_aload_n hx hb dX5_placeBehind_31 rfl (lv_at hl 3 rfl) ?_
          refine hk_get (ref := "LightcurveHouse$Row") (v := .ref ka) X K hrow.1 rfl iX5_placeBehind_X5 0 (by decide) (by decide +kernel) (fun _ h => h) rfl dX5_placeBehind_32 ?_
          refine lv_iload hx hb dX5_placeBehind_35 (lv_at hl 0 rfl) ?_
          refine hk_ild X K hrow.2.1 (vp_in_nI (by omega) (by omega)) dX5_placeBehind_37 ?_
          rw [show k (nI ((a + b) / 2)).toNatClampNeg = k ((a + b) / 2) from by rw [nI_clamp (by omega)]]
          refine lv_iload_n hx hb dX5_placeBehind_38 rfl (lv_at hl 4 rfl) ?_
          refine lv_icmp_gt (tgt := 50) hx hb dX5_placeBehind_39 (by decide) (fun c_39 => ?_) (fun c_39 => ?_)
          · refine lv_iload hx hb dX5_placeBehind_50 (lv_at hl 0 rfl) ?_
            refine lv_istore_n (lv' := [(3, .int (nI ((a + b) / 2))), (5, .int (nI ((a + b) / 2))), (2, .int (nI a)), (0, .ref r), (1, .int x), (4, .int (nI t))]) hx hb dX5_placeBehind_52 rfl hl (by decide) rfl (fun ls hl => ?_)
            obtain ⟨q53, eq53⟩ : ∃ y : Int32, y = (nI t) + 1 := ⟨_, rfl⟩
            refine lv_iinc (v := q53) (lv' := [(4, .int q53), (3, .int (nI ((a + b) / 2))), (5, .int (nI ((a + b) / 2))), (2, .int (nI a)), (0, .ref r), (1, .int x)]) hx hb dX5_placeBehind_53 hl (k := 5) rfl (by rw [eq53]; rfl) (by decide) rfl (fun ls hl => ?_)
            rw [nI_1] at eq53
            subst eq53
            refine lv_goto (tgt := 10) hx hb dX5_placeBehind_56 (by decide) ?_
            exact ih (t + 1) a ((a + b) / 2) (by omega) ⟨by omega, by omega, hinv.2.2.1, fun i h1 h2 h3 => absurd c_39 (Int32.not_lt.mpr (Int32.le_trans (hup ((a + b) / 2) i h1 h2) h3)), by omega⟩ _ (lv_sub hl [3, 1, 4, 5, 0] rfl)
          · refine lv_iload hx hb dX5_placeBehind_42 (lv_at hl 0 rfl) ?_
            refine lv_iconst (v := 1) hx hb dX5_placeBehind_44 (by decide) ?_
            refine lv_iadd hx hb dX5_placeBehind_45 ?_
            refine lv_topi (fun lo elo => ?_)
            refine lv_istore_n (lv' := [(2, .int lo), (5, .int (nI ((a + b) / 2))), (3, .int (nI b)), (0, .ref r), (1, .int x), (4, .int (nI t))]) hx hb dX5_placeBehind_46 rfl hl (by decide) rfl (fun ls hl => ?_)
            rw [nI_1] at elo
            subst elo
            refine lv_goto (tgt := 53) hx hb dX5_placeBehind_47 (by decide) ?_
            obtain ⟨q53, eq53⟩ : ∃ y : Int32, y = (nI t) + 1 := ⟨_, rfl⟩
            refine lv_iinc (v := q53) (lv' := [(4, .int q53), (2, .int (nI ((a + b) / 2 + 1))), (5, .int (nI ((a + b) / 2))), (3, .int (nI b)), (0, .ref r), (1, .int x)]) hx hb dX5_placeBehind_53 hl (k := 5) rfl (by rw [eq53]; rfl) (by decide) rfl (fun ls hl => ?_)
            rw [nI_1] at eq53
            subst eq53
            refine lv_goto (tgt := 10) hx hb dX5_placeBehind_56 (by decide) ?_
            exact ih (t + 1) ((a + b) / 2 + 1) b (by omega) ⟨by omega, hinv.2.1, fun i hi => Int32.le_trans (hup i ((a + b) / 2) (by omega) (by omega)) (Int32.not_lt.mp c_39), hinv.2.2.2.1, by omega⟩ _ (lv_sub hl [1, 3, 4, 5, 0] rfl)
  exact L10 (n + 1) 0 0 n (by omega) ⟨Nat.zero_le _, Nat.le_refl _, fun i hi => absurd hi (Nat.not_lt_zero _), fun i h1 h2 => absurd h2 (by omega), by omega⟩ _ (lv_sub hl [2, 1, 3, 4, 0] rfl)

/-- f with x put in at p -/
def ins {α : Type} (f : Nat → α) (p : Nat) (x : α) : Nat → α := fun i => if i < p then f i else if i = p then x else f (i - 1)
theorem ins_eq {f : Nat → Int32} {p n i : Nat} {x : Int32} (hp : p ≤ n) (hi : i ≤ n) : upd (va_cpy f f p (p + 1) (n - p)) p x i = ins f p x i := by
  unfold upd va_cpy ins
  by_cases h1 : i = p
  · subst h1; simp
  · by_cases h2 : i < p
    · rw [if_neg h1, if_neg (by omega), if_pos h2]
    · rw [if_neg h1, if_pos (by omega), if_neg h2, if_neg h1]
      congr 1
      omega

abbrev rmX5_clear : Room := { frames := 0, cells := 0, slots := 0, locals := 0 }
theorem iX5_clear_X5 : ∀ w ∈ wsX50, w ∈ wsX5_clear := by decide +kernel
set_option maxHeartbeats 4000000 in
set_option maxRecDepth 100000 in
theorem c_X5_clear (E : hk_E) (l : Launch) (H0 : Heap) {r ka va len n : Nat} {k v : Nat → Int32} (hrow : hk_row E r ka va len n k v H0) (hAr : hk_A E r) (hrk : r ≠ ka) (hrv : r ≠ va) : hk_M E l yX5_clear wsX5_clear rmX5_clear (fun q => q = r) [.ref r] H0 (fun z H1 => z = none ∧ hk_row E r ka va len 0 k v H1 ∧ H1.size = H0.size) := by
  refine hk_M.ofW (cc := cX5_clear) (maxL := 1) (ret := none) (by decide +kernel) rfl (Nat.le_of_ble_eq_true rfl) ?_
  intro p e s m args below meth c ls Q hQ X hr hlk hnm K hs9 hS hl
  obtain ⟨hx, hb, hml, hown, hts⟩ := id X
  have hAE : ∀ q, (fun q => q = r) q → hk_A E q := fun q h => by subst h; exact hAr
  have hl : lv_has ls 1 [(0, .ref r)] := hl
  refine lv_aload_n hx hb dX5_clear_0 rfl (lv_at hl 0 rfl) ?_
  refine lv_iconst (v := 0) hx hb dX5_clear_1 (by decide) ?_
  refine hk_put (ref := "LightcurveHouse$Row") X K hrow.1 rfl iX5_clear_X5 tyX5 tyX5_ok nmX5 hS rfl 2 (by decide) (by decide +kernel) (fun _ h => h) (by decide +kernel) rfl rfl (Nat.le_of_ble_eq_true rfl) dX5_clear_2 (fun H1 locsH1 hOH1 hzH1 hqH1 hS => ?_)
  have hOH1 : hk_O E r 5 [.ref ka, .ref va, .int 0] H1 := hOH1
  have fH1_ka := (hqH1 _ hrk.symm).trans hrow.2.1
  have fH1_va := (hqH1 _ hrv.symm).trans hrow.2.2
  exact hk_vret X hr hlk hQ hS (Nat.le_of_ble_eq_true rfl) (Nat.le_of_ble_eq_true rfl) dX5_clear_5 (⟨rfl, ⟨by rw [nI_0]; exact hOH1, fH1_ka, fH1_va⟩, by omega⟩)

theorem hd_X5_placeBehind : yX5_placeBehind.cls ≠ "java/lang/invoke/MethodHandle" ∧ yX5_placeBehind.cls ≠ "java/lang/invoke/VarHandle" ∧ (parseMethodDescriptor yX5_placeBehind.desc).map (fun d => d.parameters.length) = some 1 := ⟨by decide, by decide, by decide +kernel⟩
abbrev rmX5_add : Room := { frames := 1, cells := 0, slots := 0, locals := 40 }
theorem iX5_add_X5 : ∀ w ∈ wsX50, w ∈ wsX5_add := by decide +kernel
set_option maxHeartbeats 4000000 in
set_option maxRecDepth 100000 in
theorem c_X5_add (E : hk_E) (l : Launch) (H0 : Heap) {r ka va len n : Nat} {k v : Nat → Int32} (hrow : hk_row E r ka va len n k v H0) (hn : n < len) (hlen : len < 2 ^ 30) (hup : row_up n k) (hAr : hk_A E r) (hAk : hk_A E ka) (hAv : hk_A E va) (hrk : r ≠ ka) (hrv : r ≠ va) (hkv : ka ≠ va) (key x : Int32) : hk_M E l yX5_add wsX5_add rmX5_add (fun q => q = r ∨ q = ka ∨ q = va) [.ref r, .int key, .int x] H0 (fun z H1 => z = none ∧ (∃ p k' v', row_at n k key p ∧ hk_row E r ka va len (n + 1) k' v' H1 ∧ ∀ i, i ≤ n → k' i = ins k p key i ∧ v' i = ins v p x i) ∧ H1.size = H0.size) := by
  refine hk_M.ofW (cc := cX5_add) (maxL := 4) (ret := none) (by decide +kernel) rfl (Nat.le_of_ble_eq_true rfl) ?_
  intro p e s m args below meth c ls Q hQ X hr hlk hnm K hs9 hS hl
  obtain ⟨hx, hb, hml, hown, hts⟩ := id X
  have hAE : ∀ q, (fun q => q = r ∨ q = ka ∨ q = va) q → hk_A E q := fun q h => by rcases h with h | h | h <;> subst h <;> assumption
  have hl : lv_has ls 4 [(0, .ref r), (1, .int key), (2, .int x)] := hl
  refine lv_aload_n hx hb dX5_add_0 rfl (lv_at hl 0 rfl) ?_
  refine hk_get (ref := "LightcurveHouse$Row") (v := .int (nI n)) X K hrow.1 rfl iX5_add_X5 2 (by decide) (by decide +kernel) (fun _ h => h) rfl dX5_add_1 ?_
  refine lv_aload_n hx hb dX5_add_4 rfl (lv_at hl 0 rfl) ?_
  refine hk_get (ref := "LightcurveHouse$Row") (v := .ref ka) X K hrow.1 rfl iX5_add_X5 0 (by decide) (by decide +kernel) (fun _ h => h) rfl dX5_add_5 ?_
  refine hk_ilen X K hrow.2.1 dX5_add_8 ?_
  refine lv_icmp_lt (tgt := 13) hx hb dX5_add_9 (by decide) (fun c_9 => ?_) (fun c_9 => ?_)
  · refine lv_aload_n hx hb dX5_add_13 rfl (lv_at hl 0 rfl) ?_
    refine lv_iload_n hx hb dX5_add_14 rfl (lv_at hl 1 rfl) ?_
    refine hk_callV 1 (As := [.int key]) (rest := []) X K hAE hS hl.1 hrow.1 rfl (c_X5_placeBehind E l H0 hrow (by omega) hlen hup key) (fun _ h => h.elim) gX5_add_X5_placeBehind rfl ⟨rfl, hd_X5_placeBehind⟩ rfl ⟨⟨(Nat.le_of_ble_eq_true rfl), (Nat.le_of_ble_eq_true rfl)⟩, (Nat.le_of_ble_eq_true rfl), (Nat.le_of_ble_eq_true rfl)⟩ rfl (Nat.le_of_ble_eq_true rfl) dX5_add_15 (fun v9 H1 locsH1 hp hS hzH1 hkH1 => ?_)
    obtain ⟨hv, hh⟩ := hp
    obtain ⟨p, hv, hpat⟩ := hv
    have hp1 := hpat.1
    subst hv; subst hh
    refine lv_istore_n (lv' := [(3, .int (nI p)), (0, .ref r), (1, .int key), (2, .int x)]) hx hb dX5_add_18 rfl hl (by decide) rfl (fun ls hl => ?_)
    refine lv_aload_n hx hb dX5_add_19 rfl (lv_at hl 1 rfl) ?_
    refine hk_get (ref := "LightcurveHouse$Row") (v := .ref ka) X K hrow.1 rfl iX5_add_X5 0 (by decide) (by decide +kernel) (fun _ h => h) rfl dX5_add_20 ?_
    refine lv_iload_n hx hb dX5_add_23 rfl (lv_at hl 0 rfl) ?_
    refine lv_aload_n hx hb dX5_add_24 rfl (lv_at hl 1 rfl) ?_
    refine hk_get (ref := "LightcurveHouse$Row") (v := .ref ka) X K hrow.1 rfl iX5_add_X5 0 (by decide) (by decide +kernel) (fun _ h => h) rfl dX5_add_25 ?_
    refine lv_iload_n hx hb dX5_add_28 rfl (lv_at hl 0 rfl) ?_
    refine lv_iconst (v := 1) hx hb dX5_add_29 (by decide) ?_
    refine lv_iadd hx hb dX5_add_30 ?_
    refine lv_topi (fun q1 eq1 => ?_)
    rw [nI_1] at eq1
    subst eq1
    refine lv_aload_n hx hb dX5_add_31 rfl (lv_at hl 1 rfl) ?_
    refine hk_get (ref := "LightcurveHouse$Row") (v := .int (nI n)) X K hrow.1 rfl iX5_add_X5 2 (by decide) (by decide +kernel) (fun _ h => h) rfl dX5_add_32 ?_
    refine lv_iload_n hx hb dX5_add_35 rfl (lv_at hl 0 rfl) ?_
    refine lv_isub hx hb dX5_add_36 ?_
    refine lv_topi (fun q2 eq2 => ?_)
    rw [pk_sub (by omega)] at eq2
    subst eq2
    have bH2 : p < 2 ^ 31 ∧ (p + 1) < 2 ^ 31 ∧ (n - p) < 2 ^ 31 := by omega
    refine hk_cpyi (rest := []) X K hrow.2.1 hrow.2.1 (by decide +kernel) (by decide +kernel) (by decide +kernel) (by decide +kernel) (nI_pos bH2.1) (nI_pos bH2.2.1) (nI_pos bH2.2.2) (by rw [nI_clamp bH2.1, nI_clamp bH2.2.2]; omega) (by rw [nI_clamp bH2.2.1, nI_clamp bH2.2.2]; omega) hS (Or.inr (Or.inl rfl)) hl.1 (Nat.le_of_ble_eq_true rfl) (Nat.le_of_ble_eq_true rfl) dX5_add_37 (fun H2 locsH2 hIH2 hzH2 hqH2 hS => ?_)
    rw [nI_clamp bH2.1, nI_clamp bH2.2.1, nI_clamp bH2.2.2] at hIH2
    have fH2_r : hk_O E r 5 [.ref ka, .ref va, .int (nI n)] H2 := va_at.kept hrow.1 (hqH2 _ hrk)
    have fH2_va := (hqH2 _ hkv.symm).trans hrow.2.2
    refine lv_aload_n hx hb dX5_add_40 rfl (lv_at hl 1 rfl) ?_
    refine hk_get (ref := "LightcurveHouse$Row") (v := .ref va) X K fH2_r rfl iX5_add_X5 1 (by decide) (by decide +kernel) (fun _ h => h) rfl dX5_add_41 ?_
    refine lv_iload_n hx hb dX5_add_44 rfl (lv_at hl 0 rfl) ?_
    refine lv_aload_n hx hb dX5_add_45 rfl (lv_at hl 1 rfl) ?_
    refine hk_get (ref := "LightcurveHouse$Row") (v := .ref va) X K fH2_r rfl iX5_add_X5 1 (by decide) (by decide +kernel) (fun _ h => h) rfl dX5_add_46 ?_
    refine lv_iload_n hx hb dX5_add_49 rfl (lv_at hl 0 rfl) ?_
    refine lv_iconst (v := 1) hx hb dX5_add_50 (by decide) ?_
    refine lv_iadd hx hb dX5_add_51 ?_
    refine lv_topi (fun q3 eq3 => ?_)
    rw [nI_1] at eq3
    subst eq3
    refine lv_aload_n hx hb dX5_add_52 rfl (lv_at hl 1 rfl) ?_
    refine hk_get (ref := "LightcurveHouse$Row") (v := .int (nI n)) X K fH2_r rfl iX5_add_X5 2 (by decide) (by decide +kernel) (fun _ h => h) rfl dX5_add_53 ?_
    refine lv_iload_n hx hb dX5_add_56 rfl (lv_at hl 0 rfl) ?_
    refine lv_isub hx hb dX5_add_57 ?_
    refine lv_topi (fun q4 eq4 => ?_)
    rw [pk_sub (by omega)] at eq4
    subst eq4
    have bH3 : p < 2 ^ 31 ∧ (p + 1) < 2 ^ 31 ∧ (n - p) < 2 ^ 31 := by omega
    refine hk_cpyi (rest := []) X K fH2_va fH2_va (by decide +kernel) (by decide +kernel) (by decide +kernel) (by decide +kernel) (nI_pos bH3.1) (nI_pos bH3.2.1) (nI_pos bH3.2.2) (by rw [nI_clamp bH3.1, nI_clamp bH3.2.2]; omega) (by rw [nI_clamp bH3.2.1, nI_clamp bH3.2.2]; omega) hS (Or.inr (Or.inr rfl)) hl.1 (Nat.le_of_ble_eq_true rfl) (Nat.le_of_ble_eq_true rfl) dX5_add_58 (fun H3 locsH3 hIH3 hzH3 hqH3 hS => ?_)
    rw [nI_clamp bH3.1, nI_clamp bH3.2.1, nI_clamp bH3.2.2] at hIH3
    have fH3_r : hk_O E r 5 [.ref ka, .ref va, .int (nI n)] H3 := va_at.kept fH2_r (hqH3 _ hrv)
    have fH3_ka := (hqH3 _ hkv).trans hIH2
    refine lv_aload_n hx hb dX5_add_61 rfl (lv_at hl 1 rfl) ?_
    refine hk_get (ref := "LightcurveHouse$Row") (v := .ref ka) X K fH3_r rfl iX5_add_X5 0 (by decide) (by decide +kernel) (fun _ h => h) rfl dX5_add_62 ?_
    refine lv_iload_n hx hb dX5_add_65 rfl (lv_at hl 0 rfl) ?_
    refine lv_iload_n hx hb dX5_add_66 rfl (lv_at hl 2 rfl) ?_
    refine hk_ist X K fH3_ka hS (Or.inr (Or.inl rfl)) (vp_in_nI (by omega) (by omega)) dX5_add_67 (fun H4 locsH4 hIH4 hzH4 hqH4 hS => ?_)
    have fH4_r : hk_O E r 5 [.ref ka, .ref va, .int (nI n)] H4 := va_at.kept fH3_r (hqH4 _ hrk)
    have fH4_va := (hqH4 _ hkv.symm).trans hIH3
    rw [nI_clamp (show p < 2 ^ 31 by omega)] at hIH4
    refine lv_aload_n hx hb dX5_add_68 rfl (lv_at hl 1 rfl) ?_
    refine hk_get (ref := "LightcurveHouse$Row") (v := .ref va) X K fH4_r rfl iX5_add_X5 1 (by decide) (by decide +kernel) (fun _ h => h) rfl dX5_add_69 ?_
    refine lv_iload_n hx hb dX5_add_72 rfl (lv_at hl 0 rfl) ?_
    refine lv_iload_n hx hb dX5_add_73 rfl (lv_at hl 3 rfl) ?_
    refine hk_ist X K fH4_va hS (Or.inr (Or.inr rfl)) (vp_in_nI (by omega) (by omega)) dX5_add_74 (fun H5 locsH5 hIH5 hzH5 hqH5 hS => ?_)
    have fH5_r : hk_O E r 5 [.ref ka, .ref va, .int (nI n)] H5 := va_at.kept fH4_r (hqH5 _ hrv)
    have fH5_ka := (hqH5 _ hkv).trans hIH4
    rw [nI_clamp (show p < 2 ^ 31 by omega)] at hIH5
    refine lv_aload_n hx hb dX5_add_75 rfl (lv_at hl 1 rfl) ?_
    refine lv_dup hx hb dX5_add_76 rfl ?_
    refine hk_get (ref := "LightcurveHouse$Row") (v := .int (nI n)) X K fH5_r rfl iX5_add_X5 2 (by decide) (by decide +kernel) (fun _ h => h) rfl dX5_add_77 ?_
    refine lv_iconst (v := 1) hx hb dX5_add_80 (by decide) ?_
    refine lv_iadd hx hb dX5_add_81 ?_
    refine lv_topi (fun q5 eq5 => ?_)
    rw [nI_1] at eq5
    subst eq5
    refine hk_put (ref := "LightcurveHouse$Row") X K fH5_r rfl iX5_add_X5 tyX5 tyX5_ok nmX5 hS (Or.inl rfl) 2 (by decide) (by decide +kernel) (fun _ h => h) (by decide +kernel) rfl rfl (Nat.le_of_ble_eq_true rfl) dX5_add_82 (fun H6 locsH6 hOH6 hzH6 hqH6 hS => ?_)
    have hOH6 : hk_O E r 5 [.ref ka, .ref va, .int (nI (n + 1))] H6 := hOH6
    have fH6_ka := (hqH6 _ hrk.symm).trans fH5_ka
    have fH6_va := (hqH6 _ hrv.symm).trans hIH5
    exact hk_vret X hr hlk hQ hS (Nat.le_of_ble_eq_true rfl) (Nat.le_of_ble_eq_true rfl) dX5_add_85 (⟨rfl, ⟨p, _, _, hpat, ⟨hOH6, fH6_ka, fH6_va⟩, fun i hi => ⟨ins_eq hp1 hi, ins_eq hp1 hi⟩⟩, by omega⟩)
  · exact absurd (nI_lt hn (by omega)) c_9
