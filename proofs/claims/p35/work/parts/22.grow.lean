theorem max1 {k : Nat} (h : 1 ≤ k) (hk : k < 2 ^ 31) : (if (1 : Int32) < nI k then nI k else 1) = nI k := by
  by_cases h2 : k = 1
  · subst h2; decide
  · rw [if_pos (show (1 : Int32) < nI k from nI_lt (a := 1) (by omega) hk)]
theorem hk_c0 : (0 : Int32).toNatClampNeg = 0 := by decide
theorem half1 {c : Nat} (h : c < 2 ^ 31) : nI c >>> ((1 : Int32) &&& 31) = nI (c / 2) := by
  have k := pk_shrN h ((1 : Int32) &&& 31) 1 (by decide)
  rw [Nat.pow_one] at k
  exact k
theorem min_le {a b : Nat} (h : a ≤ b) (hb : b < 2 ^ 31) : (if nI b < nI a then nI b else nI a) = nI a := if_neg (nI_nlt h hb)

abbrev rmJ8_newLength_cabcc : Room := { frames := 1, cells := 0, slots := 0, locals := 60 }
set_option maxHeartbeats 4000000 in
set_option maxRecDepth 100000 in
theorem c_J8_newLength_cabcc (E : hk_E) (l : Launch) (H0 : Heap) {c9 : Nat} (h2 : 2 ≤ c9) (hc : c9 ≤ 1000) : hk_M E l yJ8_newLength_cabcc wsJ8_newLength_cabcc rmJ8_newLength_cabcc (fun _ => False) [.int (nI c9), .int 1, .int (nI (c9 / 2))] H0 (fun z H1 => z = some (.int (nI (c9 + c9 / 2))) ∧ H0 = H1) := by
  refine hk_M.ofW (cc := cJ8_newLength_cabcc) (maxL := 4) (ret := (some .int)) (by decide +kernel) rfl (Nat.le_of_ble_eq_true rfl) ?_
  intro p e s m args below meth c ls Q hQ X hr hlk hnm K hs9 hS hl
  obtain ⟨hx, hb, hml, hown, hts⟩ := id X
  have hAE : ∀ q, (fun _ => False) q → hk_A E q := fun _ h => h.elim
  have hl : lv_has ls 4 [(0, .int (nI c9)), (1, .int 1), (2, .int (nI (c9 / 2)))] := hl
  refine lv_iload_n hx hb dJ8_newLength_cabcc_0 rfl (lv_at hl 0 rfl) ?_
  refine lv_iload_n hx hb dJ8_newLength_cabcc_1 rfl (lv_at hl 1 rfl) ?_
  refine lv_iload_n hx hb dJ8_newLength_cabcc_2 rfl (lv_at hl 2 rfl) ?_
  refine va_mmax (rest := [.int (nI c9)]) hx hb (by rw [hml]; exact hl.1.symm) hown (hts (.methodLink RJ8 194 Lib.Math.max.name) (by decide +kernel)) (hts (.static Lib.Math.max.name) (by decide +kernel)) (hts (.initialized "java/lang/Math") (by decide +kernel)) (hts (.code Lib.Math.max.name Lib.Math.max.code 2 (some .int)) (by decide +kernel)) (Nat.le_of_ble_eq_true rfl) (Nat.le_of_ble_eq_true rfl) (Nat.zero_le _) (Nat.zero_le _) dJ8_newLength_cabcc_3 ?_
  refine lv_topi (fun mx emx => ?_)
  rw [max1 (by omega) (by omega)] at emx
  subst emx
  refine lv_iadd hx hb dJ8_newLength_cabcc_6 ?_
  refine lv_topi (fun nl enl => ?_)
  rw [nI_add] at enl
  subst enl
  refine lv_istore_n (lv' := [(3, .int (nI (c9 + c9 / 2))), (0, .int (nI c9)), (1, .int 1), (2, .int (nI (c9 / 2)))]) hx hb dJ8_newLength_cabcc_7 rfl hl (by decide) rfl (fun ls hl => ?_)
  refine lv_iconst (v := 0) hx hb dJ8_newLength_cabcc_8 (by decide) ?_
  refine lv_iload_n hx hb dJ8_newLength_cabcc_9 rfl (lv_at hl 0 rfl) ?_
  refine lv_icmp_ge (tgt := 21) hx hb dJ8_newLength_cabcc_10 (by decide) (fun c_10 => ?_) (fun c_10 => ?_)
  · exact absurd c_10 (nI_nle (by omega) (by omega))
  · refine lv_iload_n hx hb dJ8_newLength_cabcc_13 rfl (lv_at hl 0 rfl) ?_
    refine lv_ldc hx hb hown (hts (.constant RJ8 200 (2147483639)) (by decide +kernel)) dJ8_newLength_cabcc_14 ?_
    refine lv_icmp_gt (tgt := 21) hx hb dJ8_newLength_cabcc_16 (by decide) (fun c_16 => ?_) (fun c_16 => ?_)
    · exact absurd c_16 (show ¬ nI 2147483639 < nI (c9 + c9 / 2) from nI_nlt (by omega) (by decide))
    · refine lv_iload_n hx hb dJ8_newLength_cabcc_19 rfl (lv_at hl 0 rfl) ?_
      exact hk_iret X hr hlk hQ hS (Nat.le_of_ble_eq_true rfl) (Nat.le_of_ble_eq_true rfl) dJ8_newLength_cabcc_20 (⟨rfl, rfl⟩)

theorem cpy_eq {f : Nat → Option Nat} {c k i : Nat} (h : i < k) : va_cpy f (fun _ => none) 0 0 c i = (if i < c then f i else none) := by
  unfold va_cpy
  by_cases hi : i < c
  · rw [if_pos ⟨Nat.zero_le _, by omega⟩, if_pos hi]; congr 1; omega
  · rw [if_neg (by omega), if_neg hi]

abbrev rmJ7_copyOf_6403c : Room := { frames := 1, cells := 1, slots := 150, locals := 60 }
set_option maxHeartbeats 4000000 in
set_option maxRecDepth 100000 in
theorem c_J7_copyOf_6403c (E : hk_E) (l : Launch) (H0 : Heap) {el c9 k9 : Nat} {f : Nat → Option Nat} (hQ0 : hk_Q E el c9 f H0) (hc : c9 ≤ k9) (hk : k9 ≤ 150) (hel : ∀ i, i < c9 → ∀ y, f i = some y → hk_el E y H0) (hbase : E.2.2.1 ≤ H0.size) : hk_M E l yJ7_copyOf_6403c wsJ7_copyOf_6403c rmJ7_copyOf_6403c (fun q => H0.size ≤ q) [.ref el, .int (nI k9), .ref E.2.2.2.2] H0 (fun z H1 => ∃ a : Nat, z = some (.ref a) ∧ a = H0.size ∧ hk_Q E a k9 (fun i => if i < c9 then f i else none) H1) := by
  refine hk_M.ofW (cc := cJ7_copyOf_6403c) (maxL := 4) (ret := (some (.array (.object "java/lang/Object")))) (by decide +kernel) rfl (Nat.le_of_ble_eq_true rfl) ?_
  intro p e s m args below meth c ls Q hQ X hr hlk hnm K hs9 hS hl
  obtain ⟨hx, hb, hml, hown, hts⟩ := id X
  have hAE : ∀ q, (fun q => H0.size ≤ q) q → hk_A E q := fun q h => Nat.le_trans hbase h
  have hl : lv_has ls 4 [(0, .ref el), (1, .int (nI k9)), (2, .ref E.2.2.2.2)] := hl
  refine lv_aload_n hx hb dJ7_copyOf_6403c_0 rfl (lv_at hl 2 rfl) ?_
  refine va_ldcM hx hb hown (hts (.classLink RJ7 110 "[Ljava/lang/Object;") (by decide +kernel)) K.2.2.2.2.1.2.1 dJ7_copyOf_6403c_1 ?_
  refine lv_acmp_ne (rx := some E.2.2.2.2) (ry := some E.2.2.2.2) (tgt := 13) hx hb dJ7_copyOf_6403c_3 (by decide) (fun c_3 => absurd rfl c_3) (fun _ => ?_)
  refine lv_iload_n hx hb dJ7_copyOf_6403c_6 rfl (lv_at hl 1 rfl) ?_
  refine hk_newq (N := k9) X K (by decide +kernel) hS (nI_pos (by omega)) (nI_clamp (by omega)) (by omega) (Nat.le_of_ble_eq_true rfl) (by show 0 + k9 ≤ 150; omega) dJ7_copyOf_6403c_7 (fun H1 hIH1 hzH1 hqH1 hS => ?_)
  obtain ⟨a2, ea2⟩ : ∃ z : Nat, z = H0.size := ⟨_, rfl⟩
  rw [← ea2] at hIH1 ⊢
  have fH1_el := (hqH1 _ (Array.getElem?_eq_some_iff.mp hQ0).1).trans hQ0
  refine W.widen (k := 1) (n := 150) (Nat.le_refl _) (by omega) ?_
  refine lv_goto (tgt := 24) hx hb dJ7_copyOf_6403c_10 (by decide) ?_
  refine lv_astore_n (lv' := [(3, .ref a2), (0, .ref el), (1, .int (nI k9)), (2, .ref E.2.2.2.2)]) hx hb dJ7_copyOf_6403c_24 rfl hl (by decide) rfl (fun ls hl => ?_)
  refine lv_aload_n hx hb dJ7_copyOf_6403c_25 rfl (lv_at hl 1 rfl) ?_
  refine lv_iconst (v := 0) hx hb dJ7_copyOf_6403c_26 (by decide) ?_
  refine lv_aload_n hx hb dJ7_copyOf_6403c_27 rfl (lv_at hl 0 rfl) ?_
  refine lv_iconst (v := 0) hx hb dJ7_copyOf_6403c_28 (by decide) ?_
  refine lv_aload_n hx hb dJ7_copyOf_6403c_29 rfl (lv_at hl 1 rfl) ?_
  refine hk_qlen X K fH1_el dJ7_copyOf_6403c_30 ?_
  refine lv_iload_n hx hb dJ7_copyOf_6403c_31 rfl (lv_at hl 2 rfl) ?_
  refine va_mmin (rest := [.int 0, .ref a2, .int 0, .ref el]) hx hb (by rw [hml]; exact hl.1.symm) hown (hts (.methodLink RJ7 304 Lib.Math.min.name) (by decide +kernel)) (hts (.static Lib.Math.min.name) (by decide +kernel)) (hts (.initialized "java/lang/Math") (by decide +kernel)) (hts (.code Lib.Math.min.name Lib.Math.min.code 2 (some .int)) (by decide +kernel)) (Nat.le_of_ble_eq_true rfl) (Nat.le_of_ble_eq_true rfl) (Nat.le_of_ble_eq_true rfl) (Nat.le_of_ble_eq_true rfl) dJ7_copyOf_6403c_32 ?_
  refine lv_topi (fun mn emn => ?_)
  rw [min_le hc (by omega)] at emn
  subst emn
  have bH3 : 0 < 2 ^ 31 ∧ 0 < 2 ^ 31 ∧ c9 < 2 ^ 31 := by omega
  refine hk_cpyq (rest := []) X K fH1_el hIH1 (by decide +kernel) (by decide +kernel) (by decide +kernel) (by decide +kernel) (by decide) (by decide) (nI_pos bH3.2.2) (by rw [hk_c0, nI_clamp bH3.2.2]; omega) (by rw [hk_c0, nI_clamp bH3.2.2]; omega) (by intro i hi y hy; rw [nI_clamp (show c9 < 2 ^ 31 by omega)] at hi; rw [hk_c0, Nat.zero_add] at hy; exact (hel i hi y hy).kept (hqH1 _ (hel i hi y hy).lt)) hS (Nat.le_of_eq ea2.symm) hl.1 (Nat.le_of_ble_eq_true rfl) (Nat.le_of_ble_eq_true rfl) dJ7_copyOf_6403c_35 (fun H3 locsH3 hIH3 hzH3 hqH3 hS => ?_)
  rw [hk_c0, nI_clamp bH3.2.2] at hIH3
  have fH3_el := (hqH3 _ (fun h => absurd (Array.getElem?_eq_some_iff.mp hQ0).1 (by omega))).trans fH1_el
  refine lv_aload_n hx hb dJ7_copyOf_6403c_38 rfl (lv_at hl 0 rfl) ?_
  exact hk_aret X hr (Or.inr ⟨_, rfl⟩) hlk hQ hS (Nat.le_of_ble_eq_true rfl) (Nat.le_of_ble_eq_true rfl) dJ7_copyOf_6403c_39 (⟨a2, rfl, by assumption, hk_Qcong hIH3 (fun i hi => cpy_eq hi)⟩)

theorem hd_J7_copyOf_6403c : yJ7_copyOf_6403c.cls ≠ "java/lang/invoke/MethodHandle" ∧ yJ7_copyOf_6403c.cls ≠ "java/lang/invoke/VarHandle" ∧ (parseMethodDescriptor yJ7_copyOf_6403c.desc).map (fun d => d.parameters.length) = some 3 := ⟨by decide, by decide, by decide +kernel⟩
abbrev rmJ7_copyOf_1904c : Room := { frames := 2, cells := 1, slots := 150, locals := 100 }
set_option maxHeartbeats 4000000 in
set_option maxRecDepth 100000 in
theorem c_J7_copyOf_1904c (E : hk_E) (l : Launch) (H0 : Heap) {el c9 k9 : Nat} {f : Nat → Option Nat} (hQ0 : hk_Q E el c9 f H0) (hc : c9 ≤ k9) (hk : k9 ≤ 150) (hel : ∀ i, i < c9 → ∀ y, f i = some y → hk_el E y H0) (hbase : E.2.2.1 ≤ H0.size) : hk_M E l yJ7_copyOf_1904c wsJ7_copyOf_1904c rmJ7_copyOf_1904c (fun q => H0.size ≤ q) [.ref el, .int (nI k9)] H0 (fun z H1 => ∃ a : Nat, z = some (.ref a) ∧ a = H0.size ∧ hk_Q E a k9 (fun i => if i < c9 then f i else none) H1) := by
  refine hk_M.ofW (cc := cJ7_copyOf_1904c) (maxL := 2) (ret := (some (.array (.object "java/lang/Object")))) (by decide +kernel) rfl (Nat.le_of_ble_eq_true rfl) ?_
  intro p e s m args below meth c ls Q hQ X hr hlk hnm K hs9 hS hl
  obtain ⟨hx, hb, hml, hown, hts⟩ := id X
  have hAE : ∀ q, (fun q => H0.size ≤ q) q → hk_A E q := fun q h => Nat.le_trans hbase h
  have hl : lv_has ls 2 [(0, .ref el), (1, .int (nI k9))] := hl
  refine lv_aload_n hx hb dJ7_copyOf_1904c_0 rfl (lv_at hl 0 rfl) ?_
  refine lv_iload_n hx hb dJ7_copyOf_1904c_1 rfl (lv_at hl 1 rfl) ?_
  refine lv_aload_n hx hb dJ7_copyOf_1904c_2 rfl (lv_at hl 0 rfl) ?_
  obtain ⟨cm, hm1⟩ : ∃ cm : Cell, cm = vp_cell (E.2.1 3) (c9, .inr (.inr (.inr (.inr f)))) := ⟨_, rfl⟩
  have hcl9 : s.vm.findClass "[Ljava/lang/Object;" = some (E.2.1 3) := va_nmO (K.1.2 3 _ rfl).2 rfl
  refine va_getC (C := "[Ljava/lang/Object;") (rest := [.int (nI k9), .ref el]) hx hb (by rw [hml]; exact hl.1.symm) hown (hts (.methodLink RJ7 86 ⟨"java/lang/Object", "getClass", "()Ljava/lang/Class;"⟩) (by decide +kernel)) (K.2.2.2.2.1.2.2.1.use) (hts (.selects "[Ljava/lang/Object;" ⟨"java/lang/Object", "getClass", "()Ljava/lang/Class;"⟩ ⟨"java/lang/Object", "getClass", "()Ljava/lang/Class;"⟩) (by decide +kernel)) (hts (.instanceMethod ⟨"java/lang/Object", "getClass", "()Ljava/lang/Class;"⟩) (by decide +kernel)) (hts (.native ⟨"java/lang/Object", "getClass", "()Ljava/lang/Class;"⟩) (by decide +kernel)) K.2.2.2.2.1.2.1 ⟨_, hQ0, rfl, hcl9⟩ (Nat.le_of_ble_eq_true rfl) (Nat.le_of_ble_eq_true rfl) dJ7_copyOf_1904c_3 ?_
  refine hk_callS 3 (As := [.ref el, .int (nI k9), .ref E.2.2.2.2]) (rest := []) X K hAE hS hl.1 (c_J7_copyOf_6403c E l H0 hQ0 hc hk hel hbase) (fun q h => h) gJ7_copyOf_1904c_J7_copyOf_6403c rfl hd_J7_copyOf_6403c rfl ⟨⟨(Nat.le_of_ble_eq_true rfl), (Nat.le_of_ble_eq_true rfl)⟩, (Nat.le_of_ble_eq_true rfl), (Nat.le_of_ble_eq_true rfl)⟩ rfl (Nat.le_of_ble_eq_true rfl) dJ7_copyOf_1904c_6 (fun v9 H1 locsH1 hp hS hzH1 hkH1 => ?_)
  obtain ⟨a, hv, ha, hQ1⟩ := hp
  subst hv
  exact hk_aret X hr (Or.inr ⟨_, rfl⟩) hlk hQ hS (Nat.le_of_ble_eq_true rfl) (Nat.le_of_ble_eq_true rfl) dJ7_copyOf_1904c_9 (⟨_, rfl, ha, hQ1⟩)

/-- what a list's growth answers: a new array, more places, the same elements -/
def hk_gr (E : hk_E) (L n : Nat) (mc : Int32) (x : Nat → Nat) (H0 : Heap) : Option Value → Heap → Prop := fun v H1 => ∃ a cap' : Nat, v = some (.ref a) ∧ H0.size ≤ a ∧ n < cap' ∧ 2 ≤ cap' ∧ cap' ≤ 150 ∧ hk_O E L 0 [.int mc, .ref a, .int (nI n)] H1 ∧ hk_Q E a cap' (fun i => if i < n then some (x i) else none) H1
theorem hk_Zs {E : hk_E} {s : State} (K : hk_K E s s.heap) {A : Nat → Prop} (hA : ∀ q, A q → hk_A E q) : va_Z "java/util/ArrayList" "DEFAULTCAPACITY_EMPTY_ELEMENTDATA" "[Ljava/lang/Object;" (.ref E.2.2.2.1) A s s.heap := K.2.1.narrow hA

abbrev rmgrow_a : Room := { frames := 3, cells := 1, slots := 150, locals := 140 }
theorem iJx4a65c_grow_92f84_Jx4a65c : ∀ w ∈ wsJx4a65c0, w ∈ wsJx4a65c_grow_92f84 := by decide +kernel
set_option maxHeartbeats 4000000 in
set_option maxRecDepth 100000 in
theorem c_grow_a (E : hk_E) (l : Launch) (H0 : Heap) {L el n cap : Nat} {mc : Int32} {x : Nat → Nat} (hli : hk_li E L el n cap mc x H0) (hL : hk_A E L) (hbase : E.2.2.1 ≤ H0.size) (hn : n = 0) (hcap : cap = 0) (he : el = E.2.2.2.1) : hk_M E l yJx4a65c_grow_92f84 wsJx4a65c_grow_92f84 rmgrow_a (fun q => q = L ∨ H0.size ≤ q) [.ref L, .int (nI 1)] H0 (hk_gr E L n mc x H0) := by
  refine hk_M.ofW (cc := cJx4a65c_grow_92f84) (maxL := 4) (ret := (some (.array (.object "java/lang/Object")))) (by decide +kernel) rfl (Nat.le_of_ble_eq_true rfl) ?_
  intro p e s m args below meth c ls Q hQ X hr hlk hnm K hs9 hS hl
  obtain ⟨hx, hb, hml, hown, hts⟩ := id X
  have hAE : ∀ q, (fun q => q = L ∨ H0.size ≤ q) q → hk_A E q := fun q h => h.elim (fun h => by subst h; exact hL) (fun h => Nat.le_trans hbase h)
  have hl : lv_has ls 4 [(0, .ref L), (1, .int (nI 1))] := hl
  refine lv_aload_n hx hb dJx4a65c_grow_92f84_0 rfl (lv_at hl 0 rfl) ?_
  refine hk_get (ref := "java/util/ArrayList") (v := .ref el) X K hli.1 rfl iJx4a65c_grow_92f84_Jx4a65c 1 (by decide) (by decide +kernel) (fun _ h => h) rfl dJx4a65c_grow_92f84_1 ?_
  refine hk_llen X K hli (by first | exact Or.inr ⟨hcap, he⟩ | exact hc.elim (fun h => Or.inr h.2) (fun h => Or.inl (by omega))) (K.at hAE hS).2.2.1 dJx4a65c_grow_92f84_4 ?_
  refine lv_istore_n (lv' := [(2, .int (nI cap)), (0, .ref L), (1, .int (nI 1))]) hx hb dJx4a65c_grow_92f84_5 rfl hl (by decide) rfl (fun ls hl => ?_)
  refine lv_iload_n hx hb dJx4a65c_grow_92f84_6 rfl (lv_at hl 0 rfl) ?_
  refine lv_if_gt (tgt := 20) hx hb dJx4a65c_grow_92f84_7 (by decide) (fun c_7 => ?_) (fun c_7 => ?_)
  · exact absurd c_7 (by rw [hcap]; decide)
  · refine lv_aload_n hx hb dJx4a65c_grow_92f84_10 rfl (lv_at hl 1 rfl) ?_
    refine hk_get (ref := "java/util/ArrayList") (v := .ref el) X K hli.1 rfl iJx4a65c_grow_92f84_Jx4a65c 1 (by decide) (by decide +kernel) (fun _ h => h) rfl dJx4a65c_grow_92f84_11 ?_
    refine va_gets hx hb (hk_Zs K hAE) hS hown (hts (.fieldLink RJx4a65c 39 "java/util/ArrayList" "DEFAULTCAPACITY_EMPTY_ELEMENTDATA" "[Ljava/lang/Object;") (by decide +kernel)) (fun _ h => h) dJx4a65c_grow_92f84_14 ?_
    refine lv_acmp_eq (rx := some el) (ry := some E.2.2.2.1) (tgt := 45) hx hb dJx4a65c_grow_92f84_17 (by decide) (fun _ => ?_) (fun c_17 => absurd (congrArg some he) c_17)
    refine lv_aload_n hx hb dJx4a65c_grow_92f84_45 rfl (lv_at hl 1 rfl) ?_
    refine lv_bipush (v := 10) hx hb dJx4a65c_grow_92f84_46 (by decide) ?_
    refine lv_iload_n hx hb dJx4a65c_grow_92f84_48 rfl (lv_at hl 2 rfl) ?_
    refine va_mmax (rest := [.ref L]) hx hb (by rw [hml]; exact hl.1.symm) hown (hts (.methodLink RJx4a65c 79 Lib.Math.max.name) (by decide +kernel)) (hts (.static Lib.Math.max.name) (by decide +kernel)) (hts (.initialized "java/lang/Math") (by decide +kernel)) (hts (.code Lib.Math.max.name Lib.Math.max.code 2 (some .int)) (by decide +kernel)) (Nat.le_of_ble_eq_true rfl) (Nat.le_of_ble_eq_true rfl) (Nat.zero_le _) (Nat.zero_le _) dJx4a65c_grow_92f84_49 ?_
    refine lv_topi (fun mx emx => ?_)
    rw [show (if (10 : Int32) < nI 1 then nI 1 else 10) = 10 from by decide] at emx
    subst emx
    refine hk_newq (N := 10) X K (by decide +kernel) hS (by decide) (by decide) (by decide) (Nat.le_of_ble_eq_true rfl) (Nat.le_of_ble_eq_true rfl) dJx4a65c_grow_92f84_52 (fun H1 hIH1 hzH1 hqH1 hS => ?_)
    obtain ⟨a2, ea2⟩ : ∃ z : Nat, z = H0.size := ⟨_, rfl⟩
    rw [← ea2] at hIH1 ⊢
    have fH1_L : hk_O E L 0 [.int mc, .ref el, .int (nI n)] H1 := va_at.kept hli.1 (hqH1 _ (va_at.lt hli.1))
    refine lv_dup_x1 hx hb dJx4a65c_grow_92f84_55 rfl rfl ?_
    refine hk_put (ref := "java/util/ArrayList") X K fH1_L rfl iJx4a65c_grow_92f84_Jx4a65c tyJx4a65c tyJx4a65c_ok nmJx4a65c hS (Or.inl rfl) 1 (by decide) (by decide +kernel) (fun _ h => h) (by decide +kernel) rfl rfl (Nat.le_of_ble_eq_true rfl) dJx4a65c_grow_92f84_56 (fun H3 locsH3 hOH3 hzH3 hqH3 hS => ?_)
    have hOH3 : hk_O E L 0 [.int mc, .ref a2, .int (nI n)] H3 := hOH3
    have fH3_a2 := (hqH3 _ (fun h => absurd (va_at.lt hli.1) (by omega))).trans hIH1
    exact hk_aret X hr (Or.inr ⟨_, rfl⟩) hlk hQ hS (Nat.le_of_ble_eq_true rfl) (Nat.le_of_ble_eq_true rfl) dJx4a65c_grow_92f84_59 (⟨_, 10, rfl, by omega, by omega, by omega, by omega, hOH3, hk_Qcong fH3_a2 (fun i hi => by rw [if_neg (by omega)])⟩)

theorem hd_J7_copyOf_1904c : yJ7_copyOf_1904c.cls ≠ "java/lang/invoke/MethodHandle" ∧ yJ7_copyOf_1904c.cls ≠ "java/lang/invoke/VarHandle" ∧ (parseMethodDescriptor yJ7_copyOf_1904c.desc).map (fun d => d.parameters.length) = some 2 := ⟨by decide, by decide, by decide +kernel⟩
theorem hd_J8_newLength_cabcc : yJ8_newLength_cabcc.cls ≠ "java/lang/invoke/MethodHandle" ∧ yJ8_newLength_cabcc.cls ≠ "java/lang/invoke/VarHandle" ∧ (parseMethodDescriptor yJ8_newLength_cabcc.desc).map (fun d => d.parameters.length) = some 3 := ⟨by decide, by decide, by decide +kernel⟩
abbrev rmgrow_b : Room := { frames := 3, cells := 1, slots := 150, locals := 140 }
set_option maxHeartbeats 4000000 in
set_option maxRecDepth 100000 in
theorem c_grow_b (E : hk_E) (l : Launch) (H0 : Heap) {L el n cap : Nat} {mc : Int32} {x : Nat → Nat} (hli : hk_li E L el n cap mc x H0) (hL : hk_A E L) (hbase : E.2.2.1 ≤ H0.size) (hn : n = cap) (hcap : 2 ≤ cap) (hcap2 : cap ≤ 100) (hel : ∀ i, i < n → hk_el E (x i) H0) : hk_M E l yJx4a65c_grow_92f84 wsJx4a65c_grow_92f84 rmgrow_b (fun q => q = L ∨ H0.size ≤ q) [.ref L, .int (nI (n + 1))] H0 (hk_gr E L n mc x H0) := by
  refine hk_M.ofW (cc := cJx4a65c_grow_92f84) (maxL := 4) (ret := (some (.array (.object "java/lang/Object")))) (by decide +kernel) rfl (Nat.le_of_ble_eq_true rfl) ?_
  intro p e s m args below meth c ls Q hQ X hr hlk hnm K hs9 hS hl
  obtain ⟨hx, hb, hml, hown, hts⟩ := id X
  have hAE : ∀ q, (fun q => q = L ∨ H0.size ≤ q) q → hk_A E q := fun q h => h.elim (fun h => by subst h; exact hL) (fun h => Nat.le_trans hbase h)
  have hl : lv_has ls 4 [(0, .ref L), (1, .int (nI (n + 1)))] := hl
  refine lv_aload_n hx hb dJx4a65c_grow_92f84_0 rfl (lv_at hl 0 rfl) ?_
  refine hk_get (ref := "java/util/ArrayList") (v := .ref el) X K hli.1 rfl iJx4a65c_grow_92f84_Jx4a65c 1 (by decide) (by decide +kernel) (fun _ h => h) rfl dJx4a65c_grow_92f84_1 ?_
  refine hk_qlen X K (hli.2 (by omega)) dJx4a65c_grow_92f84_4 ?_
  refine lv_istore_n (lv' := [(2, .int (nI cap)), (0, .ref L), (1, .int (nI (n + 1)))]) hx hb dJx4a65c_grow_92f84_5 rfl hl (by decide) rfl (fun ls hl => ?_)
  refine lv_iload_n hx hb dJx4a65c_grow_92f84_6 rfl (lv_at hl 0 rfl) ?_
  refine lv_if_gt (tgt := 20) hx hb dJx4a65c_grow_92f84_7 (by decide) (fun c_7 => ?_) (fun c_7 => ?_)
  · refine lv_iload_n hx hb dJx4a65c_grow_92f84_20 rfl (lv_at hl 0 rfl) ?_
    refine lv_iload_n hx hb dJx4a65c_grow_92f84_21 rfl (lv_at hl 2 rfl) ?_
    refine lv_iload_n hx hb dJx4a65c_grow_92f84_22 rfl (lv_at hl 0 rfl) ?_
    refine lv_isub hx hb dJx4a65c_grow_92f84_23 ?_
    refine lv_topi (fun df edf => ?_)
    rw [show nI (n + 1) - nI cap = 1 from by rw [hn, pk_sub (by omega), Nat.add_sub_cancel_left]; decide] at edf
    subst edf
    refine lv_iload_n hx hb dJx4a65c_grow_92f84_24 rfl (lv_at hl 0 rfl) ?_
    refine lv_iconst (v := 1) hx hb dJx4a65c_grow_92f84_25 (by decide) ?_
    refine lv_ishr hx hb dJx4a65c_grow_92f84_26 ?_
    refine lv_topi (fun hf ehf => ?_)
    rw [half1 (by omega)] at ehf
    subst ehf
    refine hk_callS 3 (As := [.int (nI cap), .int 1, .int (nI (cap / 2))]) (rest := []) X K hAE hS hl.1 (c_J8_newLength_cabcc E l H0 (c9 := cap) hcap (by omega)) (fun _ h => h.elim) gJx4a65c_grow_92f84_J8_newLength_cabcc rfl hd_J8_newLength_cabcc rfl ⟨⟨(Nat.le_of_ble_eq_true rfl), (Nat.le_of_ble_eq_true rfl)⟩, (Nat.le_of_ble_eq_true rfl), (Nat.le_of_ble_eq_true rfl)⟩ rfl (Nat.le_of_ble_eq_true rfl) dJx4a65c_grow_92f84_27 (fun v9 H1 locsH1 hp hS hzH1 hkH1 => ?_)
    obtain ⟨hv, hh⟩ := hp
    subst hv; subst hh
    refine lv_istore_n (lv' := [(3, .int (nI (cap + cap / 2))), (2, .int (nI cap)), (0, .ref L), (1, .int (nI (n + 1)))]) hx hb dJx4a65c_grow_92f84_30 rfl hl (by decide) rfl (fun ls hl => ?_)
    refine lv_aload_n hx hb dJx4a65c_grow_92f84_31 rfl (lv_at hl 2 rfl) ?_
    refine lv_aload_n hx hb dJx4a65c_grow_92f84_32 rfl (lv_at hl 2 rfl) ?_
    refine hk_get (ref := "java/util/ArrayList") (v := .ref el) X K hli.1 rfl iJx4a65c_grow_92f84_Jx4a65c 1 (by decide) (by decide +kernel) (fun _ h => h) rfl dJx4a65c_grow_92f84_33 ?_
    refine lv_iload_n hx hb dJx4a65c_grow_92f84_36 rfl (lv_at hl 0 rfl) ?_
    refine hk_callS 2 (As := [.ref el, .int (nI (cap + cap / 2))]) (rest := [.ref L]) X K hAE hS hl.1 (c_J7_copyOf_1904c E l H0 (k9 := cap + cap / 2) (hli.2 (by omega)) (by omega) (by omega) (fun i hi y hy => by rw [if_pos (by omega)] at hy; cases hy; exact hel i (by omega)) hbase) (fun q h => Or.inr h) gJx4a65c_grow_92f84_J7_copyOf_1904c rfl hd_J7_copyOf_1904c rfl ⟨⟨(Nat.le_of_ble_eq_true rfl), (Nat.le_of_ble_eq_true rfl)⟩, (Nat.le_of_ble_eq_true rfl), (Nat.le_of_ble_eq_true rfl)⟩ rfl (Nat.le_of_ble_eq_true rfl) dJx4a65c_grow_92f84_37 (fun v9 H2 locsH2 hp hS hzH2 hkH2 => ?_)
    obtain ⟨a, hv, ha, hQ1⟩ := hp
    subst hv
    have fLH2 : hk_O E L 0 [.int mc, .ref el, .int (nI n)] H2 := va_at.kept hli.1 (hkH2 _ (va_at.lt hli.1) (fun h => absurd (va_at.lt hli.1) (by omega)))
    refine lv_dup_x1 hx hb dJx4a65c_grow_92f84_40 rfl rfl ?_
    refine hk_put (ref := "java/util/ArrayList") X K fLH2 rfl iJx4a65c_grow_92f84_Jx4a65c tyJx4a65c tyJx4a65c_ok nmJx4a65c hS (Or.inl rfl) 1 (by decide) (by decide +kernel) (fun _ h => h) (by decide +kernel) rfl rfl (Nat.le_of_ble_eq_true rfl) dJx4a65c_grow_92f84_41 (fun H3 locsH3 hOH3 hzH3 hqH3 hS => ?_)
    have hOH3 : hk_O E L 0 [.int mc, .ref a, .int (nI n)] H3 := hOH3
    have fH3_a := (hqH3 _ (fun h => absurd (va_at.lt hli.1) (by omega))).trans hQ1
    exact hk_aret X hr (Or.inr ⟨_, rfl⟩) hlk hQ hS (Nat.le_of_ble_eq_true rfl) (Nat.le_of_ble_eq_true rfl) dJx4a65c_grow_92f84_44 (⟨_, cap + cap / 2, rfl, by omega, by omega, by omega, by omega, hOH3, hk_Qcong fH3_a (fun i hi => by by_cases h : i < n <;> simp [h] <;> omega)⟩)
  · exact absurd (by rw [← nI_0]; exact nI_lt (by omega) (by omega)) c_7

theorem hd_Jx4a65c_grow_92f84 : yJx4a65c_grow_92f84.cls ≠ "java/lang/invoke/MethodHandle" ∧ yJx4a65c_grow_92f84.cls ≠ "java/lang/invoke/VarHandle" ∧ (parseMethodDescriptor yJx4a65c_grow_92f84.desc).map (fun d => d.parameters.length) = some 1 := ⟨by decide, by decide, by decide +kernel⟩
abbrev rmgrow0 : Room := { frames := 4, cells := 1, slots := 150, locals := 180 }
theorem iJx4a65c_grow_d5877_Jx4a65c : ∀ w ∈ wsJx4a65c0, w ∈ wsJx4a65c_grow_d5877 := by decide +kernel
set_option maxHeartbeats 4000000 in
set_option maxRecDepth 100000 in
theorem c_grow0 (E : hk_E) (l : Launch) (H0 : Heap) {L el n cap : Nat} {mc : Int32} {x : Nat → Nat} (hli : hk_li E L el n cap mc x H0) (hL : hk_A E L) (hbase : E.2.2.1 ≤ H0.size) (hc : (n = 0 ∧ cap = 0 ∧ el = E.2.2.2.1) ∨ (n = cap ∧ 2 ≤ cap ∧ cap ≤ 100)) (hel : ∀ i, i < n → hk_el E (x i) H0) : hk_M E l yJx4a65c_grow_d5877 wsJx4a65c_grow_d5877 rmgrow0 (fun q => q = L ∨ H0.size ≤ q) [.ref L] H0 (hk_gr E L n mc x H0) := by
  refine hk_M.ofW (cc := cJx4a65c_grow_d5877) (maxL := 1) (ret := (some (.array (.object "java/lang/Object")))) (by decide +kernel) rfl (Nat.le_of_ble_eq_true rfl) ?_
  intro p e s m args below meth c ls Q hQ X hr hlk hnm K hs9 hS hl
  obtain ⟨hx, hb, hml, hown, hts⟩ := id X
  have hAE : ∀ q, (fun q => q = L ∨ H0.size ≤ q) q → hk_A E q := fun q h => h.elim (fun h => by subst h; exact hL) (fun h => Nat.le_trans hbase h)
  have hl : lv_has ls 1 [(0, .ref L)] := hl
  refine lv_aload_n hx hb dJx4a65c_grow_d5877_0 rfl (lv_at hl 0 rfl) ?_
  refine lv_aload_n hx hb dJx4a65c_grow_d5877_1 rfl (lv_at hl 0 rfl) ?_
  refine hk_get (ref := "java/util/ArrayList") (v := .int (nI n)) X K hli.1 rfl iJx4a65c_grow_d5877_Jx4a65c 2 (by decide) (by decide +kernel) (fun _ h => h) rfl dJx4a65c_grow_d5877_2 ?_
  refine lv_iconst (v := 1) hx hb dJx4a65c_grow_d5877_5 (by decide) ?_
  refine lv_iadd hx hb dJx4a65c_grow_d5877_6 ?_
  refine lv_topi (fun n1 en1 => ?_)
  rw [nI_1] at en1
  subst en1
  refine hk_callV 1 (As := [.int (nI (n + 1))]) (rest := []) X K hAE hS hl.1 hli.1 rfl ((show hk_M E l yJx4a65c_grow_92f84 wsJx4a65c_grow_92f84 rmgrow_a (fun q => q = L ∨ H0.size ≤ q) [.ref L, .int (nI (n + 1))] H0 (hk_gr E L n mc x H0) from hc.elim (fun h => by have h1 := h.1; subst h1; exact c_grow_a E l H0 hli hL hbase rfl h.2.1 h.2.2) (fun h => c_grow_b E l H0 hli hL hbase h.1 h.2.1 h.2.2 hel))) (fun q h => h) gJx4a65c_grow_d5877_Jx4a65c_grow_92f84 rfl ⟨rfl, hd_Jx4a65c_grow_92f84⟩ rfl ⟨⟨(Nat.le_of_ble_eq_true rfl), (Nat.le_of_ble_eq_true rfl)⟩, (Nat.le_of_ble_eq_true rfl), (Nat.le_of_ble_eq_true rfl)⟩ rfl (Nat.le_of_ble_eq_true rfl) dJx4a65c_grow_d5877_7 (fun v9 H1 locsH1 hp hS hzH1 hkH1 => ?_)
  obtain ⟨a, cap9, hv, hp⟩ := hp
  subst hv
  exact hk_aret X hr (Or.inr ⟨_, rfl⟩) hlk hQ hS (Nat.le_of_ble_eq_true rfl) (Nat.le_of_ble_eq_true rfl) dJx4a65c_grow_d5877_10 (⟨a, cap9, rfl, hp⟩)

/-- a list has got v as its element n -/
def hk_ad (E : hk_E) (L el n cap : Nat) (mc : Int32) (x : Nat → Nat) (v : Nat) (H0 H1 : Heap) : Prop := ∃ el' cap' : Nat, hk_li E L el' (n + 1) cap' mc (va_up x n v) H1 ∧ n + 1 ≤ cap' ∧ (cap' = cap ∨ cap' ≤ 150) ∧ 2 ≤ cap' ∧ ((el' = el ∧ n < cap) ∨ (H0.size ≤ el' ∧ ¬ n < cap))
theorem ad_eq {n i v : Nat} {x : Nat → Nat} : va_up (fun i => if i < n then some (x i) else none) n (some v) i = (if i < n + 1 then some (va_up x n v i) else none) := by
  show (if i = n then some v else if i < n then some (x i) else none) = (if i < n + 1 then some (if i = n then v else x i) else none)
  by_cases h : i = n
  · subst h; simp
  · by_cases h2 : i < n
    · rw [if_neg h, if_pos h2, if_pos (by omega), if_neg h]
    · rw [if_neg h, if_neg h2, if_neg (by omega)]

theorem hk_ad_H {E : hk_E} {L el n cap v : Nat} {mc : Int32} {x : Nat → Nat} {Ha Hb H1 : Heap} (h : hk_ad E L el n cap mc x v Ha H1) (e : Hb.size ≤ Ha.size) : hk_ad E L el n cap mc x v Hb H1 := by
  obtain ⟨el', cap', h1, h2, h3, h4, h5⟩ := h
  exact ⟨el', cap', h1, h2, h3, h4, h5.elim Or.inl (fun h => Or.inr ⟨Nat.le_trans e h.1, h.2⟩)⟩

abbrev rmadd3_a : Room := { frames := 5, cells := 1, slots := 150, locals := 220 }
theorem iJx4a65c_add_72be8_Jx4a65c : ∀ w ∈ wsJx4a65c0, w ∈ wsJx4a65c_add_72be8 := by decide +kernel
set_option maxHeartbeats 4000000 in
set_option maxRecDepth 100000 in
theorem c_add3_a (E : hk_E) (l : Launch) (H0 : Heap) {L el n cap : Nat} {mc : Int32} {x : Nat → Nat} (hli : hk_li E L el n cap mc x H0) (hL : hk_A E L) (hbase : E.2.2.1 ≤ H0.size) (hE : n < cap → hk_A E el) (hne : L ≠ el) (hel : ∀ i, i < n → hk_el E (x i) H0) {v : Nat} (hv9 : hk_el E v H0) (hvL : v ≠ L) (hne9 : ∀ i, i < n → x i ≠ L) (hn : n < cap) (hcap : cap ≤ 1000) (hcap2 : 2 ≤ cap) : hk_M E l yJx4a65c_add_72be8 wsJx4a65c_add_72be8 rmadd3_a (fun q => q = L ∨ (q = el ∧ n < cap) ∨ H0.size ≤ q) [.ref L, .ref v, .ref el, .int (nI n)] H0 (fun z H1 => z = none ∧ hk_ad E L el n cap mc x v H0 H1) := by
  refine hk_M.ofW (cc := cJx4a65c_add_72be8) (maxL := 4) (ret := none) (by decide +kernel) rfl (Nat.le_of_ble_eq_true rfl) ?_
  intro p e s m args below meth c ls Q hQ X hr hlk hnm K hs9 hS hl
  obtain ⟨hx, hb, hml, hown, hts⟩ := id X
  have hAE : ∀ q, (fun q => q = L ∨ (q = el ∧ n < cap) ∨ H0.size ≤ q) q → hk_A E q := fun q h => h.elim (fun h => by subst h; exact hL) (fun h => h.elim (fun h => by rw [h.1]; exact hE h.2) (fun h => Nat.le_trans hbase h))
  have hl : lv_has ls 4 [(0, .ref L), (1, .ref v), (2, .ref el), (3, .int (nI n))] := hl
  
  refine lv_iload_n hx hb dJx4a65c_add_72be8_0 rfl (lv_at hl 3 rfl) ?_
  refine lv_aload_n hx hb dJx4a65c_add_72be8_1 rfl (lv_at hl 2 rfl) ?_
  refine hk_qlen X K (hli.2 (by omega)) dJx4a65c_add_72be8_2 ?_
  refine lv_icmp_ne (tgt := 11) hx hb dJx4a65c_add_72be8_3 (by decide) (fun c_3 => ?_) (fun c_3 => ?_)
  · refine lv_aload_n hx hb dJx4a65c_add_72be8_11 rfl (lv_at hl 2 rfl) ?_
    refine lv_iload_n hx hb dJx4a65c_add_72be8_12 rfl (lv_at hl 3 rfl) ?_
    refine lv_aload_n hx hb dJx4a65c_add_72be8_13 rfl (lv_at hl 1 rfl) ?_
    refine hk_qst X K (hli.2 (by omega)) (hv9.any K) hS (Or.inr (Or.inl ⟨rfl, hn⟩)) (vp_in_nI (by omega) (by omega)) dJx4a65c_add_72be8_14 (fun H1 locsH1 hIH1 hzH1 hqH1 hS => ?_)
    have fH1_L : hk_O E L 0 [.int mc, .ref el, .int (nI n)] H1 := va_at.kept hli.1 (hqH1 _ hne)
    rw [nI_clamp (show n < 2 ^ 31 by omega)] at hIH1
    refine lv_aload_n hx hb dJx4a65c_add_72be8_15 rfl (lv_at hl 0 rfl) ?_
    refine lv_iload_n hx hb dJx4a65c_add_72be8_16 rfl (lv_at hl 3 rfl) ?_
    refine lv_iconst (v := 1) hx hb dJx4a65c_add_72be8_17 (by decide) ?_
    refine lv_iadd hx hb dJx4a65c_add_72be8_18 ?_
    refine lv_topi (fun n1 en1 => ?_)
    rw [nI_1] at en1
    subst en1
    refine hk_put (ref := "java/util/ArrayList") X K fH1_L rfl iJx4a65c_add_72be8_Jx4a65c tyJx4a65c tyJx4a65c_ok nmJx4a65c hS (Or.inl rfl) 2 (by decide) (by decide +kernel) (fun _ h => h) (by decide +kernel) rfl rfl (Nat.le_of_ble_eq_true rfl) dJx4a65c_add_72be8_19 (fun H2 locsH2 hOH2 hzH2 hqH2 hS => ?_)
    have hOH2 : hk_O E L 0 [.int mc, .ref el, .int (nI (n + 1))] H2 := hOH2
    have fH2_el := (hqH2 _ hne.symm).trans hIH1
    exact hk_vret X hr hlk hQ hS (Nat.le_of_ble_eq_true rfl) (Nat.le_of_ble_eq_true rfl) dJx4a65c_add_72be8_22 (⟨rfl, el, cap, ⟨hOH2, fun _ => hk_Qcong fH2_el (fun i hi => ad_eq)⟩, by omega, Or.inl rfl, by omega, Or.inl ⟨rfl, hn⟩⟩)
  · exact absurd (show nI n = nI cap from c_3) (fun h => absurd ((nI_eq (by omega) (by omega)).mp h) (by omega))

theorem hd_Jx4a65c_grow_d5877 : yJx4a65c_grow_d5877.cls ≠ "java/lang/invoke/MethodHandle" ∧ yJx4a65c_grow_d5877.cls ≠ "java/lang/invoke/VarHandle" ∧ (parseMethodDescriptor yJx4a65c_grow_d5877.desc).map (fun d => d.parameters.length) = some 0 := ⟨by decide, by decide, by decide +kernel⟩
abbrev rmadd3_b : Room := { frames := 5, cells := 1, slots := 150, locals := 220 }
set_option maxHeartbeats 4000000 in
set_option maxRecDepth 100000 in
theorem c_add3_b (E : hk_E) (l : Launch) (H0 : Heap) {L el n cap : Nat} {mc : Int32} {x : Nat → Nat} (hli : hk_li E L el n cap mc x H0) (hL : hk_A E L) (hbase : E.2.2.1 ≤ H0.size) (hE : n < cap → hk_A E el) (hne : L ≠ el) (hel : ∀ i, i < n → hk_el E (x i) H0) {v : Nat} (hv9 : hk_el E v H0) (hvL : v ≠ L) (hne9 : ∀ i, i < n → x i ≠ L) (hc : (n = 0 ∧ cap = 0 ∧ el = E.2.2.2.1) ∨ (n = cap ∧ 2 ≤ cap ∧ cap ≤ 100)) : hk_M E l yJx4a65c_add_72be8 wsJx4a65c_add_72be8 rmadd3_b (fun q => q = L ∨ (q = el ∧ n < cap) ∨ H0.size ≤ q) [.ref L, .ref v, .ref el, .int (nI n)] H0 (fun z H1 => z = none ∧ hk_ad E L el n cap mc x v H0 H1) := by
  refine hk_M.ofW (cc := cJx4a65c_add_72be8) (maxL := 4) (ret := none) (by decide +kernel) rfl (Nat.le_of_ble_eq_true rfl) ?_
  intro p e s m args below meth c ls Q hQ X hr hlk hnm K hs9 hS hl
  obtain ⟨hx, hb, hml, hown, hts⟩ := id X
  have hAE : ∀ q, (fun q => q = L ∨ (q = el ∧ n < cap) ∨ H0.size ≤ q) q → hk_A E q := fun q h => h.elim (fun h => by subst h; exact hL) (fun h => h.elim (fun h => by rw [h.1]; exact hE h.2) (fun h => Nat.le_trans hbase h))
  have hl : lv_has ls 4 [(0, .ref L), (1, .ref v), (2, .ref el), (3, .int (nI n))] := hl
  have hnc : n = cap := by omega
  refine lv_iload_n hx hb dJx4a65c_add_72be8_0 rfl (lv_at hl 3 rfl) ?_
  refine lv_aload_n hx hb dJx4a65c_add_72be8_1 rfl (lv_at hl 2 rfl) ?_
  refine hk_llen X K hli (by first | exact Or.inr ⟨hcap, he⟩ | exact hc.elim (fun h => Or.inr h.2) (fun h => Or.inl (by omega))) (K.at hAE hS).2.2.1 dJx4a65c_add_72be8_2 ?_
  refine lv_icmp_ne (tgt := 11) hx hb dJx4a65c_add_72be8_3 (by decide) (fun c_3 => ?_) (fun c_3 => ?_)
  · exact absurd (by rw [hnc]) c_3
  · refine lv_aload_n hx hb dJx4a65c_add_72be8_6 rfl (lv_at hl 0 rfl) ?_
    refine hk_callV 0 (As := []) (rest := []) X K hAE hS hl.1 hli.1 rfl (c_grow0 E l H0 hli hL hbase hc hel) (fun q h => h.elim Or.inl (fun h => Or.inr (Or.inr h))) gJx4a65c_add_72be8_Jx4a65c_grow_d5877 rfl ⟨rfl, hd_Jx4a65c_grow_d5877⟩ rfl ⟨⟨(Nat.le_of_ble_eq_true rfl), (Nat.le_of_ble_eq_true rfl)⟩, (Nat.le_of_ble_eq_true rfl), (Nat.le_of_ble_eq_true rfl)⟩ rfl (Nat.le_of_ble_eq_true rfl) dJx4a65c_add_72be8_7 (fun v9 H1 locsH1 hp hS hzH1 hkH1 => ?_)
    obtain ⟨a, cap9, hv, hg1, hg2, hg6, hg3, hg4, hg5⟩ := hp
    subst hv
    have hkq := hkH1
    refine lv_astore_n (lv' := [(2, .ref a), (0, .ref L), (1, .ref v), (3, .int (nI n))]) hx hb dJx4a65c_add_72be8_10 rfl hl (by decide) rfl (fun ls hl => ?_)
    refine lv_aload_n hx hb dJx4a65c_add_72be8_11 rfl (lv_at hl 0 rfl) ?_
    refine lv_iload_n hx hb dJx4a65c_add_72be8_12 rfl (lv_at hl 3 rfl) ?_
    refine lv_aload_n hx hb dJx4a65c_add_72be8_13 rfl (lv_at hl 2 rfl) ?_
    refine hk_qst X K hg5 ((hv9.kept (hkq v hv9.lt (fun h => h.elim (fun h => hvL h) (fun h => absurd hv9.lt (by omega))))).any K) hS (Or.inr (Or.inr hg1)) (vp_in_nI (by omega) (by omega)) dJx4a65c_add_72be8_14 (fun H2 locsH2 hIH2 hzH2 hqH2 hS => ?_)
    have fH2_L : hk_O E L 0 [.int mc, .ref a, .int (nI n)] H2 := va_at.kept hg4 (hqH2 _ (fun h => absurd (va_at.lt hli.1) (by omega)))
    rw [nI_clamp (show n < 2 ^ 31 by omega)] at hIH2
    refine lv_aload_n hx hb dJx4a65c_add_72be8_15 rfl (lv_at hl 1 rfl) ?_
    refine lv_iload_n hx hb dJx4a65c_add_72be8_16 rfl (lv_at hl 3 rfl) ?_
    refine lv_iconst (v := 1) hx hb dJx4a65c_add_72be8_17 (by decide) ?_
    refine lv_iadd hx hb dJx4a65c_add_72be8_18 ?_
    refine lv_topi (fun n1 en1 => ?_)
    rw [nI_1] at en1
    subst en1
    refine hk_put (ref := "java/util/ArrayList") X K fH2_L rfl iJx4a65c_add_72be8_Jx4a65c tyJx4a65c tyJx4a65c_ok nmJx4a65c hS (Or.inl rfl) 2 (by decide) (by decide +kernel) (fun _ h => h) (by decide +kernel) rfl rfl (Nat.le_of_ble_eq_true rfl) dJx4a65c_add_72be8_19 (fun H3 locsH3 hOH3 hzH3 hqH3 hS => ?_)
    have hOH3 : hk_O E L 0 [.int mc, .ref a, .int (nI (n + 1))] H3 := hOH3
    have fH3_a := (hqH3 _ (fun h => absurd (va_at.lt hli.1) (by omega))).trans hIH2
    exact hk_vret X hr hlk hQ hS (Nat.le_of_ble_eq_true rfl) (Nat.le_of_ble_eq_true rfl) dJx4a65c_add_72be8_22 (⟨rfl, a, cap9, ⟨hOH3, fun _ => hk_Qcong fH3_a (fun i hi => ad_eq)⟩, by omega, Or.inr (by omega), by omega, Or.inr ⟨hg1, by omega⟩⟩)

theorem hd_Jx4a65c_add_72be8 : yJx4a65c_add_72be8.cls ≠ "java/lang/invoke/MethodHandle" ∧ yJx4a65c_add_72be8.cls ≠ "java/lang/invoke/VarHandle" ∧ (parseMethodDescriptor yJx4a65c_add_72be8.desc).map (fun d => d.parameters.length) = some 3 := ⟨by decide, by decide, by decide +kernel⟩
abbrev rmlist_add : Room := { frames := 6, cells := 1, slots := 150, locals := 260 }
theorem iJx4a65c_add_9ea2d_Jx4a65c : ∀ w ∈ wsJx4a65c0, w ∈ wsJx4a65c_add_9ea2d := by decide +kernel
set_option maxHeartbeats 4000000 in
set_option maxRecDepth 100000 in
theorem c_list_add (E : hk_E) (l : Launch) (H0 : Heap) {L el n cap : Nat} {mc : Int32} {x : Nat → Nat} (hli : hk_li E L el n cap mc x H0) (hL : hk_A E L) (hbase : E.2.2.1 ≤ H0.size) (hE : n < cap → hk_A E el) (hne : L ≠ el) (hel : ∀ i, i < n → hk_el E (x i) H0) {v : Nat} (hv9 : hk_el E v H0) (hvL : v ≠ L) (hne9 : ∀ i, i < n → x i ≠ L) (hc : (n < cap ∧ cap ≤ 1000 ∧ 2 ≤ cap) ∨ (n = 0 ∧ cap = 0 ∧ el = E.2.2.2.1) ∨ (n = cap ∧ 2 ≤ cap ∧ cap ≤ 100)) : hk_M E l yJx4a65c_add_9ea2d wsJx4a65c_add_9ea2d rmlist_add (fun q => q = L ∨ (q = el ∧ n < cap) ∨ H0.size ≤ q) [.ref L, .ref v] H0 (fun z H1 => z = some (.int 1) ∧ hk_ad E L el n cap (mc + 1) x v H0 H1) := by
  refine hk_M.ofW (cc := cJx4a65c_add_9ea2d) (maxL := 2) (ret := (some .boolean)) (by decide +kernel) rfl (Nat.le_of_ble_eq_true rfl) ?_
  intro p e s m args below meth c ls Q hQ X hr hlk hnm K hs9 hS hl
  obtain ⟨hx, hb, hml, hown, hts⟩ := id X
  have hAE : ∀ q, (fun q => q = L ∨ (q = el ∧ n < cap) ∨ H0.size ≤ q) q → hk_A E q := fun q h => h.elim (fun h => by subst h; exact hL) (fun h => h.elim (fun h => by rw [h.1]; exact hE h.2) (fun h => Nat.le_trans hbase h))
  have hl : lv_has ls 2 [(0, .ref L), (1, .ref v)] := hl
  refine lv_aload_n hx hb dJx4a65c_add_9ea2d_0 rfl (lv_at hl 0 rfl) ?_
  refine lv_dup hx hb dJx4a65c_add_9ea2d_1 rfl ?_
  refine hk_get (ref := "java/util/ArrayList") (v := .int mc) X K hli.1 rfl iJx4a65c_add_9ea2d_Jx4a65c 0 (by decide) (by decide +kernel) (u_same (hts (.sameField "java/util/ArrayList" "java/util/AbstractList" "modCount" "I") (by decide +kernel))) rfl dJx4a65c_add_9ea2d_2 ?_
  refine lv_iconst (v := 1) hx hb dJx4a65c_add_9ea2d_5 (by decide) ?_
  refine lv_iadd hx hb dJx4a65c_add_9ea2d_6 ?_
  refine lv_topi (fun mc9 emc9 => ?_)
  refine hk_put (ref := "java/util/ArrayList") X K hli.1 rfl iJx4a65c_add_9ea2d_Jx4a65c tyJx4a65c tyJx4a65c_ok nmJx4a65c hS (Or.inl rfl) 0 (by decide) (by decide +kernel) (u_same (hts (.sameField "java/util/ArrayList" "java/util/AbstractList" "modCount" "I") (by decide +kernel))) (by decide +kernel) rfl rfl (Nat.le_of_ble_eq_true rfl) dJx4a65c_add_9ea2d_7 (fun H1 locsH1 hOH1 hzH1 hqH1 hS => ?_)
  have hOH1 : hk_O E L 0 [.int mc9, .ref el, .int (nI n)] H1 := hOH1
  have hO9 : hk_O E L 0 [.int mc9, .ref el, .int (nI n)] H1 := hOH1
  have hI9 : 0 < cap → hk_Q E el cap (fun i => if i < n then some (x i) else none) H1 := fun h => (hqH1 _ hne.symm).trans (hli.2 h)
  have hz9 := hzH1
  have hb9 : E.2.2.1 ≤ H1.size := by omega
  have hel9 : ∀ i, i < n → hk_el E (x i) H1 := fun i hi => (hel i hi).kept (hqH1 _ (fun h => hne9 i hi h))
  have hv99 := hv9.kept (hqH1 _ hvL)
  refine lv_aload_n hx hb dJx4a65c_add_9ea2d_10 rfl (lv_at hl 0 rfl) ?_
  refine lv_aload_n hx hb dJx4a65c_add_9ea2d_11 rfl (lv_at hl 1 rfl) ?_
  refine lv_aload_n hx hb dJx4a65c_add_9ea2d_12 rfl (lv_at hl 0 rfl) ?_
  refine hk_get (ref := "java/util/ArrayList") (v := .ref el) X K hOH1 rfl iJx4a65c_add_9ea2d_Jx4a65c 1 (by decide) (by decide +kernel) (fun _ h => h) rfl dJx4a65c_add_9ea2d_13 ?_
  refine lv_aload_n hx hb dJx4a65c_add_9ea2d_16 rfl (lv_at hl 0 rfl) ?_
  refine hk_get (ref := "java/util/ArrayList") (v := .int (nI n)) X K hOH1 rfl iJx4a65c_add_9ea2d_Jx4a65c 2 (by decide) (by decide +kernel) (fun _ h => h) rfl dJx4a65c_add_9ea2d_17 ?_
  refine hk_callV 3 (As := [.ref v, .ref el, .int (nI n)]) (rest := []) X K hAE hS hl.1 hOH1 rfl ((show hk_M E l yJx4a65c_add_72be8 wsJx4a65c_add_72be8 rmadd3_a (fun q => q = L ∨ (q = el ∧ n < cap) ∨ H1.size ≤ q) [.ref L, .ref v, .ref el, .int (nI n)] H1 (fun z Z9 => z = none ∧ hk_ad E L el n cap mc9 x v H1 Z9) from hc.elim (fun h => c_add3_a E l H1 ⟨hO9, hI9⟩ hL hb9 hE hne hel9 hv99 hvL hne9 h.1 h.2.1 h.2.2) (fun h => c_add3_b E l H1 ⟨hO9, hI9⟩ hL hb9 hE hne hel9 hv99 hvL hne9 h))) (fun q h => h.elim Or.inl (fun h => Or.inr (h.elim Or.inl (fun h => Or.inr (by rw [← hz9]; exact h))))) gJx4a65c_add_9ea2d_Jx4a65c_add_72be8 rfl ⟨rfl, hd_Jx4a65c_add_72be8⟩ rfl ⟨⟨(Nat.le_of_ble_eq_true rfl), (Nat.le_of_ble_eq_true rfl)⟩, (Nat.le_of_ble_eq_true rfl), (Nat.le_of_ble_eq_true rfl)⟩ rfl (Nat.le_of_ble_eq_true rfl) dJx4a65c_add_9ea2d_20 (fun v9 H2 locsH2 hp hS hzH2 hkH2 => ?_)
  obtain ⟨hv, hp⟩ := hp
  subst hv
  refine lv_iconst (v := 1) hx hb dJx4a65c_add_9ea2d_23 (by decide) ?_
  exact hk_zret X hr hlk hQ hS (Nat.le_of_ble_eq_true rfl) (Nat.le_of_ble_eq_true rfl) dJx4a65c_add_9ea2d_24 (by decide) (⟨rfl, by rw [← emc9]; exact hk_ad_H hp (by omega)⟩)

