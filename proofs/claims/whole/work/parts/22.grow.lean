theorem max1 {k : Nat} (h : 1 ≤ k) (hk : k < 2 ^ 31) : (if (1 : Int32) < nI k then nI k else 1) = nI k := by
  by_cases h2 : k = 1
  · subst h2; decide
  · rw [if_pos (show (1 : Int32) < nI k from nI_lt (a := 1) (by omega) hk)]
theorem hk_c0 : (0 : Int32).toNatClampNeg = 0 := by decide
theorem half1 {c : Nat} (h : c < 2 ^ 31) : nI c >>> ((1 : Int32) &&& 31) = nI (c / 2) := by
  have k := pk_shrN h ((1 : Int32) &&& 31) 1 (by decide)
  rw [Nat.pow_one] at k
  exact k
theorem min_le {a b : Nat} (h : a ≤ b) (hb : b < 2 ^ 31) : (if nI b < nI a then nI b else nI a) = nI a := if_neg (nI_nlt h hb)

abbrev rmJ8_newLength_cabcc : Room := { frames := 1, cells := 0, slots := 0, locals := 60 }
set_option maxHeartbeats 4000000 in
set_option maxRecDepth 100000 in
theorem c_J8_newLength_cabcc (E : hk_E) (l : Launch) (H0 : Heap) {c9 : Nat} (h2 : 2 ≤ c9) (hc : c9 ≤ 1000) : hk_M E l yJ8_newLength_cabcc wsJ8_newLength_cabcc rmJ8_newLength_cabcc (fun _ => False) [.int (nI c9), .int 1, .int (nI (c9 / 2))] H0 (fun z H1 => z = some (.int (nI (c9 + c9 / 2))) ∧ H0 = H1) := by
  refine hk_M.ofW (cc := cJ8_newLength_cabcc) (maxL := 4) (ret := (some .int)) (by decide +kernel) rfl (Nat.le_of_ble_eq_true rfl) ?_
  intro p e s m args below meth c ls Q hQ X hr hlk hnm K hs9 hS hl
  obtain ⟨hx, hb, hml, hown, hts⟩ := id X
  have hAE : ∀ q, (fun _ => False) q → hk_A E q := fun _ h => h.elim
  have hl : lv_has ls 4 [(0, .int (nI c9)), (1, .int 1), (2, .int (nI (c9 / 2)))] := hl
  refine lv_iload_n hx hb dJ8_newLength_cabcc_0 rfl (lv_at hl 0 rfl) ?_
  refine lv_iload_n hx hb dJ8_newLength_cabcc_1 rfl (lv_at hl 1 rfl) ?_
  refine lv_iload_n hx hb dJ8_newLength_cabcc_2 rfl (lv_at hl 2 rfl) ?_
  refine va_mmax (rest := [.int (nI c9)]) hx hb (by rw [hml]; exact hl.1.symm) hown (hts (.methodLink RJ8 194 Lib.Math.max.name) (by decide +kernel)) (hts (.static Lib.Math.max.name) (by decide +kernel)) (hts (.initialized "java/lang/Math") (by decide +kernel)) (hts (.code Lib.Math.max.name Lib.Math.max.code 2 (some .int)) (by decide +kernel)) (Nat.le_of_ble_eq_true rfl) (Nat.le_of_ble_eq_true rfl) (Nat.zero_le _) (Nat.zero_le _) dJ8_newLength_cabcc_3 ?_
  refine lv_topi (fun mx emx => ?_)
  rw [max1 (by omega) (by omega)] at emx
  subst emx
  refine lv_iadd hx hb dJ8_newLength_cabcc_6 ?_
  refine lv_topi (fun nl enl => ?_)
  rw [nI_add] at enl
  subst enl
  refine lv_istore_n (lv' := [(3, .int (nI (c9 + c9 / 2))), (0, .int (nI c9)), (1, .int 1), (2, .int (nI (c9 / 2)))]) hx hb dJ8_newLength_cabcc_7 rfl hl (by decide) rfl (fun ls hl => ?_)
  refine lv_iconst (v := 0) hx hb dJ8_newLength_cabcc_8 (by decide) ?_
  refine lv_iload_n hx hb dJ8_newLength_cabcc_9 rfl (lv_at hl 0 rfl) ?_
  refine lv_icmp_ge (tgt := 21) hx hb dJ8_newLength_cabcc_10 (by decide) (fun c_10 => ?_) (fun c_10 => ?_)
  · exact absurd c_10 (nI_nle (by omega) (by omega))
  · refine lv_iload_n hx hb dJ8_newLength_cabcc_13 rfl (lv_at hl 0 rfl) ?_
    refine lv_ldc hx hb hown (hts (.constant RJ8 200 (2147483639)) (by decide +kernel)) dJ8_newLength_cabcc_14 ?_
    refine lv_icmp_gt (tgt := 21) hx hb dJ8_newLength_cabcc_16 (by decide) (fun c_16 => ?_) (fun c_16 => ?_)
    · exact absurd c_16 (show ¬ nI 2147483639 < nI (c9 + c9 / 2) from nI_nlt (by omega) (by decide))
    · refine lv_iload_n hx hb dJ8_newLength_cabcc_19 rfl (lv_at hl 0 rfl) ?_
      exact hk_iret X hr hlk hQ hS (Nat.le_of_ble_eq_true rfl) (Nat.le_of_ble_eq_true rfl) dJ8_newLength_cabcc_20 (⟨rfl, rfl⟩)

theorem cpy_eq {f : Nat → Option Nat} {c k i : Nat} (h : i < k) : va_cpy f (fun _ => none) 0 0 c i = (if i < c then f i else none) := by
  unfold va_cpy
  by_cases hi : i < c
  · rw [if_pos ⟨Nat.zero_le _, by omega⟩, if_pos hi]; congr 1; omega
  · rw [if_neg (by omega), if_neg hi]

abbrev rmJ7_copyOf_6403c : Room := { frames := 1, cells := 1, slots := 150, locals := 60 }
set_option maxHeartbeats 4000000 in
set_option maxRecDepth 100000 in
theorem c_J7_copyOf_6403c (E : hk_E) (l : Launch) (H0 : Heap) {el c9 k9 : Nat} {f : Nat → Option Nat} (hQ0 : hk_Q E el c9 f H0) (hc : c9 ≤ k9) (hk : k9 ≤ 150) (hel : ∀ i, i < c9 → ∀ y, f i = some y → hk_el E y H0) (hbase : E.2.2.1 ≤ H0.size) : hk_M E l yJ7_copyOf_6403c wsJ7_copyOf_6403c rmJ7_copyOf_6403c (fun q => H0.size ≤ q) [.ref el, .int (nI k9), .ref E.2.2.2.2] H0 (fun z H1 => ∃ a, z = some (.ref a) ∧ a = H0.size ∧ hk_Q E a k9 (fun i => if i < c9 then f i else none) H1) := by
  refine hk_M.ofW (cc := cJ7_copyOf_6403c) (maxL := 4) (ret := (some (.array (.object "java/lang/Object")))) (by decide +kernel) rfl (Nat.le_of_ble_eq_true rfl) ?_
  intro p e s m args below meth c ls Q hQ X hr hlk hnm K hs9 hS hl
  obtain ⟨hx, hb, hml, hown, hts⟩ := id X
  have hAE : ∀ q, (fun q => H0.size ≤ q) q → hk_A E q := fun q h => Nat.le_trans hbase h
  have hl : lv_has ls 4 [(0, .ref el), (1, .int (nI k9)), (2, .ref E.2.2.2.2)] := hl
  refine lv_aload_n hx hb dJ7_copyOf_6403c_0 rfl (lv_at hl 2 rfl) ?_
  refine va_ldcM hx hb hown (hts (.classLink RJ7 110 "[Ljava/lang/Object;") (by decide +kernel)) K.2.2.2.2.1.2.1 dJ7_copyOf_6403c_1 ?_
  refine lv_acmp_ne (rx := some E.2.2.2.2) (ry := some E.2.2.2.2) (tgt := 13) hx hb dJ7_copyOf_6403c_3 (by decide) (fun c_3 => absurd rfl c_3) (fun _ => ?_)
  refine lv_iload_n hx hb dJ7_copyOf_6403c_6 rfl (lv_at hl 1 rfl) ?_
  refine hk_newq (N := k9) X K (by decide +kernel) hS (nI_pos (by omega)) (nI_clamp (by omega)) (by omega) (Nat.le_of_ble_eq_true rfl) (by show 0 + k9 ≤ 150; omega) dJ7_copyOf_6403c_7 (fun H1 hIH1 hzH1 hqH1 hS => ?_)
  obtain ⟨a2, ea2⟩ : ∃ z : Nat, z = H0.size := ⟨_, rfl⟩
  rw [← ea2] at hIH1 ⊢
  have fH1_el := (hqH1 _ (Array.getElem?_eq_some_iff.mp hQ0).1).trans hQ0
  refine W.widen (k := 1) (n := 150) (Nat.le_refl _) (by omega) ?_
  refine lv_goto (tgt := 24) hx hb dJ7_copyOf_6403c_10 (by decide) ?_
  refine lv_astore_n (lv' := [(3, .ref a2), (0, .ref el), (1, .int (nI k9)), (2, .ref E.2.2.2.2)]) hx hb dJ7_copyOf_6403c_24 rfl hl (by decide) rfl (fun ls hl => ?_)
  refine lv_aload_n hx hb dJ7_copyOf_6403c_25 rfl (lv_at hl 1 rfl) ?_
  refine lv_iconst (v := 0) hx hb dJ7_copyOf_6403c_26 (by decide) ?_
  refine lv_aload_n hx hb dJ7_copyOf_6403c_27 rfl (lv_at hl 0 rfl) ?_
  refine lv_iconst (v := 0) hx hb dJ7_copyOf_6403c_28 (by decide) ?_
  refine lv_aload_n hx hb dJ7_copyOf_6403c_29 rfl (lv_at hl 1 rfl) ?_
  refine hk_qlen X K fH1_el dJ7_copyOf_6403c_30 ?_
  refine lv_iload_n hx hb dJ7_copyOf_6403c_31 rfl (lv_at hl 2 rfl) ?_
  refine va_mmin (rest := [.int 0, .ref a2, .int 0, .ref el]) hx hb (by rw [hml]; exact hl.1.symm) hown (hts (.methodLink RJ7 304 Lib.Math.min.name) (by decide +kernel)) (hts (.static Lib.Math.min.name) (by decide +kernel)) (hts (.initialized "java/lang/Math") (by decide +kernel)) (hts (.code Lib.Math.min.name Lib.Math.min.code 2 (some .int)) (by decide +kernel)) (Nat.le_of_ble_eq_true rfl) (Nat.le_of_ble_eq_true rfl) (Nat.le_of_ble_eq_true rfl) (Nat.le_of_ble_eq_true rfl) dJ7_copyOf_6403c_32 ?_
  refine lv_topi (fun mn emn => ?_)
  rw [min_le hc (by omega)] at emn
  subst emn
  have bH3 : 0 < 2 ^ 31 ∧ 0 < 2 ^ 31 ∧ c9 < 2 ^ 31 := by omega
  refine hk_cpyq (rest := []) X K fH1_el hIH1 (by decide +kernel) (by decide +kernel) (by decide +kernel) (by decide +kernel) (by decide) (by decide) (nI_pos bH3.2.2) (by rw [hk_c0, nI_clamp bH3.2.2]; omega) (by rw [hk_c0, nI_clamp bH3.2.2]; omega) (by intro i hi y hy; rw [nI_clamp (show c9 < 2 ^ 31 by omega)] at hi; rw [hk_c0, Nat.zero_add] at hy; exact (hel i hi y hy).kept (hqH1 _ (hel i hi y hy).lt)) hS (Nat.le_of_eq ea2.symm) hl.1 (Nat.le_of_ble_eq_true rfl) (Nat.le_of_ble_eq_true rfl) dJ7_copyOf_6403c_35 (fun H3 locsH3 hIH3 hzH3 hqH3 hS => ?_)
  rw [hk_c0, nI_clamp bH3.2.2] at hIH3
  have fH3_el := (hqH3 _ (fun h => absurd (Array.getElem?_eq_some_iff.mp hQ0).1 (by omega))).trans fH1_el
  refine lv_aload_n hx hb dJ7_copyOf_6403c_38 rfl (lv_at hl 0 rfl) ?_
  exact hk_aret X hr (Or.inr ⟨_, rfl⟩) hlk hQ hS (Nat.le_of_ble_eq_true rfl) (Nat.le_of_ble_eq_true rfl) dJ7_copyOf_6403c_39 (⟨a2, rfl, by assumption, hk_Qcong hIH3 (fun i hi => cpy_eq hi)⟩)

theorem hd_J7_copyOf_6403c : yJ7_copyOf_6403c.cls ≠ "java/lang/invoke/MethodHandle" ∧ yJ7_copyOf_6403c.cls ≠ "java/lang/invoke/VarHandle" ∧ (parseMethodDescriptor yJ7_copyOf_6403c.desc).map (fun d => d.parameters.length) = some 3 := ⟨by decide, by decide, by decide +kernel⟩
abbrev rmJ7_copyOf_1904c : Room := { frames := 2, cells := 1, slots := 150, locals := 100 }
set_option maxHeartbeats 4000000 in
set_option maxRecDepth 100000 in
theorem c_J7_copyOf_1904c (E : hk_E) (l : Launch) (H0 : Heap) {el c9 k9 : Nat} {f : Nat → Option Nat} (hQ0 : hk_Q E el c9 f H0) (hc : c9 ≤ k9) (hk : k9 ≤ 150) (hel : ∀ i, i < c9 → ∀ y, f i = some y → hk_el E y H0) (hbase : E.2.2.1 ≤ H0.size) : hk_M E l yJ7_copyOf_1904c wsJ7_copyOf_1904c rmJ7_copyOf_1904c (fun q => H0.size ≤ q) [.ref el, .int (nI k9)] H0 (fun z H1 => ∃ a, z = some (.ref a) ∧ a = H0.size ∧ hk_Q E a k9 (fun i => if i < c9 then f i else none) H1) := by
  refine hk_M.ofW (cc := cJ7_copyOf_1904c) (maxL := 2) (ret := (some (.array (.object "java/lang/Object")))) (by decide +kernel) rfl (Nat.le_of_ble_eq_true rfl) ?_
  intro p e s m args below meth c ls Q hQ X hr hlk hnm K hs9 hS hl
  obtain ⟨hx, hb, hml, hown, hts⟩ := id X
  have hAE : ∀ q, (fun q => H0.size ≤ q) q → hk_A E q := fun q h => Nat.le_trans hbase h
  have hl : lv_has ls 2 [(0, .ref el), (1, .int (nI k9))] := hl
  refine lv_aload_n hx hb dJ7_copyOf_1904c_0 rfl (lv_at hl 0 rfl) ?_
  refine lv_iload_n hx hb dJ7_copyOf_1904c_1 rfl (lv_at hl 1 rfl) ?_
  refine lv_aload_n hx hb dJ7_copyOf_1904c_2 rfl (lv_at hl 0 rfl) ?_
  obtain ⟨cm, hm1⟩ : ∃ cm : Cell, cm = vp_cell (E.2.1 3) (c9, .inr (.inr (.inr (.inr f)))) := ⟨_, rfl⟩
  have hcl9 : s.vm.findClass "[Ljava/lang/Object;" = some (E.2.1 3) := va_nmO (K.1.2 3 _ rfl).2 rfl
  refine va_getC (C := "[Ljava/lang/Object;") (rest := [.int (nI k9), .ref el]) hx hb (by rw [hml]; exact hl.1.symm) hown (hts (.methodLink RJ7 86 ⟨"java/lang/Object", "getClass", "()Ljava/lang/Class;"⟩) (by decide +kernel)) (K.2.2.2.2.1.2.2.1.use) (hts (.selects "[Ljava/lang/Object;" ⟨"java/lang/Object", "getClass", "()Ljava/lang/Class;"⟩ ⟨"java/lang/Object", "getClass", "()Ljava/lang/Class;"⟩) (by decide +kernel)) (hts (.instanceMethod ⟨"java/lang/Object", "getClass", "()Ljava/lang/Class;"⟩) (by decide +kernel)) (hts (.native ⟨"java/lang/Object", "getClass", "()Ljava/lang/Class;"⟩) (by decide +kernel)) K.2.2.2.2.1.2.1 ⟨_, hQ0, rfl, hcl9⟩ (Nat.le_of_ble_eq_true rfl) (Nat.le_of_ble_eq_true rfl) dJ7_copyOf_1904c_3 ?_
  refine hk_callS 3 (As := [.ref el, .int (nI k9), .ref E.2.2.2.2]) (rest := []) X K hAE hS hl.1 (c_J7_copyOf_6403c E l H0 hQ0 hc hk hel hbase) (fun q h => h) gJ7_copyOf_1904c_J7_copyOf_6403c rfl hd_J7_copyOf_6403c rfl ⟨⟨(Nat.le_of_ble_eq_true rfl), (Nat.le_of_ble_eq_true rfl)⟩, (Nat.le_of_ble_eq_true rfl), (Nat.le_of_ble_eq_true rfl)⟩ rfl (Nat.le_of_ble_eq_true rfl) dJ7_copyOf_1904c_6 (fun v9 H1 locsH1 hp hS hzH1 hkH1 => ?_)
  obtain ⟨a, hv, ha, hQ1⟩ := hp
  subst hv
  exact hk_aret X hr (Or.inr ⟨_, rfl⟩) hlk hQ hS (Nat.le_of_ble_eq_true rfl) (Nat.le_of_ble_eq_true rfl) dJ7_copyOf_1904c_9 (⟨_, rfl, ha, hQ1⟩)

/-- what a list's growth answers: a new array, more places, the same elements -/
def hk_gr (E : hk_E) (L n : Nat) (mc : Int32) (x : Nat → Nat) (H0 : Heap) : Option Value → Heap → Prop := fun v H1 => ∃ a cap', v = some (.ref a) ∧ H0.size ≤ a ∧ n < cap' ∧ cap' ≤ 150 ∧ hk_O E L 0 [.int mc, .ref a, .int (nI n)] H1 ∧ hk_Q E a cap' (fun i => if i < n then some (x i) else none) H1
theorem hk_Zs {E : hk_E} {s : State} (K : hk_K E s s.heap) {A : Nat → Prop} (hA : ∀ q, A q → hk_A E q) : va_Z "java/util/ArrayList" "DEFAULTCAPACITY_EMPTY_ELEMENTDATA" "[Ljava/lang/Object;" (.ref E.2.2.2.1) A s s.heap := K.2.1.narrow hA

abbrev rmgrow_a : Room := { frames := 3, cells := 1, slots := 150, locals := 140 }
theorem iJx4a65c_grow_92f84_Jx4a65c : ∀ w ∈ wsJx4a65c0, w ∈ wsJx4a65c_grow_92f84 := by decide +kernel
set_option maxHeartbeats 4000000 in
set_option maxRecDepth 100000 in
theorem c_grow_a (E : hk_E) (l : Launch) (H0 : Heap) {L el n cap : Nat} {mc : Int32} {x : Nat → Nat} (hli : hk_li E L el n cap mc x H0) (hL : hk_A E L) (hbase : E.2.2.1 ≤ H0.size) (hn : n = 0) (hcap : cap = 0) (he : el = E.2.2.2.1) : hk_M E l yJx4a65c_grow_92f84 wsJx4a65c_grow_92f84 rmgrow_a (fun q => q = L ∨ H0.size ≤ q) [.ref L, .int (nI 1)] H0 (hk_gr E L n mc x H0) := by
  refine hk_M.ofW (cc := cJx4a65c_grow_92f84) (maxL := 4) (ret := (some (.array (.object "java/lang/Object")))) (by decide +kernel) rfl (Nat.le_of_ble_eq_true rfl) ?_
  intro p e s m args below meth c ls Q hQ X hr hlk hnm K hs9 hS hl
  obtain ⟨hx, hb, hml, hown, hts⟩ := id X
  have hAE : ∀ q, (fun q => q = L ∨ H0.size ≤ q) q → hk_A E q := fun q h => h.elim (fun h => by subst h; exact hL) (fun h => Nat.le_trans hbase h)
  have hl : lv_has ls 4 [(0, .ref L), (1, .int (nI 1))] := hl
  refine lv_aload_n hx hb dJx4a65c_grow_92f84_0 rfl (lv_at hl 0 rfl) ?_
  refine hk_get (ref := "java/util/ArrayList") X K hli.1 rfl iJx4a65c_grow_92f84_Jx4a65c 1 (by decide) (by decide +kernel) (fun _ h => h) rfl dJx4a65c_grow_92f84_1 ?_
  refine hk_qlen X K hli.2 dJx4a65c_grow_92f84_4 ?_
  refine lv_istore_n (lv' := [(2, .int (nI cap)), (0, .ref L), (1, .int (nI 1))]) hx hb dJx4a65c_grow_92f84_5 rfl hl (by decide) rfl (fun ls hl => ?_)
  refine lv_iload_n hx hb dJx4a65c_grow_92f84_6 rfl (lv_at hl 0 rfl) ?_
  refine lv_if_gt (tgt := 20) hx hb dJx4a65c_grow_92f84_7 (by decide) (fun c_7 => ?_) (fun c_7 => ?_)
  · exact absurd c_7 (by rw [hcap]; decide)
  · refine lv_aload_n hx hb dJx4a65c_grow_92f84_10 rfl (lv_at hl 1 rfl) ?_
    refine hk_get (ref := "java/util/ArrayList") X K hli.1 rfl iJx4a65c_grow_92f84_Jx4a65c 1 (by decide) (by decide +kernel) (fun _ h => h) rfl dJx4a65c_grow_92f84_11 ?_
    refine va_gets hx hb (hk_Zs K hAE) hS hown (hts (.fieldLink RJx4a65c 39 "java/util/ArrayList" "DEFAULTCAPACITY_EMPTY_ELEMENTDATA" "[Ljava/lang/Object;") (by decide +kernel)) (fun _ h => h) dJx4a65c_grow_92f84_14 ?_
    refine lv_acmp_eq (rx := some el) (ry := some E.2.2.2.1) (tgt := 45) hx hb dJx4a65c_grow_92f84_17 (by decide) (fun _ => ?_) (fun c_17 => absurd (congrArg some he) c_17)
    refine lv_aload_n hx hb dJx4a65c_grow_92f84_45 rfl (lv_at hl 1 rfl) ?_
    refine lv_bipush (v := 10) hx hb dJx4a65c_grow_92f84_46 (by decide) ?_
    refine lv_iload_n hx hb dJx4a65c_grow_92f84_48 rfl (lv_at hl 2 rfl) ?_
    refine va_mmax (rest := [.ref L]) hx hb (by rw [hml]; exact hl.1.symm) hown (hts (.methodLink RJx4a65c 79 Lib.Math.max.name) (by decide +kernel)) (hts (.static Lib.Math.max.name) (by decide +kernel)) (hts (.initialized "java/lang/Math") (by decide +kernel)) (hts (.code Lib.Math.max.name Lib.Math.max.code 2 (some .int)) (by decide +kernel)) (Nat.le_of_ble_eq_true rfl) (Nat.le_of_ble_eq_true rfl) (Nat.zero_le _) (Nat.zero_le _) dJx4a65c_grow_92f84_49 ?_
    refine lv_topi (fun mx emx => ?_)
    rw [show (if (10 : Int32) < nI 1 then nI 1 else 10) = 10 from by decide] at emx
    subst emx
    refine hk_newq (N := 10) X K (by decide +kernel) hS (by decide) (by decide) (by decide) (Nat.le_of_ble_eq_true rfl) (Nat.le_of_ble_eq_true rfl) dJx4a65c_grow_92f84_52 (fun H1 hIH1 hzH1 hqH1 hS => ?_)
    obtain ⟨a2, ea2⟩ : ∃ z : Nat, z = H0.size := ⟨_, rfl⟩
    rw [← ea2] at hIH1 ⊢
    have fH1_L : hk_O E L 0 [.int mc, .ref el, .int (nI n)] H1 := va_at.kept hli.1 (hqH1 _ (va_at.lt hli.1))
    refine lv_dup_x1 hx hb dJx4a65c_grow_92f84_55 rfl rfl ?_
    refine hk_put (ref := "java/util/ArrayList") X K fH1_L rfl iJx4a65c_grow_92f84_Jx4a65c tyJx4a65c tyJx4a65c_ok nmJx4a65c hS (Or.inl rfl) 1 (by decide) (by decide +kernel) (fun _ h => h) (by decide +kernel) rfl rfl (Nat.le_of_ble_eq_true rfl) dJx4a65c_grow_92f84_56 (fun H3 locsH3 hOH3 hzH3 hqH3 hS => ?_)
    have hOH3 : hk_O E L 0 [.int mc, .ref a2, .int (nI n)] H3 := hOH3
    have fH3_a2 := (hqH3 _ (fun h => absurd (va_at.lt hli.1) (by omega))).trans hIH1
    exact hk_aret X hr (Or.inr ⟨_, rfl⟩) hlk hQ hS (Nat.le_of_ble_eq_true rfl) (Nat.le_of_ble_eq_true rfl) dJx4a65c_grow_92f84_59 (⟨_, 10, rfl, by omega, by omega, by omega, hOH3, hk_Qcong fH3_a2 (fun i hi => by rw [if_neg (by omega)])⟩)

