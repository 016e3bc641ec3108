abbrev rmJ9_floorDiv_7cf53 : Room := { frames := 0, cells := 0, slots := 0, locals := 0 }
set_option maxHeartbeats 4000000 in
set_option maxRecDepth 100000 in
theorem c_J9_floorDiv_7cf53 (E : hk_E) (l : Launch) (H0 : Heap) {n d : Int32} (hd : 0 < d) : hk_M E l yJ9_floorDiv_7cf53 wsJ9_floorDiv_7cf53 rmJ9_floorDiv_7cf53 (fun _ => False) [.int n, .int d] H0 (fun x H1 => x = some (.int (qd n d)) ∧ H0 = H1) := by
  refine hk_M.ofW (cc := cJ9_floorDiv_7cf53) (maxL := 3) (ret := (some .int)) (by decide +kernel) rfl (Nat.le_of_ble_eq_true rfl) ?_
  intro p e s m args below meth c ls Q hQ X hr hlk hnm K hs9 hS hl
  obtain ⟨hx, hb, hml, hown, hts⟩ := id X
  have hAE : ∀ q, (fun _ => False) q → hk_A E q := fun _ h => h.elim
  have hl : lv_has ls 3 [(0, .int n), (1, .int d)] := hl
  refine lv_iload_n hx hb dJ9_floorDiv_7cf53_0 rfl (lv_at hl 0 rfl) ?_
  refine lv_iload_n hx hb dJ9_floorDiv_7cf53_1 rfl (lv_at hl 1 rfl) ?_
  refine lv_idiv hx hb dJ9_floorDiv_7cf53_2 (fun h => by rw [h] at hd; exact absurd hd (by decide)) ?_
  refine lv_topi (fun q eq => ?_)
  refine lv_istore_n (lv' := [(2, .int q), (0, .int n), (1, .int d)]) hx hb dJ9_floorDiv_7cf53_3 rfl hl (by decide) rfl (fun ls hl => ?_)
  refine lv_iload_n hx hb dJ9_floorDiv_7cf53_4 rfl (lv_at hl 1 rfl) ?_
  refine lv_iload_n hx hb dJ9_floorDiv_7cf53_5 rfl (lv_at hl 2 rfl) ?_
  refine lv_ixor hx hb dJ9_floorDiv_7cf53_6 ?_
  refine lv_if_ge (tgt := 21) hx hb dJ9_floorDiv_7cf53_7 (by decide) (fun c_7 => ?_) (fun c_7 => ?_)
  · refine lv_iload_n hx hb dJ9_floorDiv_7cf53_21 rfl (lv_at hl 0 rfl) ?_
    exact hk_iret X hr hlk hQ hS (Nat.le_of_ble_eq_true rfl) (Nat.le_of_ble_eq_true rfl) dJ9_floorDiv_7cf53_22 (⟨by rw [eq, qd_a hd c_7], rfl⟩)
  · refine lv_iload_n hx hb dJ9_floorDiv_7cf53_10 rfl (lv_at hl 0 rfl) ?_
    refine lv_iload_n hx hb dJ9_floorDiv_7cf53_11 rfl (lv_at hl 2 rfl) ?_
    refine lv_imul hx hb dJ9_floorDiv_7cf53_12 ?_
    refine lv_iload_n hx hb dJ9_floorDiv_7cf53_13 rfl (lv_at hl 1 rfl) ?_
    refine lv_icmp_eq (tgt := 21) hx hb dJ9_floorDiv_7cf53_14 (by decide) (fun c_14 => ?_) (fun c_14 => ?_)
    · 
      refine lv_iload_n hx hb dJ9_floorDiv_7cf53_21 rfl (lv_at hl 0 rfl) ?_
      exact hk_iret X hr hlk hQ hS (Nat.le_of_ble_eq_true rfl) (Nat.le_of_ble_eq_true rfl) dJ9_floorDiv_7cf53_22 (⟨by rw [eq, qd_b hd (by rw [← eq]; exact c_14)], rfl⟩)
    · refine lv_iload_n hx hb dJ9_floorDiv_7cf53_17 rfl (lv_at hl 0 rfl) ?_
      refine lv_iconst (v := 1) hx hb dJ9_floorDiv_7cf53_18 (by decide) ?_
      refine lv_isub hx hb dJ9_floorDiv_7cf53_19 ?_
      exact hk_iret X hr hlk hQ hS (Nat.le_of_ble_eq_true rfl) (Nat.le_of_ble_eq_true rfl) dJ9_floorDiv_7cf53_20 (⟨by rw [eq, qd_c hd c_7 (by rw [← eq]; exact c_14)], rfl⟩)

abbrev rmJ9_floorMod_7cf53 : Room := { frames := 0, cells := 0, slots := 0, locals := 0 }
set_option maxHeartbeats 4000000 in
set_option maxRecDepth 100000 in
theorem c_J9_floorMod_7cf53 (E : hk_E) (l : Launch) (H0 : Heap) {n d : Int32} (hd : 0 < d) : hk_M E l yJ9_floorMod_7cf53 wsJ9_floorMod_7cf53 rmJ9_floorMod_7cf53 (fun _ => False) [.int n, .int d] H0 (fun x H1 => x = some (.int (rmd n d)) ∧ H0 = H1) := by
  refine hk_M.ofW (cc := cJ9_floorMod_7cf53) (maxL := 3) (ret := (some .int)) (by decide +kernel) rfl (Nat.le_of_ble_eq_true rfl) ?_
  intro p e s m args below meth c ls Q hQ X hr hlk hnm K hs9 hS hl
  obtain ⟨hx, hb, hml, hown, hts⟩ := id X
  have hAE : ∀ q, (fun _ => False) q → hk_A E q := fun _ h => h.elim
  have hl : lv_has ls 3 [(0, .int n), (1, .int d)] := hl
  refine lv_iload_n hx hb dJ9_floorMod_7cf53_0 rfl (lv_at hl 0 rfl) ?_
  refine lv_iload_n hx hb dJ9_floorMod_7cf53_1 rfl (lv_at hl 1 rfl) ?_
  refine lv_irem hx hb dJ9_floorMod_7cf53_2 (fun h => by rw [h] at hd; exact absurd hd (by decide)) ?_
  refine lv_topi (fun q eq => ?_)
  refine lv_istore_n (lv' := [(2, .int q), (0, .int n), (1, .int d)]) hx hb dJ9_floorMod_7cf53_3 rfl hl (by decide) rfl (fun ls hl => ?_)
  refine lv_iload_n hx hb dJ9_floorMod_7cf53_4 rfl (lv_at hl 1 rfl) ?_
  refine lv_iload_n hx hb dJ9_floorMod_7cf53_5 rfl (lv_at hl 2 rfl) ?_
  refine lv_ixor hx hb dJ9_floorMod_7cf53_6 ?_
  refine lv_if_ge (tgt := 18) hx hb dJ9_floorMod_7cf53_7 (by decide) (fun c_7 => ?_) (fun c_7 => ?_)
  · refine lv_iload_n hx hb dJ9_floorMod_7cf53_18 rfl (lv_at hl 0 rfl) ?_
    exact hk_iret X hr hlk hQ hS (Nat.le_of_ble_eq_true rfl) (Nat.le_of_ble_eq_true rfl) dJ9_floorMod_7cf53_19 (⟨by rw [eq, rmd_a hd c_7], rfl⟩)
  · refine lv_iload_n hx hb dJ9_floorMod_7cf53_10 rfl (lv_at hl 0 rfl) ?_
    refine lv_if_eq (tgt := 18) hx hb dJ9_floorMod_7cf53_11 (by decide) (fun c_11 => ?_) (fun c_11 => ?_)
    · 
      refine lv_iload_n hx hb dJ9_floorMod_7cf53_18 rfl (lv_at hl 0 rfl) ?_
      exact hk_iret X hr hlk hQ hS (Nat.le_of_ble_eq_true rfl) (Nat.le_of_ble_eq_true rfl) dJ9_floorMod_7cf53_19 (⟨by rw [eq, rmd_b (by rw [← eq]; exact c_11)], rfl⟩)
    · refine lv_iload_n hx hb dJ9_floorMod_7cf53_14 rfl (lv_at hl 0 rfl) ?_
      refine lv_iload_n hx hb dJ9_floorMod_7cf53_15 rfl (lv_at hl 2 rfl) ?_
      refine lv_iadd hx hb dJ9_floorMod_7cf53_16 ?_
      exact hk_iret X hr hlk hQ hS (Nat.le_of_ble_eq_true rfl) (Nat.le_of_ble_eq_true rfl) dJ9_floorMod_7cf53_17 (⟨by rw [eq, rmd_c hd c_7 (by rw [← eq]; exact c_11)], rfl⟩)

abbrev rmJ3_checkIndex_8e157 : Room := { frames := 0, cells := 0, slots := 0, locals := 0 }
set_option maxHeartbeats 4000000 in
set_option maxRecDepth 100000 in
theorem c_J3_checkIndex_8e157 (E : hk_E) (l : Launch) (H0 : Heap) {i n : Int32} (h0 : ¬ i < 0) (h1 : i < n) : hk_M E l yJ3_checkIndex_8e157 wsJ3_checkIndex_8e157 rmJ3_checkIndex_8e157 (fun _ => False) [.int i, .int n, .null] H0 (fun x H1 => x = some (.int i) ∧ H0 = H1) := by
  refine hk_M.ofW (cc := cJ3_checkIndex_8e157) (maxL := 3) (ret := (some .int)) (by decide +kernel) rfl (Nat.le_of_ble_eq_true rfl) ?_
  intro p e s m args below meth c ls Q hQ X hr hlk hnm K hs9 hS hl
  obtain ⟨hx, hb, hml, hown, hts⟩ := id X
  have hAE : ∀ q, (fun _ => False) q → hk_A E q := fun _ h => h.elim
  have hl : lv_has ls 3 [(0, .int i), (1, .int n), (2, .null)] := hl
  refine lv_iload_n hx hb dJ3_checkIndex_8e157_0 rfl (lv_at hl 0 rfl) ?_
  refine lv_if_lt (tgt := 9) hx hb dJ3_checkIndex_8e157_1 (by decide) (fun c_1 => ?_) (fun c_1 => ?_)
  · exact absurd c_1 h0
  · refine lv_iload_n hx hb dJ3_checkIndex_8e157_4 rfl (lv_at hl 0 rfl) ?_
    refine lv_iload_n hx hb dJ3_checkIndex_8e157_5 rfl (lv_at hl 1 rfl) ?_
    refine lv_icmp_lt (tgt := 16) hx hb dJ3_checkIndex_8e157_6 (by decide) (fun c_6 => ?_) (fun c_6 => ?_)
    · refine lv_iload_n hx hb dJ3_checkIndex_8e157_16 rfl (lv_at hl 0 rfl) ?_
      exact hk_iret X hr hlk hQ hS (Nat.le_of_ble_eq_true rfl) (Nat.le_of_ble_eq_true rfl) dJ3_checkIndex_8e157_17 (⟨rfl, rfl⟩)
    · exact absurd h1 c_6

theorem hd_J3_checkIndex_8e157 : yJ3_checkIndex_8e157.cls ≠ "java/lang/invoke/MethodHandle" ∧ yJ3_checkIndex_8e157.cls ≠ "java/lang/invoke/VarHandle" ∧ (parseMethodDescriptor yJ3_checkIndex_8e157.desc).map (fun d => d.parameters.length) = some 3 := ⟨by decide, by decide, by decide +kernel⟩
abbrev rmJ15_checkIndex_7cf53 : Room := { frames := 1, cells := 0, slots := 0, locals := 40 }
set_option maxHeartbeats 4000000 in
set_option maxRecDepth 100000 in
theorem c_J15_checkIndex_7cf53 (E : hk_E) (l : Launch) (H0 : Heap) {i n : Int32} (h0 : ¬ i < 0) (h1 : i < n) : hk_M E l yJ15_checkIndex_7cf53 wsJ15_checkIndex_7cf53 rmJ15_checkIndex_7cf53 (fun _ => False) [.int i, .int n] H0 (fun x H1 => x = some (.int i) ∧ H0 = H1) := by
  refine hk_M.ofW (cc := cJ15_checkIndex_7cf53) (maxL := 2) (ret := (some .int)) (by decide +kernel) rfl (Nat.le_of_ble_eq_true rfl) ?_
  intro p e s m args below meth c ls Q hQ X hr hlk hnm K hs9 hS hl
  obtain ⟨hx, hb, hml, hown, hts⟩ := id X
  have hAE : ∀ q, (fun _ => False) q → hk_A E q := fun _ h => h.elim
  have hl : lv_has ls 2 [(0, .int i), (1, .int n)] := hl
  refine lv_iload_n hx hb dJ15_checkIndex_7cf53_0 rfl (lv_at hl 0 rfl) ?_
  refine lv_iload_n hx hb dJ15_checkIndex_7cf53_1 rfl (lv_at hl 1 rfl) ?_
  refine lv_null hx hb dJ15_checkIndex_7cf53_2 ?_
  refine hk_callS 3 (As := [.int i, .int n, .null]) (rest := []) X K hAE hS hl.1 (c_J3_checkIndex_8e157 E l H0 h0 h1) (fun _ h => h.elim) gJ15_checkIndex_7cf53_J3_checkIndex_8e157 rfl hd_J3_checkIndex_8e157 rfl ⟨⟨(Nat.le_of_ble_eq_true rfl), (Nat.le_of_ble_eq_true rfl)⟩, (Nat.le_of_ble_eq_true rfl), (Nat.le_of_ble_eq_true rfl)⟩ rfl (Nat.le_of_ble_eq_true rfl) dJ15_checkIndex_7cf53_3 (fun v9 H1 locsH1 hp hS hzH1 hkH1 => ?_)
  obtain ⟨hv, hh⟩ := hp
  subst hv; subst hh
  exact hk_iret X hr hlk hQ hS (Nat.le_of_ble_eq_true rfl) (Nat.le_of_ble_eq_true rfl) dJ15_checkIndex_7cf53_6 (⟨rfl, rfl⟩)

/-- an ArrayList: n elements x, in an array of cap places -/
def hk_li (E : hk_E) (L el n cap : Nat) (mc : Int32) (x : Nat → Nat) (H : Heap) : Prop := hk_O E L 0 [.int mc, .ref el, .int (nI n)] H ∧ (0 < cap → hk_Q E el cap (fun i => if i < n then some (x i) else none) H)
section HLI
variable {p : Program} {l : Launch} {e : Env} {R : Room} {s : State} {m : MethodId} {args : Array Value} {below : List Frame} {meth : Method} {c : Code} {H : Heap} {locs : List Loc} {cells slots : Nat} {Q : State → Prop}
variable {cc : ByteArray} {pc nL : Nat} {ls : Array Slot} {rest : List Value} {E : hk_E} {Ts : List Cond} {own : String}
/-- how many places a list's array has -/
theorem hk_llen {L el n cap : Nat} {mc : Int32} {x : Nat → Nat} (X : CallFix p m c cc nL s args Ts own) (K : hk_K E s s.heap) (hli : hk_li E L el n cap mc x H) (hc : 0 < cap ∨ (cap = 0 ∧ el = E.2.2.2.1)) (hE : hk_emp E H) (hdg : decode cc pc = .ok (.arraylength, 1))
    (kk : W p l e R s m args below meth c H locs cells slots Q (F0 m (pc + 1) ls (.int (nI cap) :: rest))) : W p l e R s m args below meth c H locs cells slots Q (F0 m pc ls (.ref el :: rest)) := by
  rcases hc with h | ⟨h1, h2⟩
  · exact hk_qlen X K (hli.2 h) hdg kk
  · subst h1; subst h2
    exact hk_elen X K hE hdg kk
end HLI
abbrev rmJx4a65c_size_8abf5 : Room := { frames := 0, cells := 0, slots := 0, locals := 0 }
theorem iJx4a65c_size_8abf5_Jx4a65c : ∀ w ∈ wsJx4a65c0, w ∈ wsJx4a65c_size_8abf5 := by decide +kernel
set_option maxHeartbeats 4000000 in
set_option maxRecDepth 100000 in
theorem c_Jx4a65c_size_8abf5 (E : hk_E) (l : Launch) (H0 : Heap) {L el n cap : Nat} {mc : Int32} {x : Nat → Nat} (hli : hk_li E L el n cap mc x H0) : hk_M E l yJx4a65c_size_8abf5 wsJx4a65c_size_8abf5 rmJx4a65c_size_8abf5 (fun _ => False) [.ref L] H0 (fun z H1 => z = some (.int (nI n)) ∧ H0 = H1) := by
  refine hk_M.ofW (cc := cJx4a65c_size_8abf5) (maxL := 1) (ret := (some .int)) (by decide +kernel) rfl (Nat.le_of_ble_eq_true rfl) ?_
  intro p e s m args below meth c ls Q hQ X hr hlk hnm K hs9 hS hl
  obtain ⟨hx, hb, hml, hown, hts⟩ := id X
  have hAE : ∀ q, (fun _ => False) q → hk_A E q := fun _ h => h.elim
  have hl : lv_has ls 1 [(0, .ref L)] := hl
  refine lv_aload_n hx hb dJx4a65c_size_8abf5_0 rfl (lv_at hl 0 rfl) ?_
  refine hk_get (ref := "java/util/ArrayList") (v := .int (nI n)) X K hli.1 rfl iJx4a65c_size_8abf5_Jx4a65c 2 (by decide) (by decide +kernel) (fun _ h => h) rfl dJx4a65c_size_8abf5_1 ?_
  exact hk_iret X hr hlk hQ hS (Nat.le_of_ble_eq_true rfl) (Nat.le_of_ble_eq_true rfl) dJx4a65c_size_8abf5_4 (⟨rfl, rfl⟩)

abbrev rmJx4a65c_elementData_915e3 : Room := { frames := 0, cells := 0, slots := 0, locals := 0 }
theorem iJx4a65c_elementData_915e3_Jx4a65c : ∀ w ∈ wsJx4a65c0, w ∈ wsJx4a65c_elementData_915e3 := by decide +kernel
set_option maxHeartbeats 4000000 in
set_option maxRecDepth 100000 in
theorem c_Jx4a65c_elementData_915e3 (E : hk_E) (l : Launch) (H0 : Heap) {L el n cap : Nat} {mc : Int32} {x : Nat → Nat} (hli : hk_li E L el n cap mc x H0) (hn : n ≤ cap) (hcap : cap < 2 ^ 31) {i : Nat} (hi : i < n) : hk_M E l yJx4a65c_elementData_915e3 wsJx4a65c_elementData_915e3 rmJx4a65c_elementData_915e3 (fun _ => False) [.ref L, .int (nI i)] H0 (fun z H1 => z = some (.ref (x i)) ∧ H0 = H1) := by
  refine hk_M.ofW (cc := cJx4a65c_elementData_915e3) (maxL := 2) (ret := (some (.object "java/lang/Object"))) (by decide +kernel) rfl (Nat.le_of_ble_eq_true rfl) ?_
  intro p e s m args below meth c ls Q hQ X hr hlk hnm K hs9 hS hl
  obtain ⟨hx, hb, hml, hown, hts⟩ := id X
  have hAE : ∀ q, (fun _ => False) q → hk_A E q := fun _ h => h.elim
  have hl : lv_has ls 2 [(0, .ref L), (1, .int (nI i))] := hl
  refine lv_aload_n hx hb dJx4a65c_elementData_915e3_0 rfl (lv_at hl 0 rfl) ?_
  refine hk_get (ref := "java/util/ArrayList") (v := .ref el) X K hli.1 rfl iJx4a65c_elementData_915e3_Jx4a65c 1 (by decide) (by decide +kernel) (fun _ h => h) rfl dJx4a65c_elementData_915e3_1 ?_
  refine lv_iload_n hx hb dJx4a65c_elementData_915e3_4 rfl (lv_at hl 1 rfl) ?_
  refine hk_qld (y := x i) X K (hli.2 (by omega)) (vp_in_nI (by omega) hcap) (by rw [nI_clamp (by omega), if_pos hi]) dJx4a65c_elementData_915e3_5 ?_
  exact hk_aret X hr (Or.inl ⟨_, rfl⟩) hlk hQ hS (Nat.le_of_ble_eq_true rfl) (Nat.le_of_ble_eq_true rfl) dJx4a65c_elementData_915e3_6 (⟨rfl, rfl⟩)

theorem hd_J15_checkIndex_7cf53 : yJ15_checkIndex_7cf53.cls ≠ "java/lang/invoke/MethodHandle" ∧ yJ15_checkIndex_7cf53.cls ≠ "java/lang/invoke/VarHandle" ∧ (parseMethodDescriptor yJ15_checkIndex_7cf53.desc).map (fun d => d.parameters.length) = some 2 := ⟨by decide, by decide, by decide +kernel⟩
theorem hd_Jx4a65c_elementData_915e3 : yJx4a65c_elementData_915e3.cls ≠ "java/lang/invoke/MethodHandle" ∧ yJx4a65c_elementData_915e3.cls ≠ "java/lang/invoke/VarHandle" ∧ (parseMethodDescriptor yJx4a65c_elementData_915e3.desc).map (fun d => d.parameters.length) = some 1 := ⟨by decide, by decide, by decide +kernel⟩
abbrev rmJx4a65c_get_915e3 : Room := { frames := 2, cells := 0, slots := 0, locals := 80 }
theorem iJx4a65c_get_915e3_Jx4a65c : ∀ w ∈ wsJx4a65c0, w ∈ wsJx4a65c_get_915e3 := by decide +kernel
set_option maxHeartbeats 4000000 in
set_option maxRecDepth 100000 in
theorem c_Jx4a65c_get_915e3 (E : hk_E) (l : Launch) (H0 : Heap) {L el n cap : Nat} {mc : Int32} {x : Nat → Nat} (hli : hk_li E L el n cap mc x H0) (hn : n ≤ cap) (hcap : cap < 2 ^ 31) {i : Nat} (hi : i < n) : hk_M E l yJx4a65c_get_915e3 wsJx4a65c_get_915e3 rmJx4a65c_get_915e3 (fun _ => False) [.ref L, .int (nI i)] H0 (fun z H1 => z = some (.ref (x i)) ∧ H0 = H1) := by
  refine hk_M.ofW (cc := cJx4a65c_get_915e3) (maxL := 2) (ret := (some (.object "java/lang/Object"))) (by decide +kernel) rfl (Nat.le_of_ble_eq_true rfl) ?_
  intro p e s m args below meth c ls Q hQ X hr hlk hnm K hs9 hS hl
  obtain ⟨hx, hb, hml, hown, hts⟩ := id X
  have hAE : ∀ q, (fun _ => False) q → hk_A E q := fun _ h => h.elim
  have hl : lv_has ls 2 [(0, .ref L), (1, .int (nI i))] := hl
  refine lv_iload_n hx hb dJx4a65c_get_915e3_0 rfl (lv_at hl 1 rfl) ?_
  refine lv_aload_n hx hb dJx4a65c_get_915e3_1 rfl (lv_at hl 0 rfl) ?_
  refine hk_get (ref := "java/util/ArrayList") (v := .int (nI n)) X K hli.1 rfl iJx4a65c_get_915e3_Jx4a65c 2 (by decide) (by decide +kernel) (fun _ h => h) rfl dJx4a65c_get_915e3_2 ?_
  refine hk_callS 2 (As := [.int (nI i), .int (nI n)]) (rest := []) X K hAE hS hl.1 (c_J15_checkIndex_7cf53 E l H0 (nI_pos (by omega)) (nI_lt hi (by omega))) (fun _ h => h.elim) gJx4a65c_get_915e3_J15_checkIndex_7cf53 rfl hd_J15_checkIndex_7cf53 rfl ⟨⟨(Nat.le_of_ble_eq_true rfl), (Nat.le_of_ble_eq_true rfl)⟩, (Nat.le_of_ble_eq_true rfl), (Nat.le_of_ble_eq_true rfl)⟩ rfl (Nat.le_of_ble_eq_true rfl) dJx4a65c_get_915e3_5 (fun v9 H1 locsH1 hp hS hzH1 hkH1 => ?_)
  obtain ⟨hv, hh⟩ := hp
  subst hv; subst hh
  refine lv_pop hx hb dJx4a65c_get_915e3_8 rfl ?_
  refine lv_aload_n hx hb dJx4a65c_get_915e3_9 rfl (lv_at hl 0 rfl) ?_
  refine lv_iload_n hx hb dJx4a65c_get_915e3_10 rfl (lv_at hl 1 rfl) ?_
  refine hk_callV 1 (As := [.int (nI i)]) (rest := []) X K hAE hS hl.1 hli.1 rfl (c_Jx4a65c_elementData_915e3 E l H0 hli hn hcap hi) (fun _ h => h.elim) gJx4a65c_get_915e3_Jx4a65c_elementData_915e3 rfl ⟨rfl, hd_Jx4a65c_elementData_915e3⟩ rfl ⟨⟨(Nat.le_of_ble_eq_true rfl), (Nat.le_of_ble_eq_true rfl)⟩, (Nat.le_of_ble_eq_true rfl), (Nat.le_of_ble_eq_true rfl)⟩ rfl (Nat.le_of_ble_eq_true rfl) dJx4a65c_get_915e3_11 (fun v9 H2 locsH2 hp hS hzH2 hkH2 => ?_)
  obtain ⟨hv, hh⟩ := hp
  subst hv; subst hh
  exact hk_aret X hr (Or.inl ⟨_, rfl⟩) hlk hQ hS (Nat.le_of_ble_eq_true rfl) (Nat.le_of_ble_eq_true rfl) dJx4a65c_get_915e3_14 (⟨rfl, rfl⟩)

theorem hk_Qcong {E : hk_E} {a n : Nat} {f g : Nat → Option Nat} {H : Heap} (h : hk_Q E a n f H) (e : ∀ i, i < n → f i = g i) : hk_Q E a n g H := by
  show H[a]? = _
  rw [show H[a]? = _ from h, vp_cell_q, vp_cell_q]
  unfold arrV
  congr 2
  exact congrArg Array.ofFn (funext fun i => by show va_rf (f i.1) = va_rf (g i.1); rw [e i.1 i.2])
theorem hk_Icong {E : hk_E} {t a n : Nat} {f g : Nat → Int32} {H : Heap} (h : hk_I E t a n f H) (e : ∀ i, i < n → f i = g i) : hk_I E t a n g H := by
  show H[a]? = _
  rw [show H[a]? = _ from h, vp_cell_i, vp_cell_i]
  unfold arrV
  congr 2
  exact congrArg Array.ofFn (funext fun i => by show Value.int (f i.1) = Value.int (g i.1); rw [e i.1 i.2])

