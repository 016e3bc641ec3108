abbrev rmX11_in : Room := { frames := 0, cells := 0, slots := 0, locals := 0 }
set_option maxHeartbeats 4000000 in
set_option maxRecDepth 100000 in
theorem c_X11_in (E : hk_E) (l : Launch) (H0 : Heap) {a lo hi : Int32} : hk_M E l yX11_in wsX11_in rmX11_in (fun _ => False) [.int a, .int lo, .int hi] H0 (fun z H1 => ((z = some (.int 1) ∧ inr a lo hi) ∨ (z = some (.int 0) ∧ ¬ inr a lo hi)) ∧ H0 = H1) := by
  refine hk_M.ofW (cc := cX11_in) (maxL := 3) (ret := (some .boolean)) (by decide +kernel) rfl (Nat.le_of_ble_eq_true rfl) ?_
  intro p e s m args below meth c ls Q hQ X hr hlk hnm K hs9 hS hl
  obtain ⟨hx, hb, hml, hown, hts⟩ := id X
  have hAE : ∀ q, (fun _ => False) q → hk_A E q := fun _ h => h.elim
  have hl : lv_has ls 3 [(0, .int a), (1, .int lo), (2, .int hi)] := hl
  refine lv_iload_n hx hb dX11_in_0 rfl (lv_at hl 0 rfl) ?_
  refine lv_iload_n hx hb dX11_in_1 rfl (lv_at hl 1 rfl) ?_
  refine lv_icmp_lt (tgt := 14) hx hb dX11_in_2 (by decide) (fun c_2 => ?_) (fun c_2 => ?_)
  · refine lv_iconst (v := 0) hx hb dX11_in_14 (by decide) ?_
    exact hk_zret X hr hlk hQ hS (Nat.le_of_ble_eq_true rfl) (Nat.le_of_ble_eq_true rfl) dX11_in_15 (by decide) (⟨Or.inr ⟨rfl, fun h => absurd c_2 (Int32.not_lt.mpr h.1)⟩, rfl⟩)
  · refine lv_iload_n hx hb dX11_in_5 rfl (lv_at hl 0 rfl) ?_
    refine lv_iload_n hx hb dX11_in_6 rfl (lv_at hl 2 rfl) ?_
    refine lv_icmp_gt (tgt := 14) hx hb dX11_in_7 (by decide) (fun c_7 => ?_) (fun c_7 => ?_)
    · refine lv_iconst (v := 0) hx hb dX11_in_14 (by decide) ?_
      exact hk_zret X hr hlk hQ hS (Nat.le_of_ble_eq_true rfl) (Nat.le_of_ble_eq_true rfl) dX11_in_15 (by decide) (⟨Or.inr ⟨rfl, fun h => absurd c_7 (Int32.not_lt.mpr h.2)⟩, rfl⟩)
    · refine lv_iconst (v := 1) hx hb dX11_in_10 (by decide) ?_
      refine lv_goto (tgt := 15) hx hb dX11_in_11 (by decide) ?_
      exact hk_zret X hr hlk hQ hS (Nat.le_of_ble_eq_true rfl) (Nat.le_of_ble_eq_true rfl) dX11_in_15 (by decide) (⟨Or.inl ⟨rfl, Int32.not_lt.mp c_2, Int32.not_lt.mp c_7⟩, rfl⟩)

theorem c_X11_inS (E : hk_E) (l : Launch) (H0 : Heap) {a : Int32} {n : Nat} (hn : n < 2 ^ 30) : hk_M E l yX11_in wsX11_in rmX11_in (fun _ => False) [.int a, .int 0, .int (nI n - 1)] H0 (fun z H1 => ((z = some (.int 1) ∧ isS n a) ∨ (z = some (.int 0) ∧ ¬ isS n a)) ∧ H0 = H1) := by
  have h := c_X11_in E l H0 (a := a) (lo := 0) (hi := nI n - 1)
  rw [show inr a 0 (nI n - 1) = isS n a from propext (isS_of hn)] at h
  exact h

theorem hd_X11_in : yX11_in.cls ≠ "java/lang/invoke/MethodHandle" ∧ yX11_in.cls ≠ "java/lang/invoke/VarHandle" ∧ (parseMethodDescriptor yX11_in.desc).map (fun d => d.parameters.length) = some 3 := ⟨by decide, by decide, by decide +kernel⟩
abbrev rmX11_isPeriod : Room := { frames := 1, cells := 0, slots := 0, locals := 22 }
set_option maxHeartbeats 4000000 in
set_option maxRecDepth 100000 in
theorem c_X11_isPeriod (E : hk_E) (l : Launch) (H0 : Heap) {a : Int32} : hk_M E l yX11_isPeriod wsX11_isPeriod rmX11_isPeriod (fun _ => False) [.int a] H0 (fun z H1 => ((z = some (.int 1) ∧ inr a 30 1000000) ∨ (z = some (.int 0) ∧ ¬ inr a 30 1000000)) ∧ H0 = H1) := by
  refine hk_M.ofW (cc := cX11_isPeriod) (maxL := 1) (ret := (some .boolean)) (by decide +kernel) rfl (Nat.le_of_ble_eq_true rfl) ?_
  intro p e s m args below meth c ls Q hQ X hr hlk hnm K hs9 hS hl
  obtain ⟨hx, hb, hml, hown, hts⟩ := id X
  have hAE : ∀ q, (fun _ => False) q → hk_A E q := fun _ h => h.elim
  have hl : lv_has ls 1 [(0, .int a)] := hl
  refine lv_iload_n hx hb dX11_isPeriod_0 rfl (lv_at hl 0 rfl) ?_
  refine lv_bipush (v := 30) hx hb dX11_isPeriod_1 (by decide) ?_
  refine lv_ldc hx hb hown (hts (.constant RX11 121 (1000000)) (by decide +kernel)) dX11_isPeriod_3 ?_
  refine hk_callS 3 (As := [.int a, .int 30, .int 1000000]) (rest := []) X K hAE hS hl.1 (c_X11_in E l H0 (a := a) (lo := 30) (hi := 1000000)) (fun _ h => h.elim) gX11_isPeriod_X11_in rfl hd_X11_in rfl ⟨⟨(Nat.le_of_ble_eq_true rfl), (Nat.le_of_ble_eq_true rfl)⟩, (Nat.le_of_ble_eq_true rfl), (Nat.le_of_ble_eq_true rfl)⟩ rfl (Nat.le_of_ble_eq_true rfl) dX11_isPeriod_5 (fun v9 H1 locsH1 hp hS hzH1 hkH1 => ?_)
  obtain ⟨hv, hh⟩ := hp
  subst hh
  rcases hv with ⟨hv, c_5⟩ | ⟨hv, c_5⟩
  · subst hv
    exact hk_zret X hr hlk hQ hS (Nat.le_of_ble_eq_true rfl) (Nat.le_of_ble_eq_true rfl) dX11_isPeriod_8 (by decide) (⟨Or.inl ⟨rfl, c_5⟩, rfl⟩)
  · subst hv
    exact hk_zret X hr hlk hQ hS (Nat.le_of_ble_eq_true rfl) (Nat.le_of_ble_eq_true rfl) dX11_isPeriod_8 (by decide) (⟨Or.inr ⟨rfl, c_5⟩, rfl⟩)

abbrev rmX11_isStar : Room := { frames := 1, cells := 0, slots := 0, locals := 22 }
theorem iX11_isStar_X11 : ∀ w ∈ wsX110, w ∈ wsX11_isStar := by decide +kernel
set_option maxHeartbeats 4000000 in
set_option maxRecDepth 100000 in
theorem c_X11_isStar (E : hk_E) (l : Launch) (H0 : Heap) {mo : Nat} {am : Nat → Nat} {Z : Nat → Prop} {cn : Nat → Nat} {sc : Nat → Int32} {μ : Nat → Nat → Int32} (hM : MW E mo am Z cn sc μ H0) (hns : cn 1 ≤ 12) {i : Int32} : hk_M E l yX11_isStar wsX11_isStar rmX11_isStar (fun _ => False) [.ref mo, .int i] H0 (fun z H1 => ((z = some (.int 1) ∧ isS (cn 1) i) ∨ (z = some (.int 0) ∧ ¬ isS (cn 1) i)) ∧ H0 = H1) := by
  refine hk_M.ofW (cc := cX11_isStar) (maxL := 2) (ret := (some .boolean)) (by decide +kernel) rfl (Nat.le_of_ble_eq_true rfl) ?_
  intro p e s m args below meth c ls Q hQ X hr hlk hnm K hs9 hS hl
  obtain ⟨hx, hb, hml, hown, hts⟩ := id X
  have hAE : ∀ q, (fun _ => False) q → hk_A E q := fun _ h => h.elim
  have hl : lv_has ls 2 [(0, .ref mo), (1, .int i)] := hl
  refine lv_iload_n hx hb dX11_isStar_0 rfl (lv_at hl 1 rfl) ?_
  refine lv_iconst (v := 0) hx hb dX11_isStar_1 (by decide) ?_
  refine lv_aload_n hx hb dX11_isStar_2 rfl (lv_at hl 0 rfl) ?_
  refine hk_get (ref := "LightcurveHouseModel") (v := .int (nI (cn 1))) X K hM.1 rfl iX11_isStar_X11 1 (by decide) (by decide +kernel) (fun _ h => h) rfl dX11_isStar_3 ?_
  refine lv_iconst (v := 1) hx hb dX11_isStar_6 (by decide) ?_
  refine lv_isub hx hb dX11_isStar_7 ?_
  refine hk_callS 3 (As := [.int i, .int 0, .int ((nI (cn 1)) - 1)]) (rest := []) X K hAE hS hl.1 (c_X11_inS E l H0 (a := i) (n := cn 1) (by omega)) (fun _ h => h.elim) gX11_isStar_X11_in rfl hd_X11_in rfl ⟨⟨(Nat.le_of_ble_eq_true rfl), (Nat.le_of_ble_eq_true rfl)⟩, (Nat.le_of_ble_eq_true rfl), (Nat.le_of_ble_eq_true rfl)⟩ rfl (Nat.le_of_ble_eq_true rfl) dX11_isStar_8 (fun v9 H1 locsH1 hp hS hzH1 hkH1 => ?_)
  obtain ⟨hv, hh⟩ := hp
  subst hh
  rcases hv with ⟨hv, c_8⟩ | ⟨hv, c_8⟩
  · subst hv
    exact hk_zret X hr hlk hQ hS (Nat.le_of_ble_eq_true rfl) (Nat.le_of_ble_eq_true rfl) dX11_isStar_11 (by decide) (⟨Or.inl ⟨rfl, c_8⟩, rfl⟩)
  · subst hv
    exact hk_zret X hr hlk hQ hS (Nat.le_of_ble_eq_true rfl) (Nat.le_of_ble_eq_true rfl) dX11_isStar_11 (by decide) (⟨Or.inr ⟨rfl, c_8⟩, rfl⟩)

theorem vp_inr (N : Nat) {i : Int32} (hN : N < 2 ^ 31 - 1) (h : inr i 0 (nI N)) : vp_in i (N + 1) := by
  obtain ⟨j, hj, rfl⟩ := inr_ix (by omega) h
  exact vp_in_nI (by omega) (by omega)
theorem vp_isS {n N : Nat} {i : Int32} (hn : n ≤ N) (hN : N < 2 ^ 31) (h : isS n i) : vp_in i N := by
  obtain ⟨j, hj, rfl⟩ := isS_ix (by omega) h
  exact vp_in_nI (by omega) hN
theorem agr_thr {cn : Nat → Nat} {sc : Nat → Int32} {μ : Nat → Nat → Int32} {v : Int32} : agr (cn, sc, μ) (cn, va_up sc 33 v, μ) := fun k hk => ⟨rfl, (if_neg (show ¬ k = 33 by omega)).symm, rfl⟩
/-- a public call of the model: its exception's place, its answer, what lasts behind it -/
def mpost (E : hk_E) (mo : Nat) (am : Nat → Nat) (Z : Nat → Prop) (cd an : Int32) (S S' : mS) : Option Value → Heap → Prop := fun z H1 => ∃ cn' sc' μ', MW E mo am Z cn' sc' μ' H1 ∧ sc' 33 = cd ∧ z = some (.int (if cd = 0 then an else 0)) ∧ agr (if cd = 0 then S' else S) (cn', sc', μ')
section
variable {E : hk_E} {mo : Nat} {am : Nat → Nat} {Z : Nat → Prop} {cd an : Int32} {S S' : mS} {z : Option Value} {H1 : Heap} {cn' : Nat → Nat} {sc' : Nat → Int32} {μ' : Nat → Nat → Int32}
theorem mfin0 (hM : MW E mo am Z cn' sc' μ' H1) (hcd : cd = 0) (h33 : sc' 33 = 0) (hz : z = some (.int an)) (ha : agr S' (cn', sc', μ')) : mpost E mo am Z cd an S S' z H1 := by
  subst hcd
  exact ⟨cn', sc', μ', hM, h33, hz, ha⟩
theorem mfin1 {v : Int32} (hM : MW E mo am Z cn' sc' μ' H1) (hcd : cd = v) (hv : v ≠ 0) (h33 : sc' 33 = v) (hz : z = some (.int 0)) (ha : agr S (cn', sc', μ')) : mpost E mo am Z cd an S S' z H1 := by
  subst hcd
  exact ⟨cn', sc', μ', hM, h33, by rw [if_neg hv]; exact hz, by rw [if_neg hv]; exact ha⟩
end
