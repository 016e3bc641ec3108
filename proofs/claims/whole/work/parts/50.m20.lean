theorem per_2 {P : Int32} (h : inr P 30 1000000) : ¬ 2 * P = 0 := by
  obtain ⟨a, rfl, h1, h2, h3⟩ := inr_nat h (by decide)
  have e1 : (30 : Int32).toInt = 30 := rfl
  have e2 : (1000000 : Int32).toInt = 1000000 := rfl
  rw [e1] at h1
  rw [e2] at h2
  rw [show (2 : Int32) = nI 2 from rfl, nI_mul]
  exact nI_ne0 (by omega) (by omega)
def sp_cy (g : Nat → Int32) (i : Nat) (P : Int32) : Int32 := (2 * (g i - g 0) + P) / (2 * P)
def sp_of (g : Nat → Int32) (i : Nat) (P : Int32) : Int32 := g i - g 0 - sp_cy g i P * P
theorem jpT_cg {f f' : Nat → Int32} {t : Int32} (m : Nat) (h : ∀ i, i < m → f i = f' i) : jpT f t m = jpT f' t m := by
  induction m with
  | zero => rfl
  | succ m ih => rw [jpT, jpT, h m (by omega), ih (fun i hi => h i (by omega))]
theorem jpT_le {f : Nat → Int32} {t : Int32} (m : Nat) : jpT f t m ≤ m := by
  induction m with
  | zero => exact Nat.le_refl _
  | succ m ih => rw [jpT]; split <;> omega
theorem layA_cg {μ : Nat → Nat → Int32} {e : Int32} {g g' : Nat → Int32} (n : Nat) : (layA μ e g n).2 = (layA μ e g' n).2 ∧ ∀ t, t < (layA μ e g n).2 → (layA μ e g n).1 t = (layA μ e g' n).1 t := by
  induction n with
  | zero => exact ⟨rfl, fun t h => absurd h (Nat.not_lt_zero _)⟩
  | succ n ih =>
    rw [layA, layA]
    by_cases c : μ 3 (ix (μ 30 n)) = e
    · rw [if_pos c, if_pos c]
      obtain ⟨e2, e1⟩ := ih
      dsimp only
      rw [← e2, ← jpT_cg _ e1]
      refine ⟨rfl, fun t ht => ?_⟩
      unfold insA upd shf
      by_cases q : t = jpT (layA μ e g n).1 (sp_mt μ n) (layA μ e g n).2
      · rw [if_pos q, if_pos q]
      · rw [if_neg q, if_neg q]
        by_cases g9 : jpT (layA μ e g n).1 (sp_mt μ n) (layA μ e g n).2 < t ∧ t ≤ (layA μ e g n).2
        · rw [if_pos g9, if_pos g9]
          exact e1 (t - 1) (by omega)
        · rw [if_neg g9, if_neg g9]
          exact e1 t (by
            have hq : jpT (layA μ e g n).1 (sp_mt μ n) (layA μ e g n).2 ≤ (layA μ e g n).2 := jpT_le _
            have ht2 : t < (layA μ e g n).2 + 1 := ht
            omega)
    · rw [if_neg c, if_neg c]
      exact ih
theorem layA_le {μ : Nat → Nat → Int32} {e : Int32} {g : Nat → Int32} (n : Nat) : (layA μ e g n).2 ≤ n := by
  induction n with
  | zero => exact Nat.le_refl _
  | succ n ih =>
    rw [layA]
    split
    · show _ + 1 ≤ _; omega
    · omega
theorem agr_lay {cn : Nat → Nat} {sc : Nat → Int32} {μ : Nat → Nat → Int32} {n : Nat} {v : Int32} {f : Nat → Int32} : agr (cn, sc, μ) (va_up cn 38 n, va_up sc 33 v, va_up μ 39 f) := fun k hk => ⟨(if_neg (show ¬ k = 38 by omega)).symm, (if_neg (show ¬ k = 33 by omega)).symm, (if_neg (show ¬ k = 39 by omega)).symm⟩
/-- the minima of an entry, in order of their times, and how many -/
def layS (S : mS) (e : Int32) : (Nat → Int32) × Nat := layA S.2.2 e (fun _ => 0) (S.1 29)
theorem cy_eq {μ : Nat → Nat → Int32} {e : Int32} {g g' : Nat → Int32} {n t : Nat} {P : Int32} (ht : t < (layA μ e g n).2) : sp_cy (layA μ e g n).1 t P = sp_cy (layA μ e g' n).1 t P := by
  unfold sp_cy
  rw [(layA_cg (g' := g') n).2 t ht, (layA_cg (g' := g') n).2 0 (by omega)]
theorem of_eq {μ : Nat → Nat → Int32} {e : Int32} {g g' : Nat → Int32} {n t : Nat} {P : Int32} (ht : t < (layA μ e g n).2) : sp_of (layA μ e g n).1 t P = sp_of (layA μ e g' n).1 t P := by
  unfold sp_of
  rw [cy_eq (g' := g') ht, (layA_cg (g' := g') n).2 t ht, (layA_cg (g' := g') n).2 0 (by omega)]
abbrev rmX11_cycleOf : Room := { frames := 0, cells := 0, slots := 0, locals := 0 }
theorem iX11_cycleOf_X11 : ∀ w ∈ wsX110, w ∈ wsX11_cycleOf := by decide +kernel
set_option maxHeartbeats 4000000 in
set_option maxRecDepth 100000 in
theorem c_X11_cycleOf (E : hk_E) (l : Launch) (H0 : Heap) {mo : Nat} {am : Nat → Nat} {Z : Nat → Prop} {cn : Nat → Nat} {sc : Nat → Int32} {μ : Nat → Nat → Int32} (hM : MW E mo am Z cn sc μ H0) {x P : Int32} (hx3 : vp_in x 30) (hP : inr P 30 1000000) : hk_M E l yX11_cycleOf wsX11_cycleOf rmX11_cycleOf (fun _ => False) [.ref mo, .int x, .int P] H0 (fun z H1 => z = some (.int (sp_cy (μ 39) (ix x) P)) ∧ H0 = H1) := by
  refine hk_M.ofW (cc := cX11_cycleOf) (maxL := 4) (ret := (some .int)) (by decide +kernel) rfl (Nat.le_of_ble_eq_true rfl) ?_
  intro p e s m args below meth c ls Q hQ X hr hlk hnm K hs9 hS hl
  obtain ⟨hx, hb, hml, hown, hts⟩ := id X
  have hAE : ∀ q, (fun _ => False) q → hk_A E q := fun _ h => h.elim
  have hl : lv_has ls 4 [(0, .ref mo), (1, .int x), (2, .int P)] := hl
  refine lv_aload_n hx hb dX11_cycleOf_0 rfl (lv_at hl 0 rfl) ?_
  refine hk_get (ref := "LightcurveHouseModel") (v := .ref (am 39)) X K hM.1 rfl iX11_cycleOf_X11 39 (by decide) (by decide +kernel) (fun _ h => h) rfl dX11_cycleOf_1 ?_
  refine lv_iload_n hx hb dX11_cycleOf_4 rfl (lv_at hl 1 rfl) ?_
  refine hk_ild X K hM.a39 hx3 dX11_cycleOf_5 ?_
  refine lv_aload_n hx hb dX11_cycleOf_6 rfl (lv_at hl 0 rfl) ?_
  refine hk_get (ref := "LightcurveHouseModel") (v := .ref (am 39)) X K hM.1 rfl iX11_cycleOf_X11 39 (by decide) (by decide +kernel) (fun _ h => h) rfl dX11_cycleOf_7 ?_
  refine lv_iconst (v := 0) hx hb dX11_cycleOf_10 (by decide) ?_
  refine lv_topi (fun z_1 ez_1 => ?_)
  have ez_1 : z_1 = nI 0 := ez_1
  subst ez_1
  refine hk_ild X K hM.a39 (vp_in_nI (by omega) (by omega)) dX11_cycleOf_11 ?_
  rw [show (μ 39) (nI 0).toNatClampNeg = μ 39 0 from by rw [nI_clamp (show 0 < 2 ^ 31 by omega)]]
  refine lv_isub hx hb dX11_cycleOf_12 ?_
  refine lv_topi (fun dd edd => ?_)
  refine lv_istore_n (lv' := [(3, .int dd), (0, .ref mo), (1, .int x), (2, .int P)]) hx hb dX11_cycleOf_13 rfl hl (by decide) rfl (fun ls hl => ?_)
  refine lv_iconst (v := 2) hx hb dX11_cycleOf_14 (by decide) ?_
  refine lv_iload_n hx hb dX11_cycleOf_15 rfl (lv_at hl 0 rfl) ?_
  refine lv_imul hx hb dX11_cycleOf_16 ?_
  refine lv_iload_n hx hb dX11_cycleOf_17 rfl (lv_at hl 3 rfl) ?_
  refine lv_iadd hx hb dX11_cycleOf_18 ?_
  refine lv_iconst (v := 2) hx hb dX11_cycleOf_19 (by decide) ?_
  refine lv_iload_n hx hb dX11_cycleOf_20 rfl (lv_at hl 3 rfl) ?_
  refine lv_imul hx hb dX11_cycleOf_21 ?_
  refine lv_idiv hx hb dX11_cycleOf_22 (per_2 hP) ?_
  exact hk_iret X hr hlk hQ hS (Nat.le_of_ble_eq_true rfl) (Nat.le_of_ble_eq_true rfl) dX11_cycleOf_23 (⟨by unfold sp_cy; rw [edd], rfl⟩)

theorem hd_X11_cycleOf : yX11_cycleOf.cls ≠ "java/lang/invoke/MethodHandle" ∧ yX11_cycleOf.cls ≠ "java/lang/invoke/VarHandle" ∧ (parseMethodDescriptor yX11_cycleOf.desc).map (fun d => d.parameters.length) = some 2 := ⟨by decide, by decide, by decide +kernel⟩
abbrev rmX11_offsetOf : Room := { frames := 1, cells := 0, slots := 0, locals := 23 }
theorem iX11_offsetOf_X11 : ∀ w ∈ wsX110, w ∈ wsX11_offsetOf := by decide +kernel
set_option maxHeartbeats 4000000 in
set_option maxRecDepth 100000 in
theorem c_X11_offsetOf (E : hk_E) (l : Launch) (H0 : Heap) {mo : Nat} {am : Nat → Nat} {Z : Nat → Prop} {cn : Nat → Nat} {sc : Nat → Int32} {μ : Nat → Nat → Int32} (hM : MW E mo am Z cn sc μ H0) {x P : Int32} (hx3 : vp_in x 30) (hP : inr P 30 1000000) : hk_M E l yX11_offsetOf wsX11_offsetOf rmX11_offsetOf (fun _ => False) [.ref mo, .int x, .int P] H0 (fun z H1 => z = some (.int (sp_of (μ 39) (ix x) P)) ∧ H0 = H1) := by
  refine hk_M.ofW (cc := cX11_offsetOf) (maxL := 3) (ret := (some .int)) (by decide +kernel) rfl (Nat.le_of_ble_eq_true rfl) ?_
  intro p e s m args below meth c ls Q hQ X hr hlk hnm K hs9 hS hl
  obtain ⟨hx, hb, hml, hown, hts⟩ := id X
  have hAE : ∀ q, (fun _ => False) q → hk_A E q := fun _ h => h.elim
  have hl : lv_has ls 3 [(0, .ref mo), (1, .int x), (2, .int P)] := hl
  refine lv_aload_n hx hb dX11_offsetOf_0 rfl (lv_at hl 0 rfl) ?_
  refine hk_get (ref := "LightcurveHouseModel") (v := .ref (am 39)) X K hM.1 rfl iX11_offsetOf_X11 39 (by decide) (by decide +kernel) (fun _ h => h) rfl dX11_offsetOf_1 ?_
  refine lv_iload_n hx hb dX11_offsetOf_4 rfl (lv_at hl 1 rfl) ?_
  refine hk_ild X K hM.a39 hx3 dX11_offsetOf_5 ?_
  refine lv_aload_n hx hb dX11_offsetOf_6 rfl (lv_at hl 0 rfl) ?_
  refine hk_get (ref := "LightcurveHouseModel") (v := .ref (am 39)) X K hM.1 rfl iX11_offsetOf_X11 39 (by decide) (by decide +kernel) (fun _ h => h) rfl dX11_offsetOf_7 ?_
  refine lv_iconst (v := 0) hx hb dX11_offsetOf_10 (by decide) ?_
  refine lv_topi (fun z_1 ez_1 => ?_)
  have ez_1 : z_1 = nI 0 := ez_1
  subst ez_1
  refine hk_ild X K hM.a39 (vp_in_nI (by omega) (by omega)) dX11_offsetOf_11 ?_
  rw [show (μ 39) (nI 0).toNatClampNeg = μ 39 0 from by rw [nI_clamp (show 0 < 2 ^ 31 by omega)]]
  refine lv_isub hx hb dX11_offsetOf_12 ?_
  refine lv_aload_n hx hb dX11_offsetOf_13 rfl (lv_at hl 0 rfl) ?_
  refine lv_iload_n hx hb dX11_offsetOf_14 rfl (lv_at hl 1 rfl) ?_
  refine lv_iload_n hx hb dX11_offsetOf_15 rfl (lv_at hl 2 rfl) ?_
  refine hk_callV 2 (As := [.int x, .int P]) (rest := [.int (((μ 39) x.toNatClampNeg) - (μ 39 0))]) X K hAE hS hl.1 hM.1 rfl (c_X11_cycleOf E l H0 hM (x := x) (P := P) hx3 hP) (fun _ h => h.elim) gX11_offsetOf_X11_cycleOf rfl ⟨rfl, hd_X11_cycleOf⟩ rfl ⟨⟨(Nat.le_of_ble_eq_true rfl), (Nat.le_of_ble_eq_true rfl)⟩, (Nat.le_of_ble_eq_true rfl), (Nat.le_of_ble_eq_true rfl)⟩ rfl (Nat.le_of_ble_eq_true rfl) dX11_offsetOf_16 (fun v9 H2 locsH2 hp hS hzH2 hkH2 => ?_)
  obtain ⟨hv, hh⟩ := hp
  subst hv; subst hh
  refine lv_iload_n hx hb dX11_offsetOf_19 rfl (lv_at hl 2 rfl) ?_
  refine lv_imul hx hb dX11_offsetOf_20 ?_
  refine lv_isub hx hb dX11_offsetOf_21 ?_
  exact hk_iret X hr hlk hQ hS (Nat.le_of_ble_eq_true rfl) (Nat.le_of_ble_eq_true rfl) dX11_offsetOf_22 (⟨rfl, rfl⟩)

