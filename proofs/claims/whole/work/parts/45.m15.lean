/-- the claim of the lowest star of an entry that has one -/
def sp_clm (f g : Nat → Int32) (e : Int32) : Nat → Int32 → Int32
  | 0, a => a
  | n + 1, a => sp_clm f g e n (if f n = e ∧ 0 < g n then g n else a)
abbrev rmX11_claimOf : Room := { frames := 0, cells := 0, slots := 0, locals := 0 }
theorem iX11_claimOf_X11 : ∀ w ∈ wsX110, w ∈ wsX11_claimOf := by decide +kernel
set_option maxHeartbeats 4000000 in
set_option maxRecDepth 100000 in
theorem c_X11_claimOf (E : hk_E) (l : Launch) (H0 : Heap) {mo : Nat} {am : Nat → Nat} {Z : Nat → Prop} {cn : Nat → Nat} {sc : Nat → Int32} {μ : Nat → Nat → Int32} (hM : MW E mo am Z cn sc μ H0) (hns : cn 1 ≤ 12) {e1 : Int32} : hk_M E l yX11_claimOf wsX11_claimOf rmX11_claimOf (fun _ => False) [.ref mo, .int e1] H0 (fun z H1 => z = some (.int (sp_clm (μ 3) (μ 4) e1 (cn 1) 0)) ∧ H0 = H1) := by
  refine hk_M.ofW (cc := cX11_claimOf) (maxL := 4) (ret := (some .int)) (by decide +kernel) rfl (Nat.le_of_ble_eq_true rfl) ?_
  intro p e s m args below meth c ls Q hQ X hr hlk hnm K hs9 hS hl
  obtain ⟨hx, hb, hml, hown, hts⟩ := id X
  have hAE : ∀ q, (fun _ => False) q → hk_A E q := fun _ h => h.elim
  have hl : lv_has ls 4 [(0, .ref mo), (1, .int e1)] := hl
  refine lv_iconst (v := 0) hx hb dX11_claimOf_0 (by decide) ?_
  refine lv_istore_n (lv' := [(2, .int 0), (0, .ref mo), (1, .int e1)]) hx hb dX11_claimOf_1 rfl hl (by decide) rfl (fun ls hl => ?_)
  refine lv_aload_n hx hb dX11_claimOf_2 rfl (lv_at hl 1 rfl) ?_
  refine hk_get (ref := "LightcurveHouseModel") (v := .int (nI (cn 1))) X K hM.1 rfl iX11_claimOf_X11 1 (by decide) (by decide +kernel) (fun _ h => h) rfl dX11_claimOf_3 ?_
  refine lv_iconst (v := 1) hx hb dX11_claimOf_6 (by decide) ?_
  refine lv_isub hx hb dX11_claimOf_7 ?_
  refine lv_istore_n (lv' := [(3, .int ((nI (cn 1)) - 1)), (2, .int 0), (0, .ref mo), (1, .int e1)]) hx hb dX11_claimOf_8 rfl hl (by decide) rfl (fun ls hl => ?_)
  have L9 : ∀ (n9 : Nat) (k : Nat) (a : Int32), k + 1 ≤ n9 → (k ≤ cn 1 ∧ sp_clm (μ 3) (μ 4) e1 (cn 1) 0 = sp_clm (μ 3) (μ 4) e1 k a) → ∀ (ls : Array Slot), lv_has ls 4 [(3, .int (nI k - 1)), (2, .int a), (0, .ref mo), (1, .int e1)] → W p l e rmX11_claimOf s m args below meth c H0 [] 0 0 Q (F0 m 9 ls []) := by
    intro n9
    induction n9 with
    | zero =>
      intro k a hm hinv ls hl
      have hi1 := hinv.1
      exact absurd hm (by omega)
    | succ n9 ih =>
      intro k a hm hinv ls hl
      have hi1 := hinv.1
      refine lv_iload_n hx hb dX11_claimOf_9 rfl (lv_at hl 0 rfl) ?_
      refine lv_if_lt (tgt := 49) hx hb dX11_claimOf_10 (by decide) (fun c_10 => ?_) (fun c_10 => ?_)
      · have hk0 : k = 0 := by
          cases k with
          | zero => rfl
          | succ j9 => rw [nI_pred] at c_10; exact absurd c_10 (nI_pos (by omega))
        have hlw : sp_clm (μ 3) (μ 4) e1 (cn 1) 0 = a := by rw [hinv.2, hk0, sp_clm]
        refine lv_iload_n hx hb dX11_claimOf_49 rfl (lv_at hl 1 rfl) ?_
        exact hk_iret X hr hlk hQ hS (Nat.le_of_ble_eq_true rfl) (Nat.le_of_ble_eq_true rfl) dX11_claimOf_50 (⟨by rw [hlw], rfl⟩)
      · obtain ⟨k7, rfl⟩ : ∃ k7, k = k7 + 1 := ⟨k - 1, (Nat.succ_pred_eq_of_ne_zero (fun h => by subst h; exact absurd (by decide) c_10)).symm⟩
        rw [nI_pred] at hl
        refine lv_aload_n hx hb dX11_claimOf_13 rfl (lv_at hl 2 rfl) ?_
        refine hk_get (ref := "LightcurveHouseModel") (v := .ref (am 3)) X K hM.1 rfl iX11_claimOf_X11 3 (by decide) (by decide +kernel) (fun _ h => h) rfl dX11_claimOf_14 ?_
        refine lv_iload_n hx hb dX11_claimOf_17 rfl (lv_at hl 0 rfl) ?_
        refine hk_ild X K hM.a3 (vp_in_nI (by omega) (by omega)) dX11_claimOf_18 ?_
        rw [show (μ 3) (nI k7).toNatClampNeg = μ 3 k7 from by rw [nI_clamp (show k7 < 2 ^ 31 by omega)]]
        refine lv_iload_n hx hb dX11_claimOf_19 rfl (lv_at hl 3 rfl) ?_
        refine lv_icmp_ne (tgt := 41) hx hb dX11_claimOf_20 (by decide) (fun c_20 => ?_) (fun c_20 => ?_)
        · refine lv_iload_n hx hb dX11_claimOf_41 rfl (lv_at hl 1 rfl) ?_
          refine lv_istore_n (lv' := [(2, .int a), (3, .int (nI k7)), (0, .ref mo), (1, .int e1)]) hx hb dX11_claimOf_42 rfl hl (by decide) rfl (fun ls hl => ?_)
          obtain ⟨kd, ekd⟩ : ∃ y : Int32, y = (nI k7) + (-1) := ⟨_, rfl⟩
          refine lv_iinc (v := kd) (lv' := [(3, .int kd), (2, .int a), (0, .ref mo), (1, .int e1)]) hx hb dX11_claimOf_43 hl (k := 1) rfl (by rw [ekd]; rfl) (by decide) rfl (fun ls hl => ?_)
          rw [add_m1] at ekd
          subst ekd
          refine lv_goto (tgt := 9) hx hb dX11_claimOf_46 (by decide) ?_
          exact ih k7 a (by omega) ⟨by omega, by rw [hinv.2, sp_clm, if_neg (fun g => c_20 g.1)]⟩ _ (lv_sub hl [0, 1, 2, 3] rfl)
        · refine lv_aload_n hx hb dX11_claimOf_23 rfl (lv_at hl 2 rfl) ?_
          refine hk_get (ref := "LightcurveHouseModel") (v := .ref (am 4)) X K hM.1 rfl iX11_claimOf_X11 4 (by decide) (by decide +kernel) (fun _ h => h) rfl dX11_claimOf_24 ?_
          refine lv_iload_n hx hb dX11_claimOf_27 rfl (lv_at hl 0 rfl) ?_
          refine hk_ild X K hM.a4 (vp_in_nI (by omega) (by omega)) dX11_claimOf_28 ?_
          rw [show (μ 4) (nI k7).toNatClampNeg = μ 4 k7 from by rw [nI_clamp (show k7 < 2 ^ 31 by omega)]]
          refine lv_if_le (tgt := 41) hx hb dX11_claimOf_29 (by decide) (fun c_29 => ?_) (fun c_29 => ?_)
          · refine lv_iload_n hx hb dX11_claimOf_41 rfl (lv_at hl 1 rfl) ?_
            refine lv_istore_n (lv' := [(2, .int a), (3, .int (nI k7)), (0, .ref mo), (1, .int e1)]) hx hb dX11_claimOf_42 rfl hl (by decide) rfl (fun ls hl => ?_)
            obtain ⟨kd, ekd⟩ : ∃ y : Int32, y = (nI k7) + (-1) := ⟨_, rfl⟩
            refine lv_iinc (v := kd) (lv' := [(3, .int kd), (2, .int a), (0, .ref mo), (1, .int e1)]) hx hb dX11_claimOf_43 hl (k := 1) rfl (by rw [ekd]; rfl) (by decide) rfl (fun ls hl => ?_)
            rw [add_m1] at ekd
            subst ekd
            refine lv_goto (tgt := 9) hx hb dX11_claimOf_46 (by decide) ?_
            exact ih k7 a (by omega) ⟨by omega, by rw [hinv.2, sp_clm, if_neg (fun g => absurd g.2 (Int32.not_lt.mpr c_29))]⟩ _ (lv_sub hl [0, 1, 2, 3] rfl)
          · refine lv_aload_n hx hb dX11_claimOf_32 rfl (lv_at hl 2 rfl) ?_
            refine hk_get (ref := "LightcurveHouseModel") (v := .ref (am 4)) X K hM.1 rfl iX11_claimOf_X11 4 (by decide) (by decide +kernel) (fun _ h => h) rfl dX11_claimOf_33 ?_
            refine lv_iload_n hx hb dX11_claimOf_36 rfl (lv_at hl 0 rfl) ?_
            refine hk_ild X K hM.a4 (vp_in_nI (by omega) (by omega)) dX11_claimOf_37 ?_
            rw [show (μ 4) (nI k7).toNatClampNeg = μ 4 k7 from by rw [nI_clamp (show k7 < 2 ^ 31 by omega)]]
            refine lv_goto (tgt := 42) hx hb dX11_claimOf_38 (by decide) ?_
            refine lv_istore_n (lv' := [(2, .int (μ 4 k7)), (3, .int (nI k7)), (0, .ref mo), (1, .int e1)]) hx hb dX11_claimOf_42 rfl hl (by decide) rfl (fun ls hl => ?_)
            obtain ⟨kd, ekd⟩ : ∃ y : Int32, y = (nI k7) + (-1) := ⟨_, rfl⟩
            refine lv_iinc (v := kd) (lv' := [(3, .int kd), (2, .int (μ 4 k7)), (0, .ref mo), (1, .int e1)]) hx hb dX11_claimOf_43 hl (k := 1) rfl (by rw [ekd]; rfl) (by decide) rfl (fun ls hl => ?_)
            rw [add_m1] at ekd
            subst ekd
            refine lv_goto (tgt := 9) hx hb dX11_claimOf_46 (by decide) ?_
            exact ih k7 (μ 4 k7) (by omega) ⟨by omega, by rw [hinv.2, sp_clm, if_pos ⟨c_20, Int32.not_le.mp c_29⟩]⟩ _ (lv_sub hl [0, 1, 2, 3] rfl)
  exact L9 (cn 1 + 1) (cn 1) 0 (by omega) ⟨Nat.le_refl _, rfl⟩ _ (lv_sub hl [0, 1, 2, 3] rfl)

/-- 1 when an entry has a look and a claim -/
def sp_hf (S : mS) (e : Int32) : Int32 := if 0 < nI (sp_sel S.2.2 e (-1) (S.1 12)).length ∧ 0 < sp_clm (S.2.2 3) (S.2.2 4) e (S.1 1) 0 then 1 else 0
theorem sp_hf_1 {S : mS} {e : Int32} (h : ¬ sp_hf S e = 0) : 0 < (sp_sel S.2.2 e (-1) (S.1 12)).length ∧ 0 < sp_clm (S.2.2 3) (S.2.2 4) e (S.1 1) 0 := by
  unfold sp_hf at h
  by_cases g : 0 < nI (sp_sel S.2.2 e (-1) (S.1 12)).length ∧ 0 < sp_clm (S.2.2 3) (S.2.2 4) e (S.1 1) 0
  · refine ⟨?_, g.2⟩
    rcases Nat.eq_zero_or_pos (sp_sel S.2.2 e (-1) (S.1 12)).length with h0 | h0
    · have g1 := g.1
      rw [h0] at g1
      exact absurd g1 (by decide)
    · exact h0
  · rw [if_neg g] at h
    exact absurd rfl h
theorem hd_X11_claimOf : yX11_claimOf.cls ≠ "java/lang/invoke/MethodHandle" ∧ yX11_claimOf.cls ≠ "java/lang/invoke/VarHandle" ∧ (parseMethodDescriptor yX11_claimOf.desc).map (fun d => d.parameters.length) = some 1 := ⟨by decide, by decide, by decide +kernel⟩
abbrev rmX11_hasFeatures : Room := { frames := 4, cells := 0, slots := 0, locals := 88 }
theorem iX11_hasFeatures_X11 : ∀ w ∈ wsX110, w ∈ wsX11_hasFeatures := by decide +kernel
set_option maxHeartbeats 4000000 in
set_option maxRecDepth 100000 in
theorem c_X11_hasFeatures (E : hk_E) (l : Launch) (H0 : Heap) {mo : Nat} {am : Nat → Nat} {Z : Nat → Prop} {cn : Nat → Nat} {sc : Nat → Int32} {μ : Nat → Nat → Int32} (hM : MW E mo am Z cn sc μ H0) (hZ : ∀ q, Z q → hk_A E q) (hI : Inv (cn, sc, μ)) {e1 : Int32} : hk_M E l yX11_hasFeatures wsX11_hasFeatures rmX11_hasFeatures (Z) [.ref mo, .int e1] H0 (fun z H1 => z = some (.int (sp_hf (cn, sc, μ) e1)) ∧ ∃ (fL fT : Nat → Int32), gRow μ (sp_sel μ e1 (-1) (cn 12)) fL fT ∧ MW E mo am Z (va_up cn 34 (sp_sel μ e1 (-1) (cn 12)).length) sc (scr μ fL fT) H1) := by
  refine hk_M.ofW (cc := cX11_hasFeatures) (maxL := 2) (ret := (some .boolean)) (by decide +kernel) rfl (Nat.le_of_ble_eq_true rfl) ?_
  intro p e s m args below meth c ls Q hQ X hr hlk hnm K hs9 hS hl
  obtain ⟨hx, hb, hml, hown, hts⟩ := id X
  have hAE : ∀ q, (Z) q → hk_A E q := hZ
  have hl : lv_has ls 2 [(0, .ref mo), (1, .int e1)] := hl
  have hnl := hI.1.2.2.1
  have hns := hI.1.1
  have hnp := hI.1.2.1
  dsimp only at hnl hns hnp
  refine lv_aload_n hx hb dX11_hasFeatures_0 rfl (lv_at hl 0 rfl) ?_
  refine lv_iload_n hx hb dX11_hasFeatures_1 rfl (lv_at hl 1 rfl) ?_
  refine lv_iconst (v := (-1)) hx hb dX11_hasFeatures_2 (by decide) ?_
  refine hk_callV 2 (As := [.int e1, .int (-1)]) (rest := []) X K hAE hS hl.1 hM.1 rfl (c_X11_gathers E l H0 hM hZ hI (e1 := e1) (e2 := (-1))) (fun _ h => h) gX11_hasFeatures_X11_gathers rfl ⟨rfl, hd_X11_gathers⟩ rfl ⟨⟨(Nat.le_of_ble_eq_true rfl), (Nat.le_of_ble_eq_true rfl)⟩, (Nat.le_of_ble_eq_true rfl), (Nat.le_of_ble_eq_true rfl)⟩ rfl (Nat.le_of_ble_eq_true rfl) dX11_hasFeatures_3 (fun v9 H1 locsH1 hp hS hzH1 hkH1 => ?_)
  obtain ⟨hv, fL, fT, hg, hM⟩ := hp
  subst hv
  refine lv_aload_n hx hb dX11_hasFeatures_6 rfl (lv_at hl 0 rfl) ?_
  refine hk_get (ref := "LightcurveHouseModel") (v := .int (nI (sp_sel μ e1 (-1) (cn 12)).length)) X K hM.1 rfl iX11_hasFeatures_X11 34 (by decide) (by decide +kernel) (fun _ h => h) rfl dX11_hasFeatures_7 ?_
  refine lv_if_le (tgt := 25) hx hb dX11_hasFeatures_10 (by decide) (fun c_10 => ?_) (fun c_10 => ?_)
  · refine lv_iconst (v := 0) hx hb dX11_hasFeatures_25 (by decide) ?_
    exact hk_zret X hr hlk hQ hS (Nat.le_of_ble_eq_true rfl) (Nat.le_of_ble_eq_true rfl) dX11_hasFeatures_26 (by decide) (⟨by unfold sp_hf; rw [if_neg (fun g => absurd g.1 (Int32.not_lt.mpr c_10))], fL, fT, hg, hM⟩)
  · refine lv_aload_n hx hb dX11_hasFeatures_13 rfl (lv_at hl 0 rfl) ?_
    refine lv_iload_n hx hb dX11_hasFeatures_14 rfl (lv_at hl 1 rfl) ?_
    refine hk_callV 1 (As := [.int e1]) (rest := []) X K hAE hS hl.1 hM.1 rfl (c_X11_claimOf E l H1 hM hns (e1 := e1)) (fun _ h => h.elim) gX11_hasFeatures_X11_claimOf rfl ⟨rfl, hd_X11_claimOf⟩ rfl ⟨⟨(Nat.le_of_ble_eq_true rfl), (Nat.le_of_ble_eq_true rfl)⟩, (Nat.le_of_ble_eq_true rfl), (Nat.le_of_ble_eq_true rfl)⟩ rfl (Nat.le_of_ble_eq_true rfl) dX11_hasFeatures_15 (fun v9 H2 locsH2 hp hS hzH2 hkH2 => ?_)
    obtain ⟨hv, hh⟩ := hp
    subst hv; subst hh
    refine lv_if_le (tgt := 25) hx hb dX11_hasFeatures_18 (by decide) (fun c_18 => ?_) (fun c_18 => ?_)
    · refine lv_iconst (v := 0) hx hb dX11_hasFeatures_25 (by decide) ?_
      exact hk_zret X hr hlk hQ hS (Nat.le_of_ble_eq_true rfl) (Nat.le_of_ble_eq_true rfl) dX11_hasFeatures_26 (by decide) (⟨by unfold sp_hf; rw [if_neg (fun g => absurd g.2 (Int32.not_lt.mpr c_18))], fL, fT, hg, hM⟩)
    · refine lv_iconst (v := 1) hx hb dX11_hasFeatures_21 (by decide) ?_
      refine lv_goto (tgt := 26) hx hb dX11_hasFeatures_22 (by decide) ?_
      exact hk_zret X hr hlk hQ hS (Nat.le_of_ble_eq_true rfl) (Nat.le_of_ble_eq_true rfl) dX11_hasFeatures_26 (by decide) (⟨by unfold sp_hf; rw [if_pos ⟨Int32.not_le.mp c_10, Int32.not_le.mp c_18⟩], fL, fT, hg, hM⟩)

/-- the brightest (by sign 1) and the faintest look among the first n and one -/
def sp_br (fL fT : Nat → Int32) : Nat → Nat
  | 0 => 0
  | n + 1 => if fL (n + 1) - fL (sp_br fL fT n) < 0 ∨ (fL (n + 1) - fL (sp_br fL fT n) = 0 ∧ fT (n + 1) < fT (sp_br fL fT n)) then n + 1 else sp_br fL fT n
def sp_fa (fL fT : Nat → Int32) : Nat → Nat
  | 0 => 0
  | n + 1 => if fL (sp_fa fL fT n) - fL (n + 1) < 0 ∨ (fL (sp_fa fL fT n) - fL (n + 1) = 0 ∧ fT (n + 1) < fT (sp_fa fL fT n)) then n + 1 else sp_fa fL fT n
theorem sp_br_le {fL fT : Nat → Int32} (n : Nat) : sp_br fL fT n ≤ n := by
  induction n with
  | zero => exact Nat.le_refl _
  | succ n ih => rw [sp_br]; split <;> omega
theorem sp_fa_le {fL fT : Nat → Int32} (n : Nat) : sp_fa fL fT n ≤ n := by
  induction n with
  | zero => exact Nat.le_refl _
  | succ n ih => rw [sp_fa]; split <;> omega
theorem sp_br_cg {fL fT fL' fT' : Nat → Int32} {m : Nat} (h : ∀ i, i < m → fL i = fL' i ∧ fT i = fT' i) (n : Nat) (hn : n < m) : sp_br fL fT n = sp_br fL' fT' n := by
  induction n with
  | zero => rfl
  | succ n ih =>
    have hb : sp_br fL' fT' n ≤ n := sp_br_le n
    rw [sp_br, sp_br, ih (by omega), (h _ hn).1, (h _ hn).2, (h (sp_br fL' fT' n) (by omega)).1, (h (sp_br fL' fT' n) (by omega)).2]
theorem sp_fa_cg {fL fT fL' fT' : Nat → Int32} {m : Nat} (h : ∀ i, i < m → fL i = fL' i ∧ fT i = fT' i) (n : Nat) (hn : n < m) : sp_fa fL fT n = sp_fa fL' fT' n := by
  induction n with
  | zero => rfl
  | succ n ih =>
    have hb : sp_fa fL' fT' n ≤ n := sp_fa_le n
    rw [sp_fa, sp_fa, ih (by omega), (h _ hn).1, (h _ hn).2, (h (sp_fa fL' fT' n) (by omega)).1, (h (sp_fa fL' fT' n) (by omega)).2]
/-- a feature of the first m of two rows -/
def sp_ftA (fL fT : Nat → Int32) (m : Nat) (claim what : Int32) : Int32 :=
  if what = 0 then fL (sp_fa fL fT (m - 1)) - fL (sp_br fL fT (m - 1)) else if what = 1 then claim else rmd (fT (sp_br fL fT (m - 1)) - fT (sp_fa fL fT (m - 1))) claim * 100 / claim
def sp_ft (μ : Nat → Nat → Int32) (L : List Nat) (claim what : Int32) : Int32 := sp_ftA (fun i => sp_light μ (L.getD i 0)) (fun i => sp_time μ (L.getD i 0)) L.length claim what
theorem ft_eq {μ : Nat → Nat → Int32} {L : List Nat} {fL fT : Nat → Int32} {claim what : Int32} (hg : gRow μ L fL fT) (h0 : 0 < L.length) : sp_ftA fL fT L.length claim what = sp_ft μ L claim what := by
  have hb := sp_br_cg hg (L.length - 1) (by omega)
  have hf := sp_fa_cg hg (L.length - 1) (by omega)
  have hb2 := sp_br_le (fL := fun i => sp_light μ (L.getD i 0)) (fT := fun i => sp_time μ (L.getD i 0)) (L.length - 1)
  have hf2 := sp_fa_le (fL := fun i => sp_light μ (L.getD i 0)) (fT := fun i => sp_time μ (L.getD i 0)) (L.length - 1)
  unfold sp_ft sp_ftA
  rw [hb, hf, (hg (sp_br _ _ _) (by omega)).1, (hg (sp_fa _ _ _) (by omega)).1, (hg (sp_br _ _ _) (by omega)).2, (hg (sp_fa _ _ _) (by omega)).2]
