def sp_sm (f : Nat → Int32) : Nat → Int32
  | 0 => 0
  | k + 1 => sp_sm f k + f k
theorem sp_sm_cg {f g : Nat → Int32} (n : Nat) (h : ∀ i, i < n → f i = g i) : sp_sm f n = sp_sm g n := by
  induction n with
  | zero => rfl
  | succ n ih => rw [sp_sm, sp_sm, h n (by omega), ih (fun i hi => h i (by omega))]
/-- the mean light of chosen looks -/
def sp_mn (μ : Nat → Nat → Int32) (L : List Nat) : Int32 := qd (sp_sm (fun i => sp_light μ (L.getD i 0)) L.length) (nI L.length)
theorem mn_eq {μ : Nat → Nat → Int32} {L : List Nat} {fL fT : Nat → Int32} (hg : gRow μ L fL fT) : some (Value.int (qd (sp_sm fL L.length) (nI L.length))) = some (Value.int (sp_mn μ L)) := by
  unfold sp_mn
  rw [sp_sm_cg L.length (fun i hi => (hg i hi).1)]
theorem nI_gt0 {n : Nat} (h : 0 < n) (hn : n < 2 ^ 31) : 0 < nI n := by
  rw [← nI_0]
  exact nI_lt h hn
/-- how often a number can be halved, rounded down, before it is 1 -/
def hlvN : Nat → Nat → Nat
  | 0, _ => 0
  | f + 1, n => if n ≤ 1 then 0 else hlvN f (n / 2) + 1
theorem hlvN_0 {f n : Nat} (h : n ≤ 1) : hlvN f n = 0 := by
  cases f with
  | zero => rfl
  | succ f => rw [hlvN, if_pos h]
theorem hlvN_1 {f n : Nat} (h : ¬ n ≤ 1) (hf : n < 2 ^ f) : ∃ f7, f = f7 + 1 ∧ n / 2 < 2 ^ f7 ∧ hlvN f n = hlvN f7 (n / 2) + 1 := by
  cases f with
  | zero => exact absurd hf (by omega)
  | succ f => exact ⟨f, rfl, by rw [Nat.pow_succ] at hf; omega, by rw [hlvN, if_neg h]⟩
def sp_hlv (c : Int32) : Nat := hlvN 31 (ix c)
theorem Inv.ent {cn : Nat → Nat} {sc : Nat → Int32} {μ : Nat → Nat → Int32} (h : Inv (cn, sc, μ)) {p : Int32} (hp : isS (cn 1) p) : ∃ e : Nat, e < cn 1 ∧ μ 3 (ix p) = nI e := by
  have hns := h.1.1
  dsimp only at hns
  obtain ⟨j, hj, rfl⟩ := isS_ix (by omega) hp
  rw [ix_nI (by omega)]
  obtain ⟨e, he, h1, h2⟩ := (h.2.2.1 j hj).2.1
  exact ⟨e, by omega, h1⟩
abbrev rmX11_meanOf : Room := { frames := 1, cells := 0, slots := 0, locals := 21 }
theorem iX11_meanOf_X11 : ∀ w ∈ wsX110, w ∈ wsX11_meanOf := by decide +kernel
set_option maxHeartbeats 4000000 in
set_option maxRecDepth 100000 in
theorem c_X11_meanOf (E : hk_E) (l : Launch) (H0 : Heap) {mo : Nat} {am : Nat → Nat} {Z : Nat → Prop} {cn : Nat → Nat} {sc : Nat → Int32} {μ : Nat → Nat → Int32} (hM : MW E mo am Z cn sc μ H0) (h0 : 0 < cn 34) (hm8 : cn 34 ≤ 80) : hk_M E l yX11_meanOf wsX11_meanOf rmX11_meanOf (fun _ => False) [.ref mo] H0 (fun z H1 => z = some (.int (qd (sp_sm (μ 35) (cn 34)) (nI (cn 34)))) ∧ H0 = H1) := by
  refine hk_M.ofW (cc := cX11_meanOf) (maxL := 3) (ret := (some .int)) (by decide +kernel) rfl (Nat.le_of_ble_eq_true rfl) ?_
  intro p e s m args below meth c ls Q hQ X hr hlk hnm K hs9 hS hl
  obtain ⟨hx, hb, hml, hown, hts⟩ := id X
  have hAE : ∀ q, (fun _ => False) q → hk_A E q := fun _ h => h.elim
  have hl : lv_has ls 3 [(0, .ref mo)] := hl
  refine lv_iconst (v := 0) hx hb dX11_meanOf_0 (by decide) ?_
  refine lv_istore_n (lv' := [(1, .int 0), (0, .ref mo)]) hx hb dX11_meanOf_1 rfl hl (by decide) rfl (fun ls hl => ?_)
  refine lv_iconst (v := 0) hx hb dX11_meanOf_2 (by decide) ?_
  refine lv_topi (fun z_1 ez_1 => ?_)
  have ez_1 : z_1 = nI 0 := ez_1
  subst ez_1
  refine lv_istore_n (lv' := [(2, .int (nI 0)), (1, .int 0), (0, .ref mo)]) hx hb dX11_meanOf_3 rfl hl (by decide) rfl (fun ls hl => ?_)
  have L4 : ∀ (n9 : Nat) (k : Nat), cn 34 + 1 ≤ k + n9 → (k ≤ cn 34) → ∀ (ls : Array Slot), lv_has ls 3 [(2, .int (nI k)), (1, .int (sp_sm (μ 35) k)), (0, .ref mo)] → W p l e rmX11_meanOf s m args below meth c H0 [] 0 0 Q (F0 m 4 ls []) := by
    intro n9
    induction n9 with
    | zero =>
      intro k hm hi1 ls hl
      exact absurd hm (by omega)
    | succ n9 ih =>
      intro k hm hi1 ls hl
      refine lv_iload_n hx hb dX11_meanOf_4 rfl (lv_at hl 0 rfl) ?_
      refine lv_aload_n hx hb dX11_meanOf_5 rfl (lv_at hl 2 rfl) ?_
      refine hk_get (ref := "LightcurveHouseModel") (v := .int (nI (cn 34))) X K hM.1 rfl iX11_meanOf_X11 34 (by decide) (by decide +kernel) (fun _ h => h) rfl dX11_meanOf_6 ?_
      refine lv_icmp_ge (tgt := 27) hx hb dX11_meanOf_9 (by decide) (fun c_9 => ?_) (fun c_9 => ?_)
      · have hkk : cn 34 ≤ k := (nI_leI (by omega) (by omega)).mp c_9
        refine lv_iload_n hx hb dX11_meanOf_27 rfl (lv_at hl 1 rfl) ?_
        refine lv_aload_n hx hb dX11_meanOf_28 rfl (lv_at hl 2 rfl) ?_
        refine hk_get (ref := "LightcurveHouseModel") (v := .int (nI (cn 34))) X K hM.1 rfl iX11_meanOf_X11 34 (by decide) (by decide +kernel) (fun _ h => h) rfl dX11_meanOf_29 ?_
        refine hk_callS 2 (As := [.int (sp_sm (μ 35) k), .int (nI (cn 34))]) (rest := []) X K hAE hS hl.1 (c_X11_part E l H0 (n := sp_sm (μ 35) k) (d := nI (cn 34)) (nI_gt0 h0 (by omega))) (fun _ h => h.elim) gX11_meanOf_X11_part rfl hd_X11_part rfl ⟨⟨(Nat.le_of_ble_eq_true rfl), (Nat.le_of_ble_eq_true rfl)⟩, (Nat.le_of_ble_eq_true rfl), (Nat.le_of_ble_eq_true rfl)⟩ rfl (Nat.le_of_ble_eq_true rfl) dX11_meanOf_32 (fun v9 H2 locsH2 hp hS hzH2 hkH2 => ?_)
        obtain ⟨hv, hh⟩ := hp
        subst hv; subst hh
        exact hk_iret X hr hlk hQ hS (Nat.le_of_ble_eq_true rfl) (Nat.le_of_ble_eq_true rfl) dX11_meanOf_35 (by
          have hkn : k = cn 34 := by omega
          subst hkn
          exact ⟨rfl, rfl⟩)
      · have hkk : k < cn 34 := Nat.lt_of_not_le (fun h => c_9 (nI_le h (by omega)))
        refine lv_iload_n hx hb dX11_meanOf_12 rfl (lv_at hl 1 rfl) ?_
        refine lv_aload_n hx hb dX11_meanOf_13 rfl (lv_at hl 2 rfl) ?_
        refine hk_get (ref := "LightcurveHouseModel") (v := .ref (am 35)) X K hM.1 rfl iX11_meanOf_X11 35 (by decide) (by decide +kernel) (fun _ h => h) rfl dX11_meanOf_14 ?_
        refine lv_iload_n hx hb dX11_meanOf_17 rfl (lv_at hl 0 rfl) ?_
        refine hk_ild X K hM.a35 (vp_in_nI (by omega) (by omega)) dX11_meanOf_18 ?_
        rw [show (μ 35) (nI k).toNatClampNeg = μ 35 k from by rw [nI_clamp (show k < 2 ^ 31 by omega)]]
        refine lv_iadd hx hb dX11_meanOf_19 ?_
        refine lv_topi (fun s1 es1 => ?_)
        have es1 : s1 = sp_sm (μ 35) (k + 1) := es1
        subst es1
        refine lv_istore_n (lv' := [(1, .int (sp_sm (μ 35) (k + 1))), (2, .int (nI k)), (0, .ref mo)]) hx hb dX11_meanOf_20 rfl hl (by decide) rfl (fun ls hl => ?_)
        obtain ⟨k1, ek1⟩ : ∃ y : Int32, y = (nI k) + 1 := ⟨_, rfl⟩
        refine lv_iinc (v := k1) (lv' := [(2, .int k1), (1, .int (sp_sm (μ 35) (k + 1))), (0, .ref mo)]) hx hb dX11_meanOf_21 hl (k := 1) rfl (by rw [ek1]; rfl) (by decide) rfl (fun ls hl => ?_)
        rw [nI_1] at ek1
        subst ek1
        refine lv_goto (tgt := 4) hx hb dX11_meanOf_24 (by decide) ?_
        exact ih (k + 1) (by omega) (by omega) _ (lv_sub hl [0, 1, 2] rfl)
  exact L4 (cn 34 + 1) 0 (by omega) (Nat.zero_le _) _ (lv_sub hl [0, 1, 2] rfl)

def cd_mean (p0 : Int32) (S : mS) : Int32 := if isS (S.1 1) p0 then (if nI (selS S (S.2.2 3 (ix p0))).length = 0 then 2 else 0) else 1
def an_mean (p0 : Int32) (S : mS) : Int32 := sp_mn S.2.2 (selS S (S.2.2 3 (ix p0)))
def st_mean (p0 : Int32) (S : mS) : mS := S
theorem hd_X11_meanOf : yX11_meanOf.cls ≠ "java/lang/invoke/MethodHandle" ∧ yX11_meanOf.cls ≠ "java/lang/invoke/VarHandle" ∧ (parseMethodDescriptor yX11_meanOf.desc).map (fun d => d.parameters.length) = some 0 := ⟨by decide, by decide, by decide +kernel⟩
abbrev rmX11_mean : Room := { frames := 5, cells := 0, slots := 0, locals := 109 }
theorem iX11_mean_X11 : ∀ w ∈ wsX110, w ∈ wsX11_mean := by decide +kernel
set_option maxHeartbeats 4000000 in
set_option maxRecDepth 100000 in
theorem c_X11_mean (E : hk_E) (l : Launch) (H0 : Heap) {mo : Nat} {am : Nat → Nat} {Z : Nat → Prop} {cn : Nat → Nat} {sc : Nat → Int32} {μ : Nat → Nat → Int32} (hM : MW E mo am Z cn sc μ H0) (hZ : ∀ q, Z q → hk_A E q) {p0 : Int32} (hI : Inv (cn, sc, μ))  : hk_M E l yX11_mean wsX11_mean rmX11_mean (Z) [.ref mo, .int p0] H0 (mpost E mo am Z (cd_mean p0 (cn, sc, μ)) (an_mean p0 (cn, sc, μ)) (cn, sc, μ) (st_mean p0 (cn, sc, μ))) := by
  refine hk_M.ofW (cc := cX11_mean) (maxL := 2) (ret := (some .int)) (by decide +kernel) rfl (Nat.le_of_ble_eq_true rfl) ?_
  intro p e s m args below meth c ls Q hQ X hr hlk hnm K hs9 hS hl
  obtain ⟨hx, hb, hml, hown, hts⟩ := id X
  have hAE : ∀ q, (Z) q → hk_A E q := hZ
  have hl : lv_has ls 2 [(0, .ref mo), (1, .int p0)] := hl
  have hnl := hI.1.2.2.1
  have hns := hI.1.1
  have hnp := hI.1.2.1
  dsimp only at hnl hns hnp
  refine lv_aload_n hx hb dX11_mean_0 rfl (lv_at hl 0 rfl) ?_
  refine lv_aload_n hx hb dX11_mean_1 rfl (lv_at hl 0 rfl) ?_
  refine lv_iload_n hx hb dX11_mean_2 rfl (lv_at hl 1 rfl) ?_
  refine hk_callV 1 (As := [.int p0]) (rest := [.ref mo]) X K hAE hS hl.1 hM.1 rfl (c_X11_isStar E l H0 hM hns (i := p0)) (fun _ h => h.elim) gX11_mean_X11_isStar rfl ⟨rfl, hd_X11_isStar⟩ rfl ⟨⟨(Nat.le_of_ble_eq_true rfl), (Nat.le_of_ble_eq_true rfl)⟩, (Nat.le_of_ble_eq_true rfl), (Nat.le_of_ble_eq_true rfl)⟩ rfl (Nat.le_of_ble_eq_true rfl) dX11_mean_3 (fun v9 H1 locsH1 hp hS hzH1 hkH1 => ?_)
  obtain ⟨hv, hh⟩ := hp
  subst hh
  rcases hv with ⟨hv, c_3⟩ | ⟨hv, c_3⟩
  · subst hv
    refine lv_if_eq (tgt := 13) hx hb dX11_mean_6 (by decide) (fun c_6 => ?_) (fun c_6 => ?_)
    · exact absurd c_6 (by decide)
    · refine lv_iconst (v := 0) hx hb dX11_mean_9 (by decide) ?_
      refine lv_goto (tgt := 14) hx hb dX11_mean_10 (by decide) ?_
      refine hk_put (ref := "LightcurveHouseModel") X K hM.1 rfl iX11_mean_X11 tyX11 tyX11_ok nmX11 hS hM.2.2.2.2.1 33 (by decide) (by decide +kernel) (fun _ h => h) (by decide +kernel) rfl rfl (Nat.le_of_ble_eq_true rfl) dX11_mean_14 (fun H2 locsH2 hOH2 hzH2 hqH2 hS => ?_)
      rw [mf_33] at hOH2
      have hM := MW.obj hM hOH2 hqH2
      refine lv_aload_n hx hb dX11_mean_17 rfl (lv_at hl 0 rfl) ?_
      refine hk_get (ref := "LightcurveHouseModel") (v := .int 0) X K hM.1 rfl iX11_mean_X11 33 (by decide) (by decide +kernel) (fun _ h => h) rfl dX11_mean_18 ?_
      refine lv_if_ne (tgt := 45) hx hb dX11_mean_21 (by decide) (fun c_21 => ?_) (fun c_21 => ?_)
      · exact absurd rfl c_21
      · refine lv_aload_n hx hb dX11_mean_24 rfl (lv_at hl 0 rfl) ?_
        refine lv_iload_n hx hb dX11_mean_25 rfl (lv_at hl 1 rfl) ?_
        refine hk_callV 1 (As := [.int p0]) (rest := []) X K hAE hS hl.1 hM.1 rfl (c_X11_gathersOf E l H2 hM hZ hI (si := p0) c_3) (fun _ h => h) gX11_mean_X11_gathersOf rfl ⟨rfl, hd_X11_gathersOf⟩ rfl ⟨⟨(Nat.le_of_ble_eq_true rfl), (Nat.le_of_ble_eq_true rfl)⟩, (Nat.le_of_ble_eq_true rfl), (Nat.le_of_ble_eq_true rfl)⟩ rfl (Nat.le_of_ble_eq_true rfl) dX11_mean_26 (fun v9 H3 locsH3 hp hS hzH3 hkH3 => ?_)
        obtain ⟨hv, fL, fT, hg, hM⟩ := hp
        subst hv
        refine lv_aload_n hx hb dX11_mean_29 rfl (lv_at hl 0 rfl) ?_
        refine lv_aload_n hx hb dX11_mean_30 rfl (lv_at hl 0 rfl) ?_
        refine hk_get (ref := "LightcurveHouseModel") (v := .int (nI (sp_sel μ (μ 3 (ix p0)) (-1) (cn 12)).length)) X K hM.1 rfl iX11_mean_X11 34 (by decide) (by decide +kernel) (fun _ h => h) rfl dX11_mean_31 ?_
        refine lv_if_ne (tgt := 41) hx hb dX11_mean_34 (by decide) (fun c_34 => ?_) (fun c_34 => ?_)
        · have hlen : 0 < (sp_sel μ (μ 3 (ix p0)) (-1) (cn 12)).length := Nat.pos_of_ne_zero (fun h => c_34 (by rw [h]; rfl))
          refine lv_iconst (v := 0) hx hb dX11_mean_41 (by decide) ?_
          refine hk_put (ref := "LightcurveHouseModel") X K hM.1 rfl iX11_mean_X11 tyX11 tyX11_ok nmX11 hS hM.2.2.2.2.1 33 (by decide) (by decide +kernel) (fun _ h => h) (by decide +kernel) rfl rfl (Nat.le_of_ble_eq_true rfl) dX11_mean_42 (fun H4 locsH4 hOH4 hzH4 hqH4 hS => ?_)
          rw [mf_33] at hOH4
          have hM := MW.obj hM hOH4 hqH4
          rw [va_up2] at hM
          refine lv_aload_n hx hb dX11_mean_45 rfl (lv_at hl 0 rfl) ?_
          refine hk_get (ref := "LightcurveHouseModel") (v := .int 0) X K hM.1 rfl iX11_mean_X11 33 (by decide) (by decide +kernel) (fun _ h => h) rfl dX11_mean_46 ?_
          refine lv_if_le (tgt := 56) hx hb dX11_mean_49 (by decide) (fun c_49 => ?_) (fun c_49 => ?_)
          · refine lv_aload_n hx hb dX11_mean_56 rfl (lv_at hl 0 rfl) ?_
            refine hk_callV 0 (As := []) (rest := []) X K hAE hS hl.1 hM.1 rfl (c_X11_meanOf E l H4 hM hlen (show _ ≤ 80 from sel80 hnl)) (fun _ h => h.elim) gX11_mean_X11_meanOf rfl ⟨rfl, hd_X11_meanOf⟩ rfl ⟨⟨(Nat.le_of_ble_eq_true rfl), (Nat.le_of_ble_eq_true rfl)⟩, (Nat.le_of_ble_eq_true rfl), (Nat.le_of_ble_eq_true rfl)⟩ rfl (Nat.le_of_ble_eq_true rfl) dX11_mean_57 (fun v9 H5 locsH5 hp hS hzH5 hkH5 => ?_)
            obtain ⟨hv, hh⟩ := hp
            have hv := hv.trans (mn_eq hg)
            subst hv; subst hh
            exact hk_iret X hr hlk hQ hS (Nat.le_of_ble_eq_true rfl) (Nat.le_of_ble_eq_true rfl) dX11_mean_60 (mfin0 hM (by unfold cd_mean selS; rw [if_pos c_3, if_neg c_34]) rfl rfl agr_scr)
          · exact absurd (by decide) c_49
        · refine lv_iconst (v := 2) hx hb dX11_mean_37 (by decide) ?_
          refine lv_goto (tgt := 42) hx hb dX11_mean_38 (by decide) ?_
          refine hk_put (ref := "LightcurveHouseModel") X K hM.1 rfl iX11_mean_X11 tyX11 tyX11_ok nmX11 hS hM.2.2.2.2.1 33 (by decide) (by decide +kernel) (fun _ h => h) (by decide +kernel) rfl rfl (Nat.le_of_ble_eq_true rfl) dX11_mean_42 (fun H6 locsH6 hOH6 hzH6 hqH6 hS => ?_)
          rw [mf_33] at hOH6
          have hM := MW.obj hM hOH6 hqH6
          rw [va_up2] at hM
          refine lv_aload_n hx hb dX11_mean_45 rfl (lv_at hl 0 rfl) ?_
          refine hk_get (ref := "LightcurveHouseModel") (v := .int 2) X K hM.1 rfl iX11_mean_X11 33 (by decide) (by decide +kernel) (fun _ h => h) rfl dX11_mean_46 ?_
          refine lv_if_le (tgt := 56) hx hb dX11_mean_49 (by decide) (fun c_49 => ?_) (fun c_49 => ?_)
          · exact absurd c_49 (by decide)
          · refine lv_iconst (v := 0) hx hb dX11_mean_52 (by decide) ?_
            refine lv_goto (tgt := 60) hx hb dX11_mean_53 (by decide) ?_
            exact hk_iret X hr hlk hQ hS (Nat.le_of_ble_eq_true rfl) (Nat.le_of_ble_eq_true rfl) dX11_mean_60 (mfin1 (v := 2) hM (by unfold cd_mean selS; rw [if_pos c_3, if_pos c_34]) (by decide) rfl rfl agr_scr)
  · subst hv
    refine lv_if_eq (tgt := 13) hx hb dX11_mean_6 (by decide) (fun c_6 => ?_) (fun c_6 => ?_)
    · refine lv_iconst (v := 1) hx hb dX11_mean_13 (by decide) ?_
      refine hk_put (ref := "LightcurveHouseModel") X K hM.1 rfl iX11_mean_X11 tyX11 tyX11_ok nmX11 hS hM.2.2.2.2.1 33 (by decide) (by decide +kernel) (fun _ h => h) (by decide +kernel) rfl rfl (Nat.le_of_ble_eq_true rfl) dX11_mean_14 (fun H7 locsH7 hOH7 hzH7 hqH7 hS => ?_)
      rw [mf_33] at hOH7
      have hM := MW.obj hM hOH7 hqH7
      refine lv_aload_n hx hb dX11_mean_17 rfl (lv_at hl 0 rfl) ?_
      refine hk_get (ref := "LightcurveHouseModel") (v := .int 1) X K hM.1 rfl iX11_mean_X11 33 (by decide) (by decide +kernel) (fun _ h => h) rfl dX11_mean_18 ?_
      refine lv_if_ne (tgt := 45) hx hb dX11_mean_21 (by decide) (fun c_21 => ?_) (fun c_21 => ?_)
      · refine lv_aload_n hx hb dX11_mean_45 rfl (lv_at hl 0 rfl) ?_
        refine hk_get (ref := "LightcurveHouseModel") (v := .int 1) X K hM.1 rfl iX11_mean_X11 33 (by decide) (by decide +kernel) (fun _ h => h) rfl dX11_mean_46 ?_
        refine lv_if_le (tgt := 56) hx hb dX11_mean_49 (by decide) (fun c_49 => ?_) (fun c_49 => ?_)
        · exact absurd c_49 (by decide)
        · refine lv_iconst (v := 0) hx hb dX11_mean_52 (by decide) ?_
          refine lv_goto (tgt := 60) hx hb dX11_mean_53 (by decide) ?_
          exact hk_iret X hr hlk hQ hS (Nat.le_of_ble_eq_true rfl) (Nat.le_of_ble_eq_true rfl) dX11_mean_60 (mfin1 (v := 1) hM (by unfold cd_mean; rw [if_neg c_3]) (by decide) rfl rfl agr_thr)
      · exact absurd c_21 (by decide)
    · exact absurd (by decide) c_6

