theorem jpA_congr {fT fT' : Nat → Int32} {P : Int32} {n x : Nat} {f f' : Nat → Int32} (hx : x < n) (hT : ∀ i, i < n → fT i = fT' i) (m : Nat) (hf : ∀ t, t < m → f t = f' t ∧ ix (f' t) < n) : jpA fT P x f m = jpA fT' P x f' m := by
  induction m with
  | zero => rfl
  | succ m ih =>
    obtain ⟨e, h⟩ := hf m (Nat.lt_succ_self m)
    rw [jpA, jpA, ih (fun t ht => hf t (by omega)), e]
    unfold ahd
    rw [hT x hx, hT _ h]
theorem ordA_congr {fT fT' : Nat → Int32} {P : Int32} {n : Nat} {g g' : Nat → Int32} (hn : n < 2 ^ 31) (hT : ∀ i, i < n → fT i = fT' i) (m : Nat) (hm : m ≤ n) : ∀ t, t < m → ordA fT P g m t = ordA fT' P g' m t := by
  induction m with
  | zero => intro t h; exact absurd h (Nat.not_lt_zero _)
  | succ m ih =>
    have ih := ih (by omega)
    have hj : jpA fT P m (ordA fT P g m) m = jpA fT' P m (ordA fT' P g' m) m := jpA_congr (n := n) (by omega) hT m (fun t ht => ⟨ih t ht, by
      obtain ⟨j, hj, h⟩ := ordA_in (fT := fT') (P := P) (g := g') m t ht
      rw [h, ix_nI (by omega)]; omega⟩)
    intro t ht
    rw [ordA, ordA, ← hj]
    have hp : jpA fT P m (ordA fT P g m) m ≤ m := jpA_le m
    unfold insA upd shf
    by_cases e : t = jpA fT P m (ordA fT P g m) m
    · rw [if_pos e, if_pos e]
    · rw [if_neg e, if_neg e]
      by_cases g9 : jpA fT P m (ordA fT P g m) m < t ∧ t ≤ m
      · rw [if_pos g9, if_pos g9]
        exact ih (t - 1) (by omega)
      · rw [if_neg g9, if_neg g9]
        exact ih t (by omega)
theorem sumA_congr {fL fL' o o' : Nat → Int32} {m : Nat} (h : ∀ t, t < m → fL (ix (o t)) = fL' (ix (o' t))) (k : Nat) (hk : k ≤ m) : sumA fL o m k = sumA fL' o' m k := by
  induction k with
  | zero => rfl
  | succ k ih =>
    rw [sumA, sumA, ih (by omega), h k (by omega), h (if k + 1 = m then 0 else k + 1) (by split <;> omega)]
/-- the length of the string of chosen looks, folded by P -/
def sp_str (μ : Nat → Nat → Int32) (L : List Nat) (P : Int32) : Int32 := sumA (fun i => sp_light μ (L.getD i 0)) (ordA (fun i => sp_time μ (L.getD i 0)) P (fun _ => 0) L.length) L.length L.length
theorem str_eq {μ : Nat → Nat → Int32} {L : List Nat} {P : Int32} {fL fT g : Nat → Int32} {n : Nat} (hg : gRow μ L fL fT) (hn : n = L.length) (h8 : n ≤ 80) : some (Value.int (sumA fL (ordA fT P g n) n n)) = some (Value.int (sp_str μ L P)) := by
  subst hn
  have ho := ordA_congr (P := P) (g := g) (g' := fun _ => 0) (show L.length < 2 ^ 31 by omega) (fun i hi => (hg i hi).2) L.length (Nat.le_refl _)
  unfold sp_str
  rw [sumA_congr (fL' := fun i => sp_light μ (L.getD i 0)) (o' := ordA (fun i => sp_time μ (L.getD i 0)) P (fun _ => 0) L.length) (fun t ht => ?_) _ (Nat.le_refl _)]
  rw [ho t ht]
  obtain ⟨j, hj, h⟩ := ordA_in (fT := fun i => sp_time μ (L.getD i 0)) (P := P) (g := fun _ => 0) L.length t ht
  rw [h, ix_nI (by omega)]
  exact (hg j hj).1
theorem per_pos {x : Int32} (h : inr x 30 1000000) : 0 < x := by
  have h1 := h.1
  rw [i_le] at h1
  rw [i_lt, i_0]
  have e : (30 : Int32).toInt = 30 := rfl
  omega
theorem agr_all {cn : Nat → Nat} {sc : Nat → Int32} {μ : Nat → Nat → Int32} {n : Nat} {v : Int32} {f g o : Nat → Int32} : agr (cn, sc, μ) (va_up cn 34 n, va_up sc 33 v, va_up (scr μ f g) 37 o) := fun k hk => ⟨up34 hk, (if_neg (show ¬ k = 33 by omega)).symm, by
  show μ k = va_up (va_up (va_up μ 35 f) 36 g) 37 o k
  unfold va_up
  rw [if_neg (by omega), if_neg (by omega), if_neg (by omega)]⟩
theorem sel80 {μ : Nat → Nat → Int32} {e1 e2 : Int32} {n : Nat} (h : n ≤ 80) : (sp_sel μ e1 e2 n).length ≤ 80 := Nat.le_trans (sp_sel_le n) h
def cd_string (p0 p1 : Int32) (S : mS) : Int32 := if isS (S.1 1) p0 then (if inr p1 30 1000000 then 0 else 2) else 1
def an_string (p0 p1 : Int32) (S : mS) : Int32 := sp_str S.2.2 (sp_sel S.2.2 (S.2.2 3 (ix p0)) (-1) (S.1 12)) p1
def st_string (p0 p1 : Int32) (S : mS) : mS := S
theorem hd_X11_gathersOf : yX11_gathersOf.cls ≠ "java/lang/invoke/MethodHandle" ∧ yX11_gathersOf.cls ≠ "java/lang/invoke/VarHandle" ∧ (parseMethodDescriptor yX11_gathersOf.desc).map (fun d => d.parameters.length) = some 1 := ⟨by decide, by decide, by decide +kernel⟩
theorem hd_X11_stringOf : yX11_stringOf.cls ≠ "java/lang/invoke/MethodHandle" ∧ yX11_stringOf.cls ≠ "java/lang/invoke/VarHandle" ∧ (parseMethodDescriptor yX11_stringOf.desc).map (fun d => d.parameters.length) = some 1 := ⟨by decide, by decide, by decide +kernel⟩
abbrev rmX11_string : Room := { frames := 5, cells := 0, slots := 0, locals := 109 }
theorem iX11_string_X11 : ∀ w ∈ wsX110, w ∈ wsX11_string := by decide +kernel
set_option maxHeartbeats 4000000 in
set_option maxRecDepth 100000 in
theorem c_X11_string (E : hk_E) (l : Launch) (H0 : Heap) {mo : Nat} {am : Nat → Nat} {Z : Nat → Prop} {cn : Nat → Nat} {sc : Nat → Int32} {μ : Nat → Nat → Int32} (hM : MW E mo am Z cn sc μ H0) (hZ : ∀ q, Z q → hk_A E q) {p0 p1 : Int32} (hI : Inv (cn, sc, μ))  : hk_M E l yX11_string wsX11_string rmX11_string (Z) [.ref mo, .int p0, .int p1] H0 (mpost E mo am Z (cd_string p0 p1 (cn, sc, μ)) (an_string p0 p1 (cn, sc, μ)) (cn, sc, μ) (st_string p0 p1 (cn, sc, μ))) := by
  refine hk_M.ofW (cc := cX11_string) (maxL := 3) (ret := (some .int)) (by decide +kernel) rfl (Nat.le_of_ble_eq_true rfl) ?_
  intro p e s m args below meth c ls Q hQ X hr hlk hnm K hs9 hS hl
  obtain ⟨hx, hb, hml, hown, hts⟩ := id X
  have hAE : ∀ q, (Z) q → hk_A E q := hZ
  have hl : lv_has ls 3 [(0, .ref mo), (1, .int p0), (2, .int p1)] := hl
  have hnl := hI.1.2.2.1
  have hns := hI.1.1
  have hnp := hI.1.2.1
  dsimp only at hnl hns hnp
  refine lv_aload_n hx hb dX11_string_0 rfl (lv_at hl 0 rfl) ?_
  refine lv_aload_n hx hb dX11_string_1 rfl (lv_at hl 0 rfl) ?_
  refine lv_iload_n hx hb dX11_string_2 rfl (lv_at hl 1 rfl) ?_
  refine hk_callV 1 (As := [.int p0]) (rest := [.ref mo]) X K hAE hS hl.1 hM.1 rfl (c_X11_isStar E l H0 hM hns (i := p0)) (fun _ h => h.elim) gX11_string_X11_isStar rfl ⟨rfl, hd_X11_isStar⟩ rfl ⟨⟨(Nat.le_of_ble_eq_true rfl), (Nat.le_of_ble_eq_true rfl)⟩, (Nat.le_of_ble_eq_true rfl), (Nat.le_of_ble_eq_true rfl)⟩ rfl (Nat.le_of_ble_eq_true rfl) dX11_string_3 (fun v9 H1 locsH1 hp hS hzH1 hkH1 => ?_)
  obtain ⟨hv, hh⟩ := hp
  subst hh
  rcases hv with ⟨hv, c_3⟩ | ⟨hv, c_3⟩
  · subst hv
    refine lv_if_ne (tgt := 13) hx hb dX11_string_6 (by decide) (fun c_6 => ?_) (fun c_6 => ?_)
    · refine lv_iload_n hx hb dX11_string_13 rfl (lv_at hl 2 rfl) ?_
      refine hk_callS 1 (As := [.int p1]) (rest := [.ref mo]) X K hAE hS hl.1 (c_X11_isPeriod E l H0 (a := p1)) (fun _ h => h.elim) gX11_string_X11_isPeriod rfl hd_X11_isPeriod rfl ⟨⟨(Nat.le_of_ble_eq_true rfl), (Nat.le_of_ble_eq_true rfl)⟩, (Nat.le_of_ble_eq_true rfl), (Nat.le_of_ble_eq_true rfl)⟩ rfl (Nat.le_of_ble_eq_true rfl) dX11_string_14 (fun v9 H2 locsH2 hp hS hzH2 hkH2 => ?_)
      obtain ⟨hv, hh⟩ := hp
      subst hh
      rcases hv with ⟨hv, c_14⟩ | ⟨hv, c_14⟩
      · subst hv
        refine lv_if_ne (tgt := 24) hx hb dX11_string_17 (by decide) (fun c_17 => ?_) (fun c_17 => ?_)
        · refine lv_iconst (v := 0) hx hb dX11_string_24 (by decide) ?_
          refine hk_put (ref := "LightcurveHouseModel") X K hM.1 rfl iX11_string_X11 tyX11 tyX11_ok nmX11 hS hM.2.2.2.2.1 33 (by decide) (by decide +kernel) (fun _ h => h) (by decide +kernel) rfl rfl (Nat.le_of_ble_eq_true rfl) dX11_string_25 (fun H3 locsH3 hOH3 hzH3 hqH3 hS => ?_)
          rw [mf_33] at hOH3
          have hM := MW.obj hM hOH3 hqH3
          refine lv_aload_n hx hb dX11_string_28 rfl (lv_at hl 0 rfl) ?_
          refine hk_get (ref := "LightcurveHouseModel") (v := .int 0) X K hM.1 rfl iX11_string_X11 33 (by decide) (by decide +kernel) (fun _ h => h) rfl dX11_string_29 ?_
          refine lv_if_le (tgt := 37) hx hb dX11_string_32 (by decide) (fun c_32 => ?_) (fun c_32 => ?_)
          · refine lv_aload_n hx hb dX11_string_37 rfl (lv_at hl 0 rfl) ?_
            refine lv_iload_n hx hb dX11_string_38 rfl (lv_at hl 1 rfl) ?_
            refine hk_callV 1 (As := [.int p0]) (rest := []) X K hAE hS hl.1 hM.1 rfl (c_X11_gathersOf E l H3 hM hZ hI (si := p0) c_3) (fun _ h => h) gX11_string_X11_gathersOf rfl ⟨rfl, hd_X11_gathersOf⟩ rfl ⟨⟨(Nat.le_of_ble_eq_true rfl), (Nat.le_of_ble_eq_true rfl)⟩, (Nat.le_of_ble_eq_true rfl), (Nat.le_of_ble_eq_true rfl)⟩ rfl (Nat.le_of_ble_eq_true rfl) dX11_string_39 (fun v9 H4 locsH4 hp hS hzH4 hkH4 => ?_)
            obtain ⟨hv, fL, fT, hg, hM⟩ := hp
            subst hv
            refine lv_aload_n hx hb dX11_string_42 rfl (lv_at hl 0 rfl) ?_
            refine lv_iload_n hx hb dX11_string_43 rfl (lv_at hl 2 rfl) ?_
            refine hk_callV 1 (As := [.int p1]) (rest := []) X K hAE hS hl.1 hM.1 rfl (c_X11_stringOf E l H4 hM hZ (show _ ≤ 80 from sel80 hnl) (P := p1) (per_pos c_14)) (fun _ h => h) gX11_string_X11_stringOf rfl ⟨rfl, hd_X11_stringOf⟩ rfl ⟨⟨(Nat.le_of_ble_eq_true rfl), (Nat.le_of_ble_eq_true rfl)⟩, (Nat.le_of_ble_eq_true rfl), (Nat.le_of_ble_eq_true rfl)⟩ rfl (Nat.le_of_ble_eq_true rfl) dX11_string_44 (fun v9 H5 locsH5 hp hS hzH5 hkH5 => ?_)
            obtain ⟨hv, hM⟩ := hp
            have hv := hv.trans (str_eq hg rfl (sel80 hnl))
            subst hv
            obtain ⟨oH5, hM⟩ : ∃ o9, MW E mo am Z _ _ (va_up _ 37 o9) H5 := ⟨_, hM⟩
            exact hk_iret X hr hlk hQ hS (Nat.le_of_ble_eq_true rfl) (Nat.le_of_ble_eq_true rfl) dX11_string_47 (mfin0 hM (by unfold cd_string; rw [if_pos c_3, if_pos c_14]) rfl rfl agr_all)
          · exact absurd (by decide) c_32
        · exact absurd c_17 (by decide)
      · subst hv
        refine lv_if_ne (tgt := 24) hx hb dX11_string_17 (by decide) (fun c_17 => ?_) (fun c_17 => ?_)
        · exact absurd rfl c_17
        · refine lv_iconst (v := 2) hx hb dX11_string_20 (by decide) ?_
          refine lv_goto (tgt := 25) hx hb dX11_string_21 (by decide) ?_
          refine hk_put (ref := "LightcurveHouseModel") X K hM.1 rfl iX11_string_X11 tyX11 tyX11_ok nmX11 hS hM.2.2.2.2.1 33 (by decide) (by decide +kernel) (fun _ h => h) (by decide +kernel) rfl rfl (Nat.le_of_ble_eq_true rfl) dX11_string_25 (fun H6 locsH6 hOH6 hzH6 hqH6 hS => ?_)
          rw [mf_33] at hOH6
          have hM := MW.obj hM hOH6 hqH6
          refine lv_aload_n hx hb dX11_string_28 rfl (lv_at hl 0 rfl) ?_
          refine hk_get (ref := "LightcurveHouseModel") (v := .int 2) X K hM.1 rfl iX11_string_X11 33 (by decide) (by decide +kernel) (fun _ h => h) rfl dX11_string_29 ?_
          refine lv_if_le (tgt := 37) hx hb dX11_string_32 (by decide) (fun c_32 => ?_) (fun c_32 => ?_)
          · exact absurd c_32 (by decide)
          · refine lv_iconst (v := 0) hx hb dX11_string_35 (by decide) ?_
            exact hk_iret X hr hlk hQ hS (Nat.le_of_ble_eq_true rfl) (Nat.le_of_ble_eq_true rfl) dX11_string_36 (mfin1 (v := 2) hM (by unfold cd_string; rw [if_pos c_3, if_neg c_14]) (by decide) rfl rfl agr_thr)
    · exact absurd c_6 (by decide)
  · subst hv
    refine lv_if_ne (tgt := 13) hx hb dX11_string_6 (by decide) (fun c_6 => ?_) (fun c_6 => ?_)
    · exact absurd rfl c_6
    · refine lv_iconst (v := 1) hx hb dX11_string_9 (by decide) ?_
      refine lv_goto (tgt := 25) hx hb dX11_string_10 (by decide) ?_
      refine hk_put (ref := "LightcurveHouseModel") X K hM.1 rfl iX11_string_X11 tyX11 tyX11_ok nmX11 hS hM.2.2.2.2.1 33 (by decide) (by decide +kernel) (fun _ h => h) (by decide +kernel) rfl rfl (Nat.le_of_ble_eq_true rfl) dX11_string_25 (fun H7 locsH7 hOH7 hzH7 hqH7 hS => ?_)
      rw [mf_33] at hOH7
      have hM := MW.obj hM hOH7 hqH7
      refine lv_aload_n hx hb dX11_string_28 rfl (lv_at hl 0 rfl) ?_
      refine hk_get (ref := "LightcurveHouseModel") (v := .int 1) X K hM.1 rfl iX11_string_X11 33 (by decide) (by decide +kernel) (fun _ h => h) rfl dX11_string_29 ?_
      refine lv_if_le (tgt := 37) hx hb dX11_string_32 (by decide) (fun c_32 => ?_) (fun c_32 => ?_)
      · exact absurd c_32 (by decide)
      · refine lv_iconst (v := 0) hx hb dX11_string_35 (by decide) ?_
        exact hk_iret X hr hlk hQ hS (Nat.le_of_ble_eq_true rfl) (Nat.le_of_ble_eq_true rfl) dX11_string_36 (mfin1 (v := 1) hM (by unfold cd_string; rw [if_neg c_3]) (by decide) rfl rfl agr_thr)

def cd_together (p0 p1 p2 : Int32) (S : mS) : Int32 := if isS (S.1 1) p0 then (if isS (S.1 1) p1 then (if inr p2 30 1000000 then 0 else 2) else 1) else 1
def an_together (p0 p1 p2 : Int32) (S : mS) : Int32 := sp_str S.2.2 (sp_sel S.2.2 (S.2.2 3 (ix p0)) (S.2.2 3 (ix p1)) (S.1 12)) p2
def st_together (p0 p1 p2 : Int32) (S : mS) : mS := S
abbrev rmX11_together : Room := { frames := 4, cells := 0, slots := 0, locals := 88 }
theorem iX11_together_X11 : ∀ w ∈ wsX110, w ∈ wsX11_together := by decide +kernel
set_option maxHeartbeats 4000000 in
set_option maxRecDepth 100000 in
theorem c_X11_together (E : hk_E) (l : Launch) (H0 : Heap) {mo : Nat} {am : Nat → Nat} {Z : Nat → Prop} {cn : Nat → Nat} {sc : Nat → Int32} {μ : Nat → Nat → Int32} (hM : MW E mo am Z cn sc μ H0) (hZ : ∀ q, Z q → hk_A E q) {p0 p1 p2 : Int32} (hI : Inv (cn, sc, μ))  : hk_M E l yX11_together wsX11_together rmX11_together (Z) [.ref mo, .int p0, .int p1, .int p2] H0 (mpost E mo am Z (cd_together p0 p1 p2 (cn, sc, μ)) (an_together p0 p1 p2 (cn, sc, μ)) (cn, sc, μ) (st_together p0 p1 p2 (cn, sc, μ))) := by
  refine hk_M.ofW (cc := cX11_together) (maxL := 4) (ret := (some .int)) (by decide +kernel) rfl (Nat.le_of_ble_eq_true rfl) ?_
  intro p e s m args below meth c ls Q hQ X hr hlk hnm K hs9 hS hl
  obtain ⟨hx, hb, hml, hown, hts⟩ := id X
  have hAE : ∀ q, (Z) q → hk_A E q := hZ
  have hl : lv_has ls 4 [(0, .ref mo), (1, .int p0), (2, .int p1), (3, .int p2)] := hl
  have hnl := hI.1.2.2.1
  have hns := hI.1.1
  have hnp := hI.1.2.1
  dsimp only at hnl hns hnp
  refine lv_aload_n hx hb dX11_together_0 rfl (lv_at hl 0 rfl) ?_
  refine lv_aload_n hx hb dX11_together_1 rfl (lv_at hl 0 rfl) ?_
  refine lv_iload_n hx hb dX11_together_2 rfl (lv_at hl 1 rfl) ?_
  refine hk_callV 1 (As := [.int p0]) (rest := [.ref mo]) X K hAE hS hl.1 hM.1 rfl (c_X11_isStar E l H0 hM hns (i := p0)) (fun _ h => h.elim) gX11_together_X11_isStar rfl ⟨rfl, hd_X11_isStar⟩ rfl ⟨⟨(Nat.le_of_ble_eq_true rfl), (Nat.le_of_ble_eq_true rfl)⟩, (Nat.le_of_ble_eq_true rfl), (Nat.le_of_ble_eq_true rfl)⟩ rfl (Nat.le_of_ble_eq_true rfl) dX11_together_3 (fun v9 H1 locsH1 hp hS hzH1 hkH1 => ?_)
  obtain ⟨hv, hh⟩ := hp
  subst hh
  rcases hv with ⟨hv, c_3⟩ | ⟨hv, c_3⟩
  · subst hv
    refine lv_if_eq (tgt := 17) hx hb dX11_together_6 (by decide) (fun c_6 => ?_) (fun c_6 => ?_)
    · exact absurd c_6 (by decide)
    · refine lv_aload_n hx hb dX11_together_9 rfl (lv_at hl 0 rfl) ?_
      refine lv_iload_n hx hb dX11_together_10 rfl (lv_at hl 2 rfl) ?_
      refine hk_callV 1 (As := [.int p1]) (rest := [.ref mo]) X K hAE hS hl.1 hM.1 rfl (c_X11_isStar E l H0 hM hns (i := p1)) (fun _ h => h.elim) gX11_together_X11_isStar rfl ⟨rfl, hd_X11_isStar⟩ rfl ⟨⟨(Nat.le_of_ble_eq_true rfl), (Nat.le_of_ble_eq_true rfl)⟩, (Nat.le_of_ble_eq_true rfl), (Nat.le_of_ble_eq_true rfl)⟩ rfl (Nat.le_of_ble_eq_true rfl) dX11_together_11 (fun v9 H2 locsH2 hp hS hzH2 hkH2 => ?_)
      obtain ⟨hv, hh⟩ := hp
      subst hh
      rcases hv with ⟨hv, c_11⟩ | ⟨hv, c_11⟩
      · subst hv
        refine lv_if_ne (tgt := 21) hx hb dX11_together_14 (by decide) (fun c_14 => ?_) (fun c_14 => ?_)
        · refine lv_iload_n hx hb dX11_together_21 rfl (lv_at hl 3 rfl) ?_
          refine hk_callS 1 (As := [.int p2]) (rest := [.ref mo]) X K hAE hS hl.1 (c_X11_isPeriod E l H0 (a := p2)) (fun _ h => h.elim) gX11_together_X11_isPeriod rfl hd_X11_isPeriod rfl ⟨⟨(Nat.le_of_ble_eq_true rfl), (Nat.le_of_ble_eq_true rfl)⟩, (Nat.le_of_ble_eq_true rfl), (Nat.le_of_ble_eq_true rfl)⟩ rfl (Nat.le_of_ble_eq_true rfl) dX11_together_22 (fun v9 H3 locsH3 hp hS hzH3 hkH3 => ?_)
          obtain ⟨hv, hh⟩ := hp
          subst hh
          rcases hv with ⟨hv, c_22⟩ | ⟨hv, c_22⟩
          · subst hv
            refine lv_if_ne (tgt := 32) hx hb dX11_together_25 (by decide) (fun c_25 => ?_) (fun c_25 => ?_)
            · refine lv_iconst (v := 0) hx hb dX11_together_32 (by decide) ?_
              refine hk_put (ref := "LightcurveHouseModel") X K hM.1 rfl iX11_together_X11 tyX11 tyX11_ok nmX11 hS hM.2.2.2.2.1 33 (by decide) (by decide +kernel) (fun _ h => h) (by decide +kernel) rfl rfl (Nat.le_of_ble_eq_true rfl) dX11_together_33 (fun H4 locsH4 hOH4 hzH4 hqH4 hS => ?_)
              rw [mf_33] at hOH4
              have hM := MW.obj hM hOH4 hqH4
              refine lv_aload_n hx hb dX11_together_36 rfl (lv_at hl 0 rfl) ?_
              refine hk_get (ref := "LightcurveHouseModel") (v := .int 0) X K hM.1 rfl iX11_together_X11 33 (by decide) (by decide +kernel) (fun _ h => h) rfl dX11_together_37 ?_
              refine lv_if_le (tgt := 45) hx hb dX11_together_40 (by decide) (fun c_40 => ?_) (fun c_40 => ?_)
              · refine lv_aload_n hx hb dX11_together_45 rfl (lv_at hl 0 rfl) ?_
                refine lv_aload_n hx hb dX11_together_46 rfl (lv_at hl 0 rfl) ?_
                refine hk_get (ref := "LightcurveHouseModel") (v := .ref (am 3)) X K hM.1 rfl iX11_together_X11 3 (by decide) (by decide +kernel) (fun _ h => h) rfl dX11_together_47 ?_
                refine lv_iload_n hx hb dX11_together_50 rfl (lv_at hl 1 rfl) ?_
                refine hk_ild (f := (μ 3)) X K hM.a3 (vp_isS hns (by omega) c_3) dX11_together_51 ?_
                refine lv_aload_n hx hb dX11_together_52 rfl (lv_at hl 0 rfl) ?_
                refine hk_get (ref := "LightcurveHouseModel") (v := .ref (am 3)) X K hM.1 rfl iX11_together_X11 3 (by decide) (by decide +kernel) (fun _ h => h) rfl dX11_together_53 ?_
                refine lv_iload_n hx hb dX11_together_56 rfl (lv_at hl 2 rfl) ?_
                refine hk_ild (f := (μ 3)) X K hM.a3 (vp_isS hns (by omega) c_11) dX11_together_57 ?_
                refine hk_callV 2 (As := [.int ((μ 3) p0.toNatClampNeg), .int ((μ 3) p1.toNatClampNeg)]) (rest := []) X K hAE hS hl.1 hM.1 rfl (c_X11_gathers E l H4 hM hZ hI (e1 := (μ 3) p0.toNatClampNeg) (e2 := (μ 3) p1.toNatClampNeg)) (fun _ h => h) gX11_together_X11_gathers rfl ⟨rfl, hd_X11_gathers⟩ rfl ⟨⟨(Nat.le_of_ble_eq_true rfl), (Nat.le_of_ble_eq_true rfl)⟩, (Nat.le_of_ble_eq_true rfl), (Nat.le_of_ble_eq_true rfl)⟩ rfl (Nat.le_of_ble_eq_true rfl) dX11_together_58 (fun v9 H5 locsH5 hp hS hzH5 hkH5 => ?_)
                obtain ⟨hv, fL, fT, hg, hM⟩ := hp
                subst hv
                refine lv_aload_n hx hb dX11_together_61 rfl (lv_at hl 0 rfl) ?_
                refine lv_iload_n hx hb dX11_together_62 rfl (lv_at hl 3 rfl) ?_
                refine hk_callV 1 (As := [.int p2]) (rest := []) X K hAE hS hl.1 hM.1 rfl (c_X11_stringOf E l H5 hM hZ (show _ ≤ 80 from sel80 hnl) (P := p2) (per_pos c_22)) (fun _ h => h) gX11_together_X11_stringOf rfl ⟨rfl, hd_X11_stringOf⟩ rfl ⟨⟨(Nat.le_of_ble_eq_true rfl), (Nat.le_of_ble_eq_true rfl)⟩, (Nat.le_of_ble_eq_true rfl), (Nat.le_of_ble_eq_true rfl)⟩ rfl (Nat.le_of_ble_eq_true rfl) dX11_together_63 (fun v9 H6 locsH6 hp hS hzH6 hkH6 => ?_)
                obtain ⟨hv, hM⟩ := hp
                have hv := hv.trans (str_eq hg rfl (sel80 hnl))
                subst hv
                obtain ⟨oH6, hM⟩ : ∃ o9, MW E mo am Z _ _ (va_up _ 37 o9) H6 := ⟨_, hM⟩
                exact hk_iret X hr hlk hQ hS (Nat.le_of_ble_eq_true rfl) (Nat.le_of_ble_eq_true rfl) dX11_together_66 (mfin0 hM (by unfold cd_together; rw [if_pos c_3, if_pos c_11, if_pos c_22]) rfl rfl agr_all)
              · exact absurd (by decide) c_40
            · exact absurd c_25 (by decide)
          · subst hv
            refine lv_if_ne (tgt := 32) hx hb dX11_together_25 (by decide) (fun c_25 => ?_) (fun c_25 => ?_)
            · exact absurd rfl c_25
            · refine lv_iconst (v := 2) hx hb dX11_together_28 (by decide) ?_
              refine lv_goto (tgt := 33) hx hb dX11_together_29 (by decide) ?_
              refine hk_put (ref := "LightcurveHouseModel") X K hM.1 rfl iX11_together_X11 tyX11 tyX11_ok nmX11 hS hM.2.2.2.2.1 33 (by decide) (by decide +kernel) (fun _ h => h) (by decide +kernel) rfl rfl (Nat.le_of_ble_eq_true rfl) dX11_together_33 (fun H7 locsH7 hOH7 hzH7 hqH7 hS => ?_)
              rw [mf_33] at hOH7
              have hM := MW.obj hM hOH7 hqH7
              refine lv_aload_n hx hb dX11_together_36 rfl (lv_at hl 0 rfl) ?_
              refine hk_get (ref := "LightcurveHouseModel") (v := .int 2) X K hM.1 rfl iX11_together_X11 33 (by decide) (by decide +kernel) (fun _ h => h) rfl dX11_together_37 ?_
              refine lv_if_le (tgt := 45) hx hb dX11_together_40 (by decide) (fun c_40 => ?_) (fun c_40 => ?_)
              · exact absurd c_40 (by decide)
              · refine lv_iconst (v := 0) hx hb dX11_together_43 (by decide) ?_
                exact hk_iret X hr hlk hQ hS (Nat.le_of_ble_eq_true rfl) (Nat.le_of_ble_eq_true rfl) dX11_together_44 (mfin1 (v := 2) hM (by unfold cd_together; rw [if_pos c_3, if_pos c_11, if_neg c_22]) (by decide) rfl rfl agr_thr)
        · exact absurd c_14 (by decide)
      · subst hv
        refine lv_if_ne (tgt := 21) hx hb dX11_together_14 (by decide) (fun c_14 => ?_) (fun c_14 => ?_)
        · exact absurd rfl c_14
        · refine lv_iconst (v := 1) hx hb dX11_together_17 (by decide) ?_
          refine lv_goto (tgt := 33) hx hb dX11_together_18 (by decide) ?_
          refine hk_put (ref := "LightcurveHouseModel") X K hM.1 rfl iX11_together_X11 tyX11 tyX11_ok nmX11 hS hM.2.2.2.2.1 33 (by decide) (by decide +kernel) (fun _ h => h) (by decide +kernel) rfl rfl (Nat.le_of_ble_eq_true rfl) dX11_together_33 (fun H8 locsH8 hOH8 hzH8 hqH8 hS => ?_)
          rw [mf_33] at hOH8
          have hM := MW.obj hM hOH8 hqH8
          refine lv_aload_n hx hb dX11_together_36 rfl (lv_at hl 0 rfl) ?_
          refine hk_get (ref := "LightcurveHouseModel") (v := .int 1) X K hM.1 rfl iX11_together_X11 33 (by decide) (by decide +kernel) (fun _ h => h) rfl dX11_together_37 ?_
          refine lv_if_le (tgt := 45) hx hb dX11_together_40 (by decide) (fun c_40 => ?_) (fun c_40 => ?_)
          · exact absurd c_40 (by decide)
          · refine lv_iconst (v := 0) hx hb dX11_together_43 (by decide) ?_
            exact hk_iret X hr hlk hQ hS (Nat.le_of_ble_eq_true rfl) (Nat.le_of_ble_eq_true rfl) dX11_together_44 (mfin1 (v := 1) hM (by unfold cd_together; rw [if_pos c_3, if_neg c_11]) (by decide) rfl rfl agr_thr)
  · subst hv
    refine lv_if_eq (tgt := 17) hx hb dX11_together_6 (by decide) (fun c_6 => ?_) (fun c_6 => ?_)
    · refine lv_iconst (v := 1) hx hb dX11_together_17 (by decide) ?_
      refine lv_goto (tgt := 33) hx hb dX11_together_18 (by decide) ?_
      refine hk_put (ref := "LightcurveHouseModel") X K hM.1 rfl iX11_together_X11 tyX11 tyX11_ok nmX11 hS hM.2.2.2.2.1 33 (by decide) (by decide +kernel) (fun _ h => h) (by decide +kernel) rfl rfl (Nat.le_of_ble_eq_true rfl) dX11_together_33 (fun H9 locsH9 hOH9 hzH9 hqH9 hS => ?_)
      rw [mf_33] at hOH9
      have hM := MW.obj hM hOH9 hqH9
      refine lv_aload_n hx hb dX11_together_36 rfl (lv_at hl 0 rfl) ?_
      refine hk_get (ref := "LightcurveHouseModel") (v := .int 1) X K hM.1 rfl iX11_together_X11 33 (by decide) (by decide +kernel) (fun _ h => h) rfl dX11_together_37 ?_
      refine lv_if_le (tgt := 45) hx hb dX11_together_40 (by decide) (fun c_40 => ?_) (fun c_40 => ?_)
      · exact absurd c_40 (by decide)
      · refine lv_iconst (v := 0) hx hb dX11_together_43 (by decide) ?_
        exact hk_iret X hr hlk hQ hS (Nat.le_of_ble_eq_true rfl) (Nat.le_of_ble_eq_true rfl) dX11_together_44 (mfin1 (v := 1) hM (by unfold cd_together; rw [if_neg c_3]) (by decide) rfl rfl agr_thr)
    · exact absurd (by decide) c_6

