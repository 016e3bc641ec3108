theorem hd_X11_gathers : yX11_gathers.cls ≠ "java/lang/invoke/MethodHandle" ∧ yX11_gathers.cls ≠ "java/lang/invoke/VarHandle" ∧ (parseMethodDescriptor yX11_gathers.desc).map (fun d => d.parameters.length) = some 2 := ⟨by decide, by decide, by decide +kernel⟩
abbrev rmX11_gathersOf : Room := { frames := 4, cells := 0, slots := 0, locals := 88 }
theorem iX11_gathersOf_X11 : ∀ w ∈ wsX110, w ∈ wsX11_gathersOf := by decide +kernel
set_option maxHeartbeats 4000000 in
set_option maxRecDepth 100000 in
theorem c_X11_gathersOf (E : hk_E) (l : Launch) (H0 : Heap) {mo : Nat} {am : Nat → Nat} {Z : Nat → Prop} {cn : Nat → Nat} {sc : Nat → Int32} {μ : Nat → Nat → Int32} (hM : MW E mo am Z cn sc μ H0) (hZ : ∀ q, Z q → hk_A E q) (hI : Inv (cn, sc, μ)) {si : Int32} (hsi : isS (cn 1) si) : hk_M E l yX11_gathersOf wsX11_gathersOf rmX11_gathersOf (Z) [.ref mo, .int si] H0 (fun z H1 => z = none ∧ ∃ (fL fT : Nat → Int32), gRow μ (sp_sel μ (μ 3 (ix si)) (-1) (cn 12)) fL fT ∧ MW E mo am Z (va_up cn 34 (sp_sel μ (μ 3 (ix si)) (-1) (cn 12)).length) sc (scr μ fL fT) H1) := by
  refine hk_M.ofW (cc := cX11_gathersOf) (maxL := 2) (ret := none) (by decide +kernel) rfl (Nat.le_of_ble_eq_true rfl) ?_
  intro p e s m args below meth c ls Q hQ X hr hlk hnm K hs9 hS hl
  obtain ⟨hx, hb, hml, hown, hts⟩ := id X
  have hAE : ∀ q, (Z) q → hk_A E q := hZ
  have hl : lv_has ls 2 [(0, .ref mo), (1, .int si)] := hl
  have hnl := hI.1.2.2.1
  have hns := hI.1.1
  have hnp := hI.1.2.1
  dsimp only at hnl hns hnp
  refine lv_aload_n hx hb dX11_gathersOf_0 rfl (lv_at hl 0 rfl) ?_
  refine lv_aload_n hx hb dX11_gathersOf_1 rfl (lv_at hl 0 rfl) ?_
  refine hk_get (ref := "LightcurveHouseModel") (v := .ref (am 3)) X K hM.1 rfl iX11_gathersOf_X11 3 (by decide) (by decide +kernel) (fun _ h => h) rfl dX11_gathersOf_2 ?_
  refine lv_iload_n hx hb dX11_gathersOf_5 rfl (lv_at hl 1 rfl) ?_
  refine hk_ild (f := (μ 3)) X K hM.a3 (vp_isS hns (by omega) hsi) dX11_gathersOf_6 ?_
  refine lv_iconst (v := (-1)) hx hb dX11_gathersOf_7 (by decide) ?_
  refine hk_callV 2 (As := [.int ((μ 3) si.toNatClampNeg), .int (-1)]) (rest := []) X K hAE hS hl.1 hM.1 rfl (c_X11_gathers E l H0 hM hZ hI (e1 := (μ 3) si.toNatClampNeg) (e2 := (-1))) (fun _ h => h) gX11_gathersOf_X11_gathers rfl ⟨rfl, hd_X11_gathers⟩ rfl ⟨⟨(Nat.le_of_ble_eq_true rfl), (Nat.le_of_ble_eq_true rfl)⟩, (Nat.le_of_ble_eq_true rfl), (Nat.le_of_ble_eq_true rfl)⟩ rfl (Nat.le_of_ble_eq_true rfl) dX11_gathersOf_8 (fun v9 H1 locsH1 hp hS hzH1 hkH1 => ?_)
  obtain ⟨hv, fL, fT, hg, hM⟩ := hp
  subst hv
  exact hk_vret X hr hlk hQ hS (Nat.le_of_ble_eq_true rfl) (Nat.le_of_ble_eq_true rfl) dX11_gathersOf_11 (⟨rfl, fL, fT, hg, hM⟩)

abbrev ahd (fT : Nat → Int32) (P : Int32) (a b : Nat) : Prop := rmd (fT a) P < rmd (fT b) P ∨ (rmd (fT a) P = rmd (fT b) P ∧ fT a < fT b)
theorem hd_X11_remainder : yX11_remainder.cls ≠ "java/lang/invoke/MethodHandle" ∧ yX11_remainder.cls ≠ "java/lang/invoke/VarHandle" ∧ (parseMethodDescriptor yX11_remainder.desc).map (fun d => d.parameters.length) = some 2 := ⟨by decide, by decide, by decide +kernel⟩
abbrev rmX11_isAhead : Room := { frames := 1, cells := 0, slots := 0, locals := 22 }
theorem iX11_isAhead_X11 : ∀ w ∈ wsX110, w ∈ wsX11_isAhead := by decide +kernel
set_option maxHeartbeats 4000000 in
set_option maxRecDepth 100000 in
theorem c_X11_isAhead (E : hk_E) (l : Launch) (H0 : Heap) {mo : Nat} {am : Nat → Nat} {Z : Nat → Prop} {cn : Nat → Nat} {sc : Nat → Int32} {μ : Nat → Nat → Int32} (hM : MW E mo am Z cn sc μ H0) {P : Int32} (hP : 0 < P) {x y : Int32} (hx8 : vp_in x 80) (hy8 : vp_in y 80) : hk_M E l yX11_isAhead wsX11_isAhead rmX11_isAhead (fun _ => False) [.ref mo, .int x, .int y, .int P] H0 (fun z H1 => ((z = some (.int 1) ∧ ahd (μ 36) P (ix x) (ix y)) ∨ (z = some (.int 0) ∧ ¬ ahd (μ 36) P (ix x) (ix y))) ∧ H0 = H1) := by
  refine hk_M.ofW (cc := cX11_isAhead) (maxL := 6) (ret := (some .boolean)) (by decide +kernel) rfl (Nat.le_of_ble_eq_true rfl) ?_
  intro p e s m args below meth c ls Q hQ X hr hlk hnm K hs9 hS hl
  obtain ⟨hx, hb, hml, hown, hts⟩ := id X
  have hAE : ∀ q, (fun _ => False) q → hk_A E q := fun _ h => h.elim
  have hl : lv_has ls 6 [(0, .ref mo), (1, .int x), (2, .int y), (3, .int P)] := hl
  refine lv_aload_n hx hb dX11_isAhead_0 rfl (lv_at hl 0 rfl) ?_
  refine hk_get (ref := "LightcurveHouseModel") (v := .ref (am 36)) X K hM.1 rfl iX11_isAhead_X11 36 (by decide) (by decide +kernel) (fun _ h => h) rfl dX11_isAhead_1 ?_
  refine lv_iload_n hx hb dX11_isAhead_4 rfl (lv_at hl 1 rfl) ?_
  refine hk_ild X K hM.a36 hx8 dX11_isAhead_5 ?_
  refine lv_iload_n hx hb dX11_isAhead_6 rfl (lv_at hl 3 rfl) ?_
  refine hk_callS 2 (As := [.int ((μ 36) x.toNatClampNeg), .int P]) (rest := []) X K hAE hS hl.1 (c_X11_remainder E l H0 (n := (μ 36) x.toNatClampNeg) (d := P) hP) (fun _ h => h.elim) gX11_isAhead_X11_remainder rfl hd_X11_remainder rfl ⟨⟨(Nat.le_of_ble_eq_true rfl), (Nat.le_of_ble_eq_true rfl)⟩, (Nat.le_of_ble_eq_true rfl), (Nat.le_of_ble_eq_true rfl)⟩ rfl (Nat.le_of_ble_eq_true rfl) dX11_isAhead_7 (fun v9 H1 locsH1 hp hS hzH1 hkH1 => ?_)
  obtain ⟨hv, hh⟩ := hp
  subst hv; subst hh
  refine lv_istore (lv' := [(4, .int (rmd ((μ 36) x.toNatClampNeg) P)), (0, .ref mo), (1, .int x), (2, .int y), (3, .int P)]) hx hb dX11_isAhead_10 hl (by decide) rfl (fun ls hl => ?_)
  refine lv_aload_n hx hb dX11_isAhead_12 rfl (lv_at hl 1 rfl) ?_
  refine hk_get (ref := "LightcurveHouseModel") (v := .ref (am 36)) X K hM.1 rfl iX11_isAhead_X11 36 (by decide) (by decide +kernel) (fun _ h => h) rfl dX11_isAhead_13 ?_
  refine lv_iload_n hx hb dX11_isAhead_16 rfl (lv_at hl 3 rfl) ?_
  refine hk_ild X K hM.a36 hy8 dX11_isAhead_17 ?_
  refine lv_iload_n hx hb dX11_isAhead_18 rfl (lv_at hl 4 rfl) ?_
  refine hk_callS 2 (As := [.int ((μ 36) y.toNatClampNeg), .int P]) (rest := []) X K hAE hS hl.1 (c_X11_remainder E l H0 (n := (μ 36) y.toNatClampNeg) (d := P) hP) (fun _ h => h.elim) gX11_isAhead_X11_remainder rfl hd_X11_remainder rfl ⟨⟨(Nat.le_of_ble_eq_true rfl), (Nat.le_of_ble_eq_true rfl)⟩, (Nat.le_of_ble_eq_true rfl), (Nat.le_of_ble_eq_true rfl)⟩ rfl (Nat.le_of_ble_eq_true rfl) dX11_isAhead_19 (fun v9 H2 locsH2 hp hS hzH2 hkH2 => ?_)
  obtain ⟨hv, hh⟩ := hp
  subst hv; subst hh
  refine lv_istore (lv' := [(5, .int (rmd ((μ 36) y.toNatClampNeg) P)), (4, .int (rmd ((μ 36) x.toNatClampNeg) P)), (0, .ref mo), (1, .int x), (2, .int y), (3, .int P)]) hx hb dX11_isAhead_22 hl (by decide) rfl (fun ls hl => ?_)
  refine lv_iload hx hb dX11_isAhead_24 (lv_at hl 1 rfl) ?_
  refine lv_iload hx hb dX11_isAhead_26 (lv_at hl 0 rfl) ?_
  refine lv_icmp_lt (tgt := 53) hx hb dX11_isAhead_28 (by decide) (fun c_28 => ?_) (fun c_28 => ?_)
  · refine lv_iconst (v := 1) hx hb dX11_isAhead_53 (by decide) ?_
    refine lv_goto (tgt := 58) hx hb dX11_isAhead_54 (by decide) ?_
    exact hk_zret X hr hlk hQ hS (Nat.le_of_ble_eq_true rfl) (Nat.le_of_ble_eq_true rfl) dX11_isAhead_58 (by decide) (⟨Or.inl ⟨rfl, Or.inl c_28⟩, rfl⟩)
  · refine lv_iload hx hb dX11_isAhead_31 (lv_at hl 1 rfl) ?_
    refine lv_iload hx hb dX11_isAhead_33 (lv_at hl 0 rfl) ?_
    refine lv_icmp_ne (tgt := 57) hx hb dX11_isAhead_35 (by decide) (fun c_35 => ?_) (fun c_35 => ?_)
    · refine lv_iconst (v := 0) hx hb dX11_isAhead_57 (by decide) ?_
      exact hk_zret X hr hlk hQ hS (Nat.le_of_ble_eq_true rfl) (Nat.le_of_ble_eq_true rfl) dX11_isAhead_58 (by decide) (⟨Or.inr ⟨rfl, fun g => g.elim c_28 (fun g => c_35 g.1)⟩, rfl⟩)
    · refine lv_aload_n hx hb dX11_isAhead_38 rfl (lv_at hl 2 rfl) ?_
      refine hk_get (ref := "LightcurveHouseModel") (v := .ref (am 36)) X K hM.1 rfl iX11_isAhead_X11 36 (by decide) (by decide +kernel) (fun _ h => h) rfl dX11_isAhead_39 ?_
      refine lv_iload_n hx hb dX11_isAhead_42 rfl (lv_at hl 3 rfl) ?_
      refine hk_ild X K hM.a36 hx8 dX11_isAhead_43 ?_
      refine lv_aload_n hx hb dX11_isAhead_44 rfl (lv_at hl 2 rfl) ?_
      refine hk_get (ref := "LightcurveHouseModel") (v := .ref (am 36)) X K hM.1 rfl iX11_isAhead_X11 36 (by decide) (by decide +kernel) (fun _ h => h) rfl dX11_isAhead_45 ?_
      refine lv_iload_n hx hb dX11_isAhead_48 rfl (lv_at hl 4 rfl) ?_
      refine hk_ild X K hM.a36 hy8 dX11_isAhead_49 ?_
      refine lv_icmp_ge (tgt := 57) hx hb dX11_isAhead_50 (by decide) (fun c_50 => ?_) (fun c_50 => ?_)
      · refine lv_iconst (v := 0) hx hb dX11_isAhead_57 (by decide) ?_
        exact hk_zret X hr hlk hQ hS (Nat.le_of_ble_eq_true rfl) (Nat.le_of_ble_eq_true rfl) dX11_isAhead_58 (by decide) (⟨Or.inr ⟨rfl, fun g => g.elim c_28 (fun g => absurd g.2 (Int32.not_lt.mpr c_50))⟩, rfl⟩)
      · refine lv_iconst (v := 1) hx hb dX11_isAhead_53 (by decide) ?_
        refine lv_goto (tgt := 58) hx hb dX11_isAhead_54 (by decide) ?_
        exact hk_zret X hr hlk hQ hS (Nat.le_of_ble_eq_true rfl) (Nat.le_of_ble_eq_true rfl) dX11_isAhead_58 (by decide) (⟨Or.inl ⟨rfl, Or.inr ⟨c_35, Int32.not_le.mp c_50⟩⟩, rfl⟩)

/-- where look number x comes among those of f, from behind -/
def jpA (fT : Nat → Int32) (P : Int32) (x : Nat) (f : Nat → Int32) : Nat → Nat
  | 0 => 0
  | j + 1 => if ahd fT P x (ix (f j)) then jpA fT P x f j else j + 1
def shf (f : Nat → Int32) (j i : Nat) : Nat → Int32 := fun t => if j < t ∧ t ≤ i then f (t - 1) else f t
def insA (f : Nat → Int32) (p : Nat) (x : Int32) (i : Nat) : Nat → Int32 := upd (shf f p i) p x
def ordA (fT : Nat → Int32) (P : Int32) (g : Nat → Int32) : Nat → (Nat → Int32)
  | 0 => g
  | n + 1 => insA (ordA fT P g n) (jpA fT P n (ordA fT P g n) n) (nI n) n
theorem shf_0 {f : Nat → Int32} {i : Nat} : shf f i i = f := by
  funext t
  unfold shf
  rw [if_neg (by omega)]
theorem shf_dn {f : Nat → Int32} {j i : Nat} (h : j + 1 ≤ i) : upd (shf f (j + 1) i) (j + 1) (f j) = shf f j i := by
  funext t
  unfold upd shf
  by_cases e : t = j + 1
  · subst e
    rw [if_pos rfl, if_pos ⟨by omega, h⟩]; rfl
  · rw [if_neg e]
    by_cases g : j + 1 < t ∧ t ≤ i
    · rw [if_pos g, if_pos ⟨by omega, g.2⟩]
    · rw [if_neg g, if_neg (fun q => g ⟨by omega, q.2⟩)]
theorem shf_at {f : Nat → Int32} {j i : Nat} : shf f (j + 1) i j = f j := by
  unfold shf
  rw [if_neg (by omega)]
theorem jpA_le {fT : Nat → Int32} {P : Int32} {x : Nat} {f : Nat → Int32} (n : Nat) : jpA fT P x f n ≤ n := by
  induction n with
  | zero => exact Nat.le_refl _
  | succ n ih =>
    rw [jpA]
    by_cases h : ahd fT P x (ix (f n))
    · rw [if_pos h]; omega
    · rw [if_neg h]; omega
theorem ordA_in {fT : Nat → Int32} {P : Int32} {g : Nat → Int32} (n : Nat) : ∀ t, t < n → ∃ j : Nat, j < n ∧ ordA fT P g n t = nI j := by
  induction n with
  | zero => intro t h; exact absurd h (Nat.not_lt_zero _)
  | succ n ih =>
    intro t ht
    have hp : jpA fT P n (ordA fT P g n) n ≤ n := jpA_le n
    rw [ordA]
    unfold insA upd shf
    by_cases e : t = jpA fT P n (ordA fT P g n) n
    · exact ⟨n, by omega, by rw [if_pos e]⟩
    · rw [if_neg e]
      by_cases g9 : jpA fT P n (ordA fT P g n) n < t ∧ t ≤ n
      · rw [if_pos g9]
        obtain ⟨j, hj, h⟩ := ih (t - 1) (by omega)
        exact ⟨j, by omega, h⟩
      · rw [if_neg g9]
        obtain ⟨j, hj, h⟩ := ih t (by omega)
        exact ⟨j, by omega, h⟩
theorem vp_ord {fT : Nat → Int32} {P : Int32} {g : Nat → Int32} {n t : Nat} (ht : t < n) (hn : n ≤ 80) : vp_in (ordA fT P g n t) 80 := by
  obtain ⟨j, hj, h⟩ := ordA_in (fT := fT) (P := P) (g := g) n t ht
  rw [h]
  exact vp_in_nI (by omega) (by omega)
abbrev absd (d : Int32) : Int32 := if 0 ≤ d then d else -d
def sumA (fL o : Nat → Int32) (m : Nat) : Nat → Int32
  | 0 => 0
  | k + 1 => sumA fL o m k + absd (fL (ix (o k)) - fL (ix (o (if k + 1 = m then 0 else k + 1))))
theorem hd_X11_isAhead : yX11_isAhead.cls ≠ "java/lang/invoke/MethodHandle" ∧ yX11_isAhead.cls ≠ "java/lang/invoke/VarHandle" ∧ (parseMethodDescriptor yX11_isAhead.desc).map (fun d => d.parameters.length) = some 3 := ⟨by decide, by decide, by decide +kernel⟩
abbrev rmX11_stringOf : Room := { frames := 2, cells := 0, slots := 0, locals := 47 }
theorem iX11_stringOf_X11 : ∀ w ∈ wsX110, w ∈ wsX11_stringOf := by decide +kernel
set_option maxHeartbeats 4000000 in
set_option maxRecDepth 100000 in
theorem c_X11_stringOf (E : hk_E) (l : Launch) (H0 : Heap) {mo : Nat} {am : Nat → Nat} {Z : Nat → Prop} {cn : Nat → Nat} {sc : Nat → Int32} {μ : Nat → Nat → Int32} (hM : MW E mo am Z cn sc μ H0) (hZ : ∀ q, Z q → hk_A E q) (hm8 : cn 34 ≤ 80) {P : Int32} (hP : 0 < P) : hk_M E l yX11_stringOf wsX11_stringOf rmX11_stringOf (Z) [.ref mo, .int P] H0 (fun z H1 => z = some (.int (sumA (μ 35) (ordA (μ 36) P (μ 37) (cn 34)) (cn 34) (cn 34))) ∧ MW E mo am Z cn sc (va_up μ 37 (ordA (μ 36) P (μ 37) (cn 34))) H1) := by
  refine hk_M.ofW (cc := cX11_stringOf) (maxL := 5) (ret := (some .int)) (by decide +kernel) rfl (Nat.le_of_ble_eq_true rfl) ?_
  intro p e s m args below meth c ls Q hQ X hr hlk hnm K hs9 hS hl
  obtain ⟨hx, hb, hml, hown, hts⟩ := id X
  have hAE : ∀ q, (Z) q → hk_A E q := hZ
  have hl : lv_has ls 5 [(0, .ref mo), (1, .int P)] := hl
  refine lv_iconst (v := 0) hx hb dX11_stringOf_0 (by decide) ?_
  refine lv_topi (fun z_1 ez_1 => ?_)
  have ez_1 : z_1 = nI 0 := ez_1
  subst ez_1
  refine lv_istore_n (lv' := [(2, .int (nI 0)), (0, .ref mo), (1, .int P)]) hx hb dX11_stringOf_1 rfl hl (by decide) rfl (fun ls hl => ?_)
  have L2 : ∀ (n9 : Nat) (k : Nat) (H : Heap) (locs : List Loc), cn 34 + 1 ≤ k + n9 → (k ≤ cn 34 ∧ MW E mo am Z cn sc (va_up μ 37 (ordA (μ 36) P (μ 37) k)) H ∧ va_S Z s.heap H locs) → ∀ (ls : Array Slot), lv_has ls 5 [(2, .int (nI k)), (0, .ref mo), (1, .int P)] → W p l e rmX11_stringOf s m args below meth c H locs 0 0 Q (F0 m 2 ls []) := by
    intro n9
    induction n9 with
    | zero =>
      intro k H locs hm hinv ls hl
      obtain ⟨hi1, hM, hS⟩ := hinv
      exact absurd hm (by omega)
    | succ n9 ih =>
      intro k H locs hm hinv ls hl
      obtain ⟨hi1, hM, hS⟩ := hinv
      refine lv_iload_n hx hb dX11_stringOf_2 rfl (lv_at hl 0 rfl) ?_
      refine lv_aload_n hx hb dX11_stringOf_3 rfl (lv_at hl 1 rfl) ?_
      refine hk_get (ref := "LightcurveHouseModel") (v := .int (nI (cn 34))) X K hM.1 rfl iX11_stringOf_X11 34 (by decide) (by decide +kernel) (fun _ h => h) rfl dX11_stringOf_4 ?_
      refine lv_icmp_ge (tgt := 66) hx hb dX11_stringOf_7 (by decide) (fun c_7 => ?_) (fun c_7 => ?_)
      · have hkk : cn 34 ≤ k := (nI_leI (by omega) (by omega)).mp c_7
        refine lv_iconst (v := 0) hx hb dX11_stringOf_66 (by decide) ?_
        refine lv_istore_n (lv' := [(2, .int 0), (0, .ref mo), (1, .int P)]) hx hb dX11_stringOf_67 rfl hl (by decide) rfl (fun ls hl => ?_)
        refine lv_iconst (v := 0) hx hb dX11_stringOf_68 (by decide) ?_
        refine lv_topi (fun z_2 ez_2 => ?_)
        have ez_2 : z_2 = nI 0 := ez_2
        subst ez_2
        refine lv_istore_n (lv' := [(3, .int (nI 0)), (2, .int 0), (0, .ref mo), (1, .int P)]) hx hb dX11_stringOf_69 rfl hl (by decide) rfl (fun ls hl => ?_)
        have L70 : ∀ (n9 : Nat) (i7 : Nat), cn 34 + 1 ≤ i7 + n9 → (i7 ≤ cn 34) → ∀ (ls : Array Slot), lv_has ls 5 [(3, .int (nI i7)), (2, .int (sumA (μ 35) (ordA (μ 36) P (μ 37) k) (cn 34) i7)), (0, .ref mo), (1, .int P)] → W p l e rmX11_stringOf s m args below meth c H locs 0 0 Q (F0 m 70 ls []) := by
          intro n9
          induction n9 with
          | zero =>
            intro i7 hm7 hi7 ls hl
            exact absurd hm (by omega)
          | succ n9 ih =>
            intro i7 hm7 hi7 ls hl
            refine lv_iload_n hx hb dX11_stringOf_70 rfl (lv_at hl 0 rfl) ?_
            refine lv_aload_n hx hb dX11_stringOf_71 rfl (lv_at hl 2 rfl) ?_
            refine hk_get (ref := "LightcurveHouseModel") (v := .int (nI (cn 34))) X K hM.1 rfl iX11_stringOf_X11 34 (by decide) (by decide +kernel) (fun _ h => h) rfl dX11_stringOf_72 ?_
            refine lv_icmp_ge (tgt := 141) hx hb dX11_stringOf_75 (by decide) (fun c_75 => ?_) (fun c_75 => ?_)
            · have hkk : cn 34 ≤ i7 := (nI_leI (by omega) (by omega)).mp c_75
              refine lv_iload_n hx hb dX11_stringOf_141 rfl (lv_at hl 1 rfl) ?_
              exact hk_iret X hr hlk hQ hS (Nat.le_of_ble_eq_true rfl) (Nat.le_of_ble_eq_true rfl) dX11_stringOf_142 (by
                have hkn : k = cn 34 := by omega
                have hin : i7 = cn 34 := by omega
                subst hkn
                subst hin
                exact ⟨rfl, hM⟩)
            · have hkk : i7 < cn 34 := Nat.lt_of_not_le (fun h => c_75 (nI_le h (by omega)))
              refine lv_aload_n hx hb dX11_stringOf_78 rfl (lv_at hl 2 rfl) ?_
              refine hk_get (ref := "LightcurveHouseModel") (v := .ref (am 35)) X K hM.1 rfl iX11_stringOf_X11 35 (by decide) (by decide +kernel) (fun _ h => h) rfl dX11_stringOf_79 ?_
              refine lv_aload_n hx hb dX11_stringOf_82 rfl (lv_at hl 2 rfl) ?_
              refine hk_get (ref := "LightcurveHouseModel") (v := .ref (am 37)) X K hM.1 rfl iX11_stringOf_X11 37 (by decide) (by decide +kernel) (fun _ h => h) rfl dX11_stringOf_83 ?_
              refine lv_iload_n hx hb dX11_stringOf_86 rfl (lv_at hl 0 rfl) ?_
              refine hk_ild (f := (ordA (μ 36) P (μ 37) k)) X K hM.a37 (vp_in_nI (by omega) (by omega)) dX11_stringOf_87 ?_
              rw [show (ordA (μ 36) P (μ 37) k) (nI i7).toNatClampNeg = (ordA (μ 36) P (μ 37) k) i7 from by rw [nI_clamp (show i7 < 2 ^ 31 by omega)]]
              refine hk_ild (f := (μ 35)) X K hM.a35 (vp_ord (by omega) (by omega)) dX11_stringOf_88 ?_
              refine lv_aload_n hx hb dX11_stringOf_89 rfl (lv_at hl 2 rfl) ?_
              refine hk_get (ref := "LightcurveHouseModel") (v := .ref (am 35)) X K hM.1 rfl iX11_stringOf_X11 35 (by decide) (by decide +kernel) (fun _ h => h) rfl dX11_stringOf_90 ?_
              refine lv_aload_n hx hb dX11_stringOf_93 rfl (lv_at hl 2 rfl) ?_
              refine hk_get (ref := "LightcurveHouseModel") (v := .ref (am 37)) X K hM.1 rfl iX11_stringOf_X11 37 (by decide) (by decide +kernel) (fun _ h => h) rfl dX11_stringOf_94 ?_
              refine lv_iload_n hx hb dX11_stringOf_97 rfl (lv_at hl 0 rfl) ?_
              refine lv_iconst (v := 1) hx hb dX11_stringOf_98 (by decide) ?_
              refine lv_iadd hx hb dX11_stringOf_99 ?_
              refine lv_topi (fun ia eia => ?_)
              rw [nI_1] at eia
              subst eia
              refine lv_aload_n hx hb dX11_stringOf_100 rfl (lv_at hl 2 rfl) ?_
              refine hk_get (ref := "LightcurveHouseModel") (v := .int (nI (cn 34))) X K hM.1 rfl iX11_stringOf_X11 34 (by decide) (by decide +kernel) (fun _ h => h) rfl dX11_stringOf_101 ?_
              refine lv_icmp_ne (tgt := 111) hx hb dX11_stringOf_104 (by decide) (fun c_104 => ?_) (fun c_104 => ?_)
              · have h104 : i7 + 1 < cn 34 := Nat.lt_of_le_of_ne (by omega) (fun h => c_104 ((nI_eq (by omega) (by omega)).mpr h))
                refine lv_iload_n hx hb dX11_stringOf_111 rfl (lv_at hl 0 rfl) ?_
                refine lv_iconst (v := 1) hx hb dX11_stringOf_112 (by decide) ?_
                refine lv_iadd hx hb dX11_stringOf_113 ?_
                refine lv_topi (fun ib eib => ?_)
                rw [nI_1] at eib
                subst eib
                refine hk_ild (f := (ordA (μ 36) P (μ 37) k)) X K hM.a37 (vp_in_nI (by omega) (by omega)) dX11_stringOf_114 ?_
                rw [show (ordA (μ 36) P (μ 37) k) (nI (i7 + 1)).toNatClampNeg = (ordA (μ 36) P (μ 37) k) (i7 + 1) from by rw [nI_clamp (show (i7 + 1) < 2 ^ 31 by omega)]]
                refine hk_ild (f := (μ 35)) X K hM.a35 (vp_ord (by omega) (by omega)) dX11_stringOf_115 ?_
                refine lv_isub hx hb dX11_stringOf_116 ?_
                refine lv_topi (fun xd exd => ?_)
                refine lv_istore (lv' := [(4, .int xd), (3, .int (nI i7)), (2, .int (sumA (μ 35) (ordA (μ 36) P (μ 37) k) (cn 34) i7)), (0, .ref mo), (1, .int P)]) hx hb dX11_stringOf_117 hl (by decide) rfl (fun ls hl => ?_)
                refine lv_iload_n hx hb dX11_stringOf_119 rfl (lv_at hl 2 rfl) ?_
                refine lv_iload hx hb dX11_stringOf_120 (lv_at hl 0 rfl) ?_
                refine lv_if_ge (tgt := 131) hx hb dX11_stringOf_122 (by decide) (fun c_122 => ?_) (fun c_122 => ?_)
                · refine lv_iload hx hb dX11_stringOf_131 (lv_at hl 0 rfl) ?_
                  refine lv_iadd hx hb dX11_stringOf_133 ?_
                  refine lv_topi (fun s1 es1 => ?_)
                  have e9 : s1 = sumA (μ 35) (ordA (μ 36) P (μ 37) k) (cn 34) (i7 + 1) := by
                    rw [es1, sumA, if_neg (show ¬ i7 + 1 = cn 34 from fun h => c_104 ((nI_eq (by omega) (by omega)).mpr h))]
                    unfold absd
                    rw [← exd, if_pos c_122]
                  subst e9
                  refine lv_istore_n (lv' := [(2, .int (sumA (μ 35) (ordA (μ 36) P (μ 37) k) (cn 34) (i7 + 1))), (4, .int xd), (3, .int (nI i7)), (0, .ref mo), (1, .int P)]) hx hb dX11_stringOf_134 rfl hl (by decide) rfl (fun ls hl => ?_)
                  obtain ⟨i1, ei1⟩ : ∃ y : Int32, y = (nI i7) + 1 := ⟨_, rfl⟩
                  refine lv_iinc (v := i1) (lv' := [(3, .int i1), (2, .int (sumA (μ 35) (ordA (μ 36) P (μ 37) k) (cn 34) (i7 + 1))), (4, .int xd), (0, .ref mo), (1, .int P)]) hx hb dX11_stringOf_135 hl (k := 2) rfl (by rw [ei1]; rfl) (by decide) rfl (fun ls hl => ?_)
                  rw [nI_1] at ei1
                  subst ei1
                  refine lv_goto (tgt := 70) hx hb dX11_stringOf_138 (by decide) ?_
                  exact ih (i7 + 1) (by omega) (by omega) _ (lv_sub hl [0, 1, 3, 4] rfl)
                · refine lv_iload hx hb dX11_stringOf_125 (lv_at hl 0 rfl) ?_
                  refine lv_ineg hx hb dX11_stringOf_127 ?_
                  refine lv_goto (tgt := 133) hx hb dX11_stringOf_128 (by decide) ?_
                  refine lv_iadd hx hb dX11_stringOf_133 ?_
                  refine lv_topi (fun s1 es1 => ?_)
                  have e9 : s1 = sumA (μ 35) (ordA (μ 36) P (μ 37) k) (cn 34) (i7 + 1) := by
                    rw [es1, sumA, if_neg (show ¬ i7 + 1 = cn 34 from fun h => c_104 ((nI_eq (by omega) (by omega)).mpr h))]
                    unfold absd
                    rw [← exd, if_neg c_122]
                  subst e9
                  refine lv_istore_n (lv' := [(2, .int (sumA (μ 35) (ordA (μ 36) P (μ 37) k) (cn 34) (i7 + 1))), (4, .int xd), (3, .int (nI i7)), (0, .ref mo), (1, .int P)]) hx hb dX11_stringOf_134 rfl hl (by decide) rfl (fun ls hl => ?_)
                  obtain ⟨i1, ei1⟩ : ∃ y : Int32, y = (nI i7) + 1 := ⟨_, rfl⟩
                  refine lv_iinc (v := i1) (lv' := [(3, .int i1), (2, .int (sumA (μ 35) (ordA (μ 36) P (μ 37) k) (cn 34) (i7 + 1))), (4, .int xd), (0, .ref mo), (1, .int P)]) hx hb dX11_stringOf_135 hl (k := 2) rfl (by rw [ei1]; rfl) (by decide) rfl (fun ls hl => ?_)
                  rw [nI_1] at ei1
                  subst ei1
                  refine lv_goto (tgt := 70) hx hb dX11_stringOf_138 (by decide) ?_
                  exact ih (i7 + 1) (by omega) (by omega) _ (lv_sub hl [0, 1, 3, 4] rfl)
              · refine lv_iconst (v := 0) hx hb dX11_stringOf_107 (by decide) ?_
                refine lv_topi (fun z_3 ez_3 => ?_)
                have ez_3 : z_3 = nI 0 := ez_3
                subst ez_3
                refine lv_goto (tgt := 114) hx hb dX11_stringOf_108 (by decide) ?_
                refine hk_ild (f := (ordA (μ 36) P (μ 37) k)) X K hM.a37 (vp_in_nI (by omega) (by omega)) dX11_stringOf_114 ?_
                rw [show (ordA (μ 36) P (μ 37) k) (nI 0).toNatClampNeg = (ordA (μ 36) P (μ 37) k) 0 from by rw [nI_clamp (show 0 < 2 ^ 31 by omega)]]
                refine hk_ild (f := (μ 35)) X K hM.a35 (vp_ord (by omega) (by omega)) dX11_stringOf_115 ?_
                refine lv_isub hx hb dX11_stringOf_116 ?_
                refine lv_topi (fun xd exd => ?_)
                refine lv_istore (lv' := [(4, .int xd), (3, .int (nI i7)), (2, .int (sumA (μ 35) (ordA (μ 36) P (μ 37) k) (cn 34) i7)), (0, .ref mo), (1, .int P)]) hx hb dX11_stringOf_117 hl (by decide) rfl (fun ls hl => ?_)
                refine lv_iload_n hx hb dX11_stringOf_119 rfl (lv_at hl 2 rfl) ?_
                refine lv_iload hx hb dX11_stringOf_120 (lv_at hl 0 rfl) ?_
                refine lv_if_ge (tgt := 131) hx hb dX11_stringOf_122 (by decide) (fun c_122 => ?_) (fun c_122 => ?_)
                · refine lv_iload hx hb dX11_stringOf_131 (lv_at hl 0 rfl) ?_
                  refine lv_iadd hx hb dX11_stringOf_133 ?_
                  refine lv_topi (fun s1 es1 => ?_)
                  have e9 : s1 = sumA (μ 35) (ordA (μ 36) P (μ 37) k) (cn 34) (i7 + 1) := by
                    rw [es1, sumA, if_pos (show i7 + 1 = cn 34 from (nI_eq (by omega) (by omega)).mp c_104)]
                    unfold absd
                    rw [← exd, if_pos c_122]
                  subst e9
                  refine lv_istore_n (lv' := [(2, .int (sumA (μ 35) (ordA (μ 36) P (μ 37) k) (cn 34) (i7 + 1))), (4, .int xd), (3, .int (nI i7)), (0, .ref mo), (1, .int P)]) hx hb dX11_stringOf_134 rfl hl (by decide) rfl (fun ls hl => ?_)
                  obtain ⟨i1, ei1⟩ : ∃ y : Int32, y = (nI i7) + 1 := ⟨_, rfl⟩
                  refine lv_iinc (v := i1) (lv' := [(3, .int i1), (2, .int (sumA (μ 35) (ordA (μ 36) P (μ 37) k) (cn 34) (i7 + 1))), (4, .int xd), (0, .ref mo), (1, .int P)]) hx hb dX11_stringOf_135 hl (k := 2) rfl (by rw [ei1]; rfl) (by decide) rfl (fun ls hl => ?_)
                  rw [nI_1] at ei1
                  subst ei1
                  refine lv_goto (tgt := 70) hx hb dX11_stringOf_138 (by decide) ?_
                  exact ih (i7 + 1) (by omega) (by omega) _ (lv_sub hl [0, 1, 3, 4] rfl)
                · refine lv_iload hx hb dX11_stringOf_125 (lv_at hl 0 rfl) ?_
                  refine lv_ineg hx hb dX11_stringOf_127 ?_
                  refine lv_goto (tgt := 133) hx hb dX11_stringOf_128 (by decide) ?_
                  refine lv_iadd hx hb dX11_stringOf_133 ?_
                  refine lv_topi (fun s1 es1 => ?_)
                  have e9 : s1 = sumA (μ 35) (ordA (μ 36) P (μ 37) k) (cn 34) (i7 + 1) := by
                    rw [es1, sumA, if_pos (show i7 + 1 = cn 34 from (nI_eq (by omega) (by omega)).mp c_104)]
                    unfold absd
                    rw [← exd, if_neg c_122]
                  subst e9
                  refine lv_istore_n (lv' := [(2, .int (sumA (μ 35) (ordA (μ 36) P (μ 37) k) (cn 34) (i7 + 1))), (4, .int xd), (3, .int (nI i7)), (0, .ref mo), (1, .int P)]) hx hb dX11_stringOf_134 rfl hl (by decide) rfl (fun ls hl => ?_)
                  obtain ⟨i1, ei1⟩ : ∃ y : Int32, y = (nI i7) + 1 := ⟨_, rfl⟩
                  refine lv_iinc (v := i1) (lv' := [(3, .int i1), (2, .int (sumA (μ 35) (ordA (μ 36) P (μ 37) k) (cn 34) (i7 + 1))), (4, .int xd), (0, .ref mo), (1, .int P)]) hx hb dX11_stringOf_135 hl (k := 2) rfl (by rw [ei1]; rfl) (by decide) rfl (fun ls hl => ?_)
                  rw [nI_1] at ei1
                  subst ei1
                  refine lv_goto (tgt := 70) hx hb dX11_stringOf_138 (by decide) ?_
                  exact ih (i7 + 1) (by omega) (by omega) _ (lv_sub hl [0, 1, 3, 4] rfl)
        exact L70 (cn 34 + 1) 0 (by omega) (Nat.zero_le _) _ (lv_sub hl [0, 1, 2, 3] rfl)
      · have hkk : k < cn 34 := Nat.lt_of_not_le (fun h => c_7 (nI_le h (by omega)))
        refine lv_iload_n hx hb dX11_stringOf_10 rfl (lv_at hl 0 rfl) ?_
        refine lv_istore_n (lv' := [(3, .int (nI k)), (2, .int (nI k)), (0, .ref mo), (1, .int P)]) hx hb dX11_stringOf_11 rfl hl (by decide) rfl (fun ls hl => ?_)
        have L12 : ∀ (n8 : Nat) (j : Nat) (H : Heap) (locs : List Loc), j + 1 ≤ n8 → (j ≤ k ∧ jpA (μ 36) P k (ordA (μ 36) P (μ 37) k) k = jpA (μ 36) P k (ordA (μ 36) P (μ 37) k) j ∧ MW E mo am Z cn sc (va_up μ 37 (shf (ordA (μ 36) P (μ 37) k) j k)) H ∧ va_S Z s.heap H locs) → ∀ (ls : Array Slot), lv_has ls 5 [(3, .int (nI j)), (2, .int (nI k)), (0, .ref mo), (1, .int P)] → W p l e rmX11_stringOf s m args below meth c H locs 0 0 Q (F0 m 12 ls []) := by
          intro n8
          induction n8 with
          | zero =>
            intro j H locs hm8j hinv8 ls hl
            obtain ⟨hjk, hjp, hM, hS⟩ := hinv8
            exact absurd hm8j (by omega)
          | succ n8 ih8 =>
            intro j H locs hm8j hinv8 ls hl
            obtain ⟨hjk, hjp, hM, hS⟩ := hinv8
            refine lv_iload_n hx hb dX11_stringOf_12 rfl (lv_at hl 0 rfl) ?_
            refine lv_if_le (tgt := 53) hx hb dX11_stringOf_13 (by decide) (fun c_13 => ?_) (fun c_13 => ?_)
            · have hj0 : j = 0 := Nat.le_zero.mp ((nI_leI (a := j) (b := 0) (by omega) (by decide)).mp (by rw [nI_0]; exact c_13))
              subst hj0
              refine lv_aload_n hx hb dX11_stringOf_53 rfl (lv_at hl 2 rfl) ?_
              refine hk_get (ref := "LightcurveHouseModel") (v := .ref (am 37)) X K hM.1 rfl iX11_stringOf_X11 37 (by decide) (by decide +kernel) (fun _ h => h) rfl dX11_stringOf_54 ?_
              refine lv_iload_n hx hb dX11_stringOf_57 rfl (lv_at hl 0 rfl) ?_
              refine lv_iload_n hx hb dX11_stringOf_58 rfl (lv_at hl 1 rfl) ?_
              refine hk_ist (f := (shf (ordA (μ 36) P (μ 37) k) 0 k)) X K hM.a37 hS (hM.2.2.2.2.2 37 (by decide)) (vp_in_nI (by omega) (by omega)) dX11_stringOf_59 (fun H4 locsH4 hIH4 hzH4 hqH4 hS => ?_)
              rw [show (nI 0).toNatClampNeg = 0 from nI_clamp (by omega)] at hIH4
              have hM := MW.set hM 37 (by decide) hIH4 hqH4
              obtain ⟨k1, ek1⟩ : ∃ y : Int32, y = (nI k) + 1 := ⟨_, rfl⟩
              refine lv_iinc (v := k1) (lv' := [(2, .int k1), (3, .int (nI 0)), (0, .ref mo), (1, .int P)]) hx hb dX11_stringOf_60 hl (k := 1) rfl (by rw [ek1]; rfl) (by decide) rfl (fun ls hl => ?_)
              rw [nI_1] at ek1
              subst ek1
              refine lv_goto (tgt := 2) hx hb dX11_stringOf_63 (by decide) ?_
              exact ih (k + 1) H4 locsH4 (by omega) ⟨by omega, by have h9 := hM; rw [va_up2] at h9; have e9 : jpA (μ 36) P k (ordA (μ 36) P (μ 37) k) k = 0 := (by rw [hjp, jpA]); rw [ordA, e9]; exact h9, hS⟩ _ (lv_sub hl [0, 2, 3] rfl)
            · obtain ⟨j7, rfl⟩ : ∃ j7, j = j7 + 1 := ⟨j - 1, (Nat.succ_pred_eq_of_ne_zero (fun h => by subst h; exact absurd (by decide) c_13)).symm⟩
              refine lv_aload_n hx hb dX11_stringOf_16 rfl (lv_at hl 2 rfl) ?_
              refine lv_iload_n hx hb dX11_stringOf_17 rfl (lv_at hl 1 rfl) ?_
              refine lv_aload_n hx hb dX11_stringOf_18 rfl (lv_at hl 2 rfl) ?_
              refine hk_get (ref := "LightcurveHouseModel") (v := .ref (am 37)) X K hM.1 rfl iX11_stringOf_X11 37 (by decide) (by decide +kernel) (fun _ h => h) rfl dX11_stringOf_19 ?_
              refine lv_iload_n hx hb dX11_stringOf_22 rfl (lv_at hl 0 rfl) ?_
              refine lv_iconst (v := 1) hx hb dX11_stringOf_23 (by decide) ?_
              refine lv_isub hx hb dX11_stringOf_24 ?_
              refine lv_topi (fun jm ejm => ?_)
              rw [nI_pred] at ejm
              subst ejm
              refine hk_ild (f := (shf (ordA (μ 36) P (μ 37) k) (j7 + 1) k)) X K hM.a37 (vp_in_nI (by omega) (by omega)) dX11_stringOf_25 ?_
              rw [show (shf (ordA (μ 36) P (μ 37) k) (j7 + 1) k) (nI j7).toNatClampNeg = ordA (μ 36) P (μ 37) k j7 from by rw [nI_clamp (show j7 < 2 ^ 31 by omega), shf_at]]
              refine lv_iload_n hx hb dX11_stringOf_26 rfl (lv_at hl 3 rfl) ?_
              refine hk_callV 3 (As := [.int (nI k), .int (ordA (μ 36) P (μ 37) k j7), .int P]) (rest := []) X K hAE hS hl.1 hM.1 rfl (c_X11_isAhead E l H hM hP (x := nI k) (y := ordA (μ 36) P (μ 37) k j7) (vp_in_nI (by omega) (by omega)) (vp_ord (by omega) (by omega))) (fun _ h => h.elim) gX11_stringOf_X11_isAhead rfl ⟨rfl, hd_X11_isAhead⟩ rfl ⟨⟨(Nat.le_of_ble_eq_true rfl), (Nat.le_of_ble_eq_true rfl)⟩, (Nat.le_of_ble_eq_true rfl), (Nat.le_of_ble_eq_true rfl)⟩ rfl (Nat.le_of_ble_eq_true rfl) dX11_stringOf_27 (fun v9 H5 locsH5 hp hS hzH5 hkH5 => ?_)
              obtain ⟨hv, hh⟩ := hp
              subst hh
              rcases hv with ⟨hv, c_27⟩ | ⟨hv, c_27⟩
              · subst hv
                refine lv_if_eq (tgt := 53) hx hb dX11_stringOf_30 (by decide) (fun c_30 => ?_) (fun c_30 => ?_)
                · exact absurd c_30 (by decide)
                · refine lv_aload_n hx hb dX11_stringOf_33 rfl (lv_at hl 2 rfl) ?_
                  refine hk_get (ref := "LightcurveHouseModel") (v := .ref (am 37)) X K hM.1 rfl iX11_stringOf_X11 37 (by decide) (by decide +kernel) (fun _ h => h) rfl dX11_stringOf_34 ?_
                  refine lv_iload_n hx hb dX11_stringOf_37 rfl (lv_at hl 0 rfl) ?_
                  refine lv_aload_n hx hb dX11_stringOf_38 rfl (lv_at hl 2 rfl) ?_
                  refine hk_get (ref := "LightcurveHouseModel") (v := .ref (am 37)) X K hM.1 rfl iX11_stringOf_X11 37 (by decide) (by decide +kernel) (fun _ h => h) rfl dX11_stringOf_39 ?_
                  refine lv_iload_n hx hb dX11_stringOf_42 rfl (lv_at hl 0 rfl) ?_
                  refine lv_iconst (v := 1) hx hb dX11_stringOf_43 (by decide) ?_
                  refine lv_isub hx hb dX11_stringOf_44 ?_
                  refine lv_topi (fun jm2 ejm2 => ?_)
                  rw [nI_pred] at ejm2
                  subst ejm2
                  refine hk_ild (f := (shf (ordA (μ 36) P (μ 37) k) (j7 + 1) k)) X K hM.a37 (vp_in_nI (by omega) (by omega)) dX11_stringOf_45 ?_
                  rw [show (shf (ordA (μ 36) P (μ 37) k) (j7 + 1) k) (nI j7).toNatClampNeg = ordA (μ 36) P (μ 37) k j7 from by rw [nI_clamp (show j7 < 2 ^ 31 by omega), shf_at]]
                  refine hk_ist (f := (shf (ordA (μ 36) P (μ 37) k) (j7 + 1) k)) X K hM.a37 hS (hM.2.2.2.2.2 37 (by decide)) (vp_in_nI (by omega) (by omega)) dX11_stringOf_46 (fun H6 locsH6 hIH6 hzH6 hqH6 hS => ?_)
                  rw [show (nI (j7 + 1)).toNatClampNeg = (j7 + 1) from nI_clamp (by omega)] at hIH6
                  have hM := MW.set hM 37 (by decide) hIH6 hqH6
                  obtain ⟨jd, ejd⟩ : ∃ y : Int32, y = (nI (j7 + 1)) + (-1) := ⟨_, rfl⟩
                  refine lv_iinc (v := jd) (lv' := [(3, .int jd), (2, .int (nI k)), (0, .ref mo), (1, .int P)]) hx hb dX11_stringOf_47 hl (k := 0) rfl (by rw [ejd]; rfl) (by decide) rfl (fun ls hl => ?_)
                  rw [add_m1, nI_pred] at ejd
                  subst ejd
                  refine lv_goto (tgt := 12) hx hb dX11_stringOf_50 (by decide) ?_
                  exact ih8 j7 H6 locsH6 (by omega) ⟨by omega, by rw [hjp, jpA, if_pos (by have h9 := c_27; rw [ix_nI (show k < 2 ^ 31 by omega)] at h9; exact h9)], by have h9 := hM; rw [va_up2, shf_dn (by omega)] at h9; exact h9, hS⟩ _ (lv_sub hl [0, 1, 2, 3] rfl)
              · subst hv
                refine lv_if_eq (tgt := 53) hx hb dX11_stringOf_30 (by decide) (fun c_30 => ?_) (fun c_30 => ?_)
                · refine lv_aload_n hx hb dX11_stringOf_53 rfl (lv_at hl 2 rfl) ?_
                  refine hk_get (ref := "LightcurveHouseModel") (v := .ref (am 37)) X K hM.1 rfl iX11_stringOf_X11 37 (by decide) (by decide +kernel) (fun _ h => h) rfl dX11_stringOf_54 ?_
                  refine lv_iload_n hx hb dX11_stringOf_57 rfl (lv_at hl 0 rfl) ?_
                  refine lv_iload_n hx hb dX11_stringOf_58 rfl (lv_at hl 1 rfl) ?_
                  refine hk_ist (f := (shf (ordA (μ 36) P (μ 37) k) (j7 + 1) k)) X K hM.a37 hS (hM.2.2.2.2.2 37 (by decide)) (vp_in_nI (by omega) (by omega)) dX11_stringOf_59 (fun H7 locsH7 hIH7 hzH7 hqH7 hS => ?_)
                  rw [show (nI (j7 + 1)).toNatClampNeg = (j7 + 1) from nI_clamp (by omega)] at hIH7
                  have hM := MW.set hM 37 (by decide) hIH7 hqH7
                  obtain ⟨k1, ek1⟩ : ∃ y : Int32, y = (nI k) + 1 := ⟨_, rfl⟩
                  refine lv_iinc (v := k1) (lv' := [(2, .int k1), (3, .int (nI (j7 + 1))), (0, .ref mo), (1, .int P)]) hx hb dX11_stringOf_60 hl (k := 1) rfl (by rw [ek1]; rfl) (by decide) rfl (fun ls hl => ?_)
                  rw [nI_1] at ek1
                  subst ek1
                  refine lv_goto (tgt := 2) hx hb dX11_stringOf_63 (by decide) ?_
                  exact ih (k + 1) H7 locsH7 (by omega) ⟨by omega, by have h9 := hM; rw [va_up2] at h9; have e9 : jpA (μ 36) P k (ordA (μ 36) P (μ 37) k) k = (j7 + 1) := (by rw [hjp, jpA, if_neg (by have h9 := c_27; rw [ix_nI (show k < 2 ^ 31 by omega)] at h9; exact h9)]); rw [ordA, e9]; exact h9, hS⟩ _ (lv_sub hl [0, 2, 3] rfl)
                · exact absurd (by decide) c_30
        exact L12 (k + 1) k H locs (by omega) ⟨Nat.le_refl _, rfl, by rw [shf_0]; exact hM, hS⟩ _ (lv_sub hl [0, 1, 2, 3] rfl)
  exact L2 (cn 34 + 1) 0 H0 [] (by omega) ⟨Nat.zero_le _, by rw [ordA, va_same]; exact hM, hS⟩ _ (lv_sub hl [0, 1, 2] rfl)

