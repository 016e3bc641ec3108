/-- the sign of a comparison of longs -/
def lcv (x y : Int64) : Int32 := if x > y then 1 else if x == y then 0 else -1
theorem lcv_gt {x y : Int64} : 0 < lcv x y ↔ y < x := by
  unfold lcv
  by_cases h : x > y
  · rw [if_pos h]; exact ⟨fun _ => h, fun _ => by decide⟩
  · rw [if_neg h]
    refine ⟨fun g => ?_, fun g => absurd g h⟩
    by_cases h2 : (x == y) = true
    · rw [if_pos h2] at g; exact absurd g (by decide)
    · rw [if_neg h2] at g; exact absurd g (by decide)
section
variable {p : Program} {l : Launch} {e : Env} {R : Room} {s : State} {m : MethodId} {args : Array Value} {below : List Frame} {meth : Method} {c : Code} {H : Heap} {locs : List Loc} {cells slots : Nat} {Q : State → Prop} {cc : ByteArray} {pc : Nat} {ls : Array Slot} {rest : List Value}
theorem lv_lcmp (hexec : p.tables.exec = Jvm.exec) (hb : c.code = cc) {x y : Int64} (hdg : decode cc pc = .ok (.lcmp, 1))
    (k : W p l e R s m args below meth c H locs cells slots Q (F0 m (pc + 1) ls (.int (lcv x y) :: rest))) : W p l e R s m args below meth c H locs cells slots Q (F0 m pc ls (.long y :: .long x :: rest)) := by
  intro T hT X
  obtain ⟨t, a, b⟩ := k T hT X
  refine ⟨t, ?_, b⟩
  unfold lcv at a
  by_cases h : x > y
  · rw [if_pos h] at a
    jvm_step X.here [X.here.top, hexec, hb, hdg, h]
    exact a
  · rw [if_neg h] at a
    by_cases h2 : (x == y) = true
    · rw [if_pos h2] at a
      jvm_step X.here [X.here.top, hexec, hb, hdg, h, h2]
      rw [if_pos (eq_of_beq h2)]
      exact a
    · rw [if_neg h2] at a
      jvm_step X.here [X.here.top, hexec, hb, hdg, h, h2]
      rw [if_neg (fun g => h2 (by rw [g]; exact beq_self_eq_true y))]
      exact a
end
def cd_period (p0 p1 p2 p3 : Int32) (S : mS) : Int32 := sp_tr S p0 p1 p2 p3 1
def an_period (p0 p1 p2 p3 : Int32) (S : mS) : Int32 := (bestA p1 p3 (sp_str S.2.2 (sp_sel S.2.2 (S.2.2 3 (ix p0)) (-1) (S.1 12))) (trN p1 p2 p3)).1
def st_period (p0 p1 p2 p3 : Int32) (S : mS) : mS := S
theorem hd_X11_areTrials : yX11_areTrials.cls ≠ "java/lang/invoke/MethodHandle" ∧ yX11_areTrials.cls ≠ "java/lang/invoke/VarHandle" ∧ (parseMethodDescriptor yX11_areTrials.desc).map (fun d => d.parameters.length) = some 5 := ⟨by decide, by decide, by decide +kernel⟩
theorem hd_X11_best : yX11_best.cls ≠ "java/lang/invoke/MethodHandle" ∧ yX11_best.cls ≠ "java/lang/invoke/VarHandle" ∧ (parseMethodDescriptor yX11_best.desc).map (fun d => d.parameters.length) = some 3 := ⟨by decide, by decide, by decide +kernel⟩
abbrev rmX11_period : Room := { frames := 6, cells := 0, slots := 0, locals := 135 }
theorem iX11_period_X11 : ∀ w ∈ wsX110, w ∈ wsX11_period := by decide +kernel
set_option maxHeartbeats 4000000 in
set_option maxRecDepth 100000 in
theorem c_X11_period (E : hk_E) (l : Launch) (H0 : Heap) {mo : Nat} {am : Nat → Nat} {Z : Nat → Prop} {cn : Nat → Nat} {sc : Nat → Int32} {μ : Nat → Nat → Int32} (hM : MW E mo am Z cn sc μ H0) (hZ : ∀ q, Z q → hk_A E q) {p0 p1 p2 p3 : Int32} (hI : Inv (cn, sc, μ))  : hk_M E l yX11_period wsX11_period rmX11_period (Z) [.ref mo, .int p0, .int p1, .int p2, .int p3] H0 (mpost E mo am Z (cd_period p0 p1 p2 p3 (cn, sc, μ)) (an_period p0 p1 p2 p3 (cn, sc, μ)) (cn, sc, μ) (st_period p0 p1 p2 p3 (cn, sc, μ))) := by
  refine hk_M.ofW (cc := cX11_period) (maxL := 5) (ret := (some .int)) (by decide +kernel) rfl (Nat.le_of_ble_eq_true rfl) ?_
  intro p e s m args below meth c ls Q hQ X hr hlk hnm K hs9 hS hl
  obtain ⟨hx, hb, hml, hown, hts⟩ := id X
  have hAE : ∀ q, (Z) q → hk_A E q := hZ
  have hl : lv_has ls 5 [(0, .ref mo), (1, .int p0), (2, .int p1), (3, .int p2), (4, .int p3)] := hl
  have hnl := hI.1.2.2.1
  have hns := hI.1.1
  have hnp := hI.1.2.1
  dsimp only at hnl hns hnp
  refine lv_aload_n hx hb dX11_period_0 rfl (lv_at hl 0 rfl) ?_
  refine lv_aload_n hx hb dX11_period_1 rfl (lv_at hl 0 rfl) ?_
  refine lv_iload_n hx hb dX11_period_2 rfl (lv_at hl 1 rfl) ?_
  refine lv_iload_n hx hb dX11_period_3 rfl (lv_at hl 2 rfl) ?_
  refine lv_iload_n hx hb dX11_period_4 rfl (lv_at hl 3 rfl) ?_
  refine lv_iload hx hb dX11_period_5 (lv_at hl 4 rfl) ?_
  refine lv_iconst (v := 1) hx hb dX11_period_7 (by decide) ?_
  refine hk_callV 5 (As := [.int p0, .int p1, .int p2, .int p3, .int 1]) (rest := [.ref mo]) X K hAE hS hl.1 hM.1 rfl (c_X11_areTrials E l H0 hM hZ hI (p0 := p0) (fr := p1) (to := p2) (st := p3) (ok := 1)) (fun _ h => h) gX11_period_X11_areTrials rfl ⟨rfl, hd_X11_areTrials⟩ rfl ⟨⟨(Nat.le_of_ble_eq_true rfl), (Nat.le_of_ble_eq_true rfl)⟩, (Nat.le_of_ble_eq_true rfl), (Nat.le_of_ble_eq_true rfl)⟩ rfl (Nat.le_of_ble_eq_true rfl) dX11_period_8 (fun v9 H1 locsH1 hp hS hzH1 hkH1 => ?_)
  obtain ⟨hv, n9, fL, fT, hM, hz⟩ := hp
  subst hv
  refine hk_put (ref := "LightcurveHouseModel") X K hM.1 rfl iX11_period_X11 tyX11 tyX11_ok nmX11 hS hM.2.2.2.2.1 33 (by decide) (by decide +kernel) (fun _ h => h) (by decide +kernel) rfl rfl (Nat.le_of_ble_eq_true rfl) dX11_period_11 (fun H2 locsH2 hOH2 hzH2 hqH2 hS => ?_)
  rw [mf_33] at hOH2
  have hM := MW.obj hM hOH2 hqH2
  refine lv_aload_n hx hb dX11_period_14 rfl (lv_at hl 0 rfl) ?_
  refine hk_get (ref := "LightcurveHouseModel") (v := .int (sp_tr (cn, sc, μ) p0 p1 p2 p3 1)) X K hM.1 rfl iX11_period_X11 33 (by decide) (by decide +kernel) (fun _ h => h) rfl dX11_period_15 ?_
  refine lv_if_le (tgt := 25) hx hb dX11_period_18 (by decide) (fun c_18 => ?_) (fun c_18 => ?_)
  · obtain ⟨h0, hst, hT, hok⟩ := sp_tr_0 c_18
    obtain ⟨hn9, hg⟩ := hz h0
    subst hn9
    refine lv_aload_n hx hb dX11_period_25 rfl (lv_at hl 0 rfl) ?_
    refine lv_iload_n hx hb dX11_period_26 rfl (lv_at hl 2 rfl) ?_
    refine lv_iload_n hx hb dX11_period_27 rfl (lv_at hl 3 rfl) ?_
    refine lv_iload hx hb dX11_period_28 (lv_at hl 4 rfl) ?_
    refine hk_callV 3 (As := [.int p1, .int p2, .int p3]) (rest := []) X K hAE hS hl.1 hM.1 rfl (c_X11_best E l H2 hM hZ (μs := μ) (L := (sp_sel μ (μ 3 (ix p0)) (-1) (cn 12))) hg rfl (sel80 hnl) hT) (fun _ h => h) gX11_period_X11_best rfl ⟨rfl, hd_X11_best⟩ rfl ⟨⟨(Nat.le_of_ble_eq_true rfl), (Nat.le_of_ble_eq_true rfl)⟩, (Nat.le_of_ble_eq_true rfl), (Nat.le_of_ble_eq_true rfl)⟩ rfl (Nat.le_of_ble_eq_true rfl) dX11_period_30 (fun v9 H3 locsH3 hp hS hzH3 hkH3 => ?_)
    obtain ⟨hv, oB, hM⟩ := hp
    subst hv
    exact hk_iret X hr hlk hQ hS (Nat.le_of_ble_eq_true rfl) (Nat.le_of_ble_eq_true rfl) dX11_period_33 (mfin0 hM h0 (by show sp_tr (cn, sc, μ) p0 p1 p2 p3 1 = 0; exact h0) rfl agr_all)
  · refine lv_iconst (v := 0) hx hb dX11_period_21 (by decide) ?_
    refine lv_goto (tgt := 33) hx hb dX11_period_22 (by decide) ?_
    exact hk_iret X hr hlk hQ hS (Nat.le_of_ble_eq_true rfl) (Nat.le_of_ble_eq_true rfl) dX11_period_33 (mfin1 (v := sp_tr (cn, sc, μ) p0 p1 p2 p3 1) hM rfl (fun h => c_18 (by rw [h]; decide)) rfl rfl agr_scr)

