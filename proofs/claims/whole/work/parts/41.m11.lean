theorem nI_mul (a b : Nat) : nI a * nI b = nI (a * b) := (Int32.ofNat_mul a b).symm
theorem nI_sub {a b : Nat} (h : a ≤ b) : nI b - nI a = nI (b - a) := by
  have e : nI b = nI (b - a) + nI a := by rw [nI_add, Nat.sub_add_cancel h]
  rw [e, Int32.add_sub_cancel]
theorem inr_nat {x lo hi : Int32} (h : inr x lo hi) (h0 : 0 ≤ lo) : ∃ a : Nat, x = nI a ∧ lo.toInt ≤ (a : Int) ∧ (a : Int) ≤ hi.toInt ∧ a < 2 ^ 31 := by
  have h1 := i_le.mp h.1
  have h2 := i_le.mp h.2
  have h3 := i_le.mp h0
  rw [i_0] at h3
  obtain ⟨a, ha, rfl⟩ := nI_of (x := x) (fun g => by rw [i_lt, i_0] at g; omega)
  rw [nI_toInt ha] at h1 h2
  exact ⟨a, rfl, h1, h2, ha⟩
/-- how many trials, and the trials -/
def trN (fr to st : Int32) : Nat := ix ((to - fr) / st) + 1
def trI (fr st : Int32) (i : Nat) : Int32 := fr + nI i * st
def trOK (fr to st : Int32) : Prop := inr fr 30 1000000 ∧ inr to fr 1000000 ∧ inr st 1 1000000
theorem trOK.nat {fr to st : Int32} (h : trOK fr to st) : ∃ a b c : Nat, fr = nI a ∧ st = nI b ∧ to = nI c ∧ 30 ≤ a ∧ a ≤ c ∧ c ≤ 1000000 ∧ 1 ≤ b ∧ b ≤ 1000000 ∧ trN fr to st = (c - a) / b + 1 := by
  obtain ⟨a, rfl, ha1, ha2, ha3⟩ := inr_nat h.1 (by decide)
  obtain ⟨b, rfl, hb1, hb2, hb3⟩ := inr_nat h.2.2 (by decide)
  obtain ⟨c, rfl, hc1, hc2, hc3⟩ := inr_nat h.2.1 (nI_pos' ha3)
  have e1 : (30 : Int32).toInt = 30 := rfl
  have e2 : (1000000 : Int32).toInt = 1000000 := rfl
  have e3 : (1 : Int32).toInt = 1 := rfl
  rw [e1] at ha1
  rw [e2] at ha2 hb2 hc2
  rw [e3] at hb1
  rw [nI_toInt ha3] at hc1
  have hlt : (c - a) / b < 2 ^ 31 := Nat.lt_of_le_of_lt (Nat.div_le_self _ _) (by omega)
  refine ⟨a, b, c, rfl, rfl, rfl, by omega, by omega, by omega, by omega, by omega, ?_⟩
  unfold trN
  rw [nI_sub (by omega), pk_div (by omega) (by omega) (by omega), ix_nI hlt]
theorem trI_nat {a b i : Nat} : trI (nI a) (nI b) i = nI (a + i * b) := by
  unfold trI
  rw [nI_mul, nI_add]
theorem trI_0 {fr st : Int32} : trI fr st 0 = fr := by
  unfold trI
  rw [nI_0, Int32.zero_mul, Int32.add_zero]
theorem trI_1 {fr st : Int32} {i : Nat} : trI fr st i + st = trI fr st (i + 1) := by
  unfold trI
  rw [← nI_1, Int32.add_mul, Int32.one_mul, Int32.add_assoc]
theorem tr_bd {a b c i : Nat} (hb : 1 ≤ b) (hi : i ≤ (c - a) / b + 1) : i * b ≤ (c - a) + b := by
  have h1 := Nat.mul_le_mul_right b hi
  have h2 := Nat.div_mul_le_self (c - a) b
  rw [Nat.add_mul, Nat.one_mul] at h1
  omega
theorem trI_le {fr to st : Int32} (h : trOK fr to st) {i : Nat} (hi : i ≤ trN fr to st) : trI fr st i ≤ to ↔ i < trN fr to st := by
  obtain ⟨a, b, c, rfl, rfl, rfl, h1, h2, h3, h4, h5, h6⟩ := h.nat
  rw [h6] at hi ⊢
  have h7 := tr_bd h4 hi
  rw [trI_nat, nI_leI (by omega) (by omega)]
  have h8 : i ≤ (c - a) / b ↔ i * b ≤ c - a := Nat.le_div_iff_mul_le (by omega)
  omega
theorem trI_pos {fr to st : Int32} (h : trOK fr to st) {i : Nat} (hi : i ≤ trN fr to st) : 0 < trI fr st i := by
  obtain ⟨a, b, c, rfl, rfl, rfl, h1, h2, h3, h4, h5, h6⟩ := h.nat
  rw [h6] at hi
  have h7 := tr_bd h4 hi
  rw [trI_nat, ← nI_0, nI_ltI (by decide) (by omega)]
  omega
/-- what stands against trials: 0 when nothing -/
def sp_tr (S : mS) (si fr to st ok : Int32) : Int32 := if isS (S.1 1) si then (if ok = 0 then 2 else (if inr fr 30 1000000 then (if inr to fr 1000000 then (if inr st 1 1000000 then (if (to - fr) / st + 1 ≤ 200 then (if 3 ≤ nI (sp_sel S.2.2 (S.2.2 3 (ix si)) (-1) (S.1 12)).length then 0 else 3) else 2) else 2) else 2) else 2)) else 1
theorem sp_tr_0 {S : mS} {si fr to st ok : Int32} (h : sp_tr S si fr to st ok ≤ 0) : sp_tr S si fr to st ok = 0 ∧ isS (S.1 1) si ∧ trOK fr to st ∧ ok ≠ 0 := by
  unfold sp_tr at h ⊢
  by_cases h1 : isS (S.1 1) si
  · rw [if_pos h1] at h ⊢
    by_cases h2 : ok = 0
    · rw [if_pos h2] at h; exact absurd h (by decide)
    · rw [if_neg h2] at h ⊢
      by_cases h3 : inr fr 30 1000000
      · rw [if_pos h3] at h ⊢
        by_cases h4 : inr to fr 1000000
        · rw [if_pos h4] at h ⊢
          by_cases h5 : inr st 1 1000000
          · rw [if_pos h5] at h ⊢
            by_cases h6 : (to - fr) / st + 1 ≤ 200
            · rw [if_pos h6] at h ⊢
              by_cases h7 : 3 ≤ nI (sp_sel S.2.2 (S.2.2 3 (ix si)) (-1) (S.1 12)).length
              · rw [if_pos h7]; exact ⟨rfl, h1, ⟨h3, h4, h5⟩, h2⟩
              · rw [if_neg h7] at h; exact absurd h (by decide)
            · rw [if_neg h6] at h; exact absurd h (by decide)
          · rw [if_neg h5] at h; exact absurd h (by decide)
        · rw [if_neg h4] at h; exact absurd h (by decide)
      · rw [if_neg h3] at h; exact absurd h (by decide)
  · rw [if_neg h1] at h; exact absurd h (by decide)
abbrev rmX11_areTrials : Room := { frames := 5, cells := 0, slots := 0, locals := 109 }
theorem iX11_areTrials_X11 : ∀ w ∈ wsX110, w ∈ wsX11_areTrials := by decide +kernel
set_option maxHeartbeats 4000000 in
set_option maxRecDepth 100000 in
theorem c_X11_areTrials (E : hk_E) (l : Launch) (H0 : Heap) {mo : Nat} {am : Nat → Nat} {Z : Nat → Prop} {cn : Nat → Nat} {sc : Nat → Int32} {μ : Nat → Nat → Int32} (hM : MW E mo am Z cn sc μ H0) (hZ : ∀ q, Z q → hk_A E q) (hI : Inv (cn, sc, μ)) {p0 fr to st ok : Int32} : hk_M E l yX11_areTrials wsX11_areTrials rmX11_areTrials (Z) [.ref mo, .int p0, .int fr, .int to, .int st, .int ok] H0 (fun z H1 => z = some (.int (sp_tr (cn, sc, μ) p0 fr to st ok)) ∧ ∃ (n : Nat) (fL fT : Nat → Int32), MW E mo am Z (va_up cn 34 n) sc (scr μ fL fT) H1 ∧ (sp_tr (cn, sc, μ) p0 fr to st ok = 0 → n = (sp_sel μ (μ 3 (ix p0)) (-1) (cn 12)).length ∧ gRow μ (sp_sel μ (μ 3 (ix p0)) (-1) (cn 12)) fL fT)) := by
  refine hk_M.ofW (cc := cX11_areTrials) (maxL := 7) (ret := (some .int)) (by decide +kernel) rfl (Nat.le_of_ble_eq_true rfl) ?_
  intro p e s m args below meth c ls Q hQ X hr hlk hnm K hs9 hS hl
  obtain ⟨hx, hb, hml, hown, hts⟩ := id X
  have hAE : ∀ q, (Z) q → hk_A E q := hZ
  have hl : lv_has ls 7 [(0, .ref mo), (1, .int p0), (2, .int fr), (3, .int to), (4, .int st), (5, .int ok)] := hl
  have hnl := hI.1.2.2.1
  have hns := hI.1.1
  have hnp := hI.1.2.1
  dsimp only at hnl hns hnp
  refine lv_aload_n hx hb dX11_areTrials_0 rfl (lv_at hl 0 rfl) ?_
  refine lv_iload_n hx hb dX11_areTrials_1 rfl (lv_at hl 1 rfl) ?_
  refine hk_callV 1 (As := [.int p0]) (rest := []) X K hAE hS hl.1 hM.1 rfl (c_X11_isStar E l H0 hM hns (i := p0)) (fun _ h => h.elim) gX11_areTrials_X11_isStar rfl ⟨rfl, hd_X11_isStar⟩ rfl ⟨⟨(Nat.le_of_ble_eq_true rfl), (Nat.le_of_ble_eq_true rfl)⟩, (Nat.le_of_ble_eq_true rfl), (Nat.le_of_ble_eq_true rfl)⟩ rfl (Nat.le_of_ble_eq_true rfl) dX11_areTrials_2 (fun v9 H1 locsH1 hp hS hzH1 hkH1 => ?_)
  obtain ⟨hv, hh⟩ := hp
  subst hh
  rcases hv with ⟨hv, c_2⟩ | ⟨hv, c_2⟩
  · subst hv
    refine lv_if_ne (tgt := 10) hx hb dX11_areTrials_5 (by decide) (fun c_5 => ?_) (fun c_5 => ?_)
    · refine lv_iload hx hb dX11_areTrials_10 (lv_at hl 5 rfl) ?_
      refine lv_if_eq (tgt := 47) hx hb dX11_areTrials_12 (by decide) (fun c_12 => ?_) (fun c_12 => ?_)
      · refine lv_iconst (v := 0) hx hb dX11_areTrials_47 (by decide) ?_
        refine lv_istore (lv' := [(6, .int 0), (0, .ref mo), (1, .int p0), (2, .int fr), (3, .int to), (4, .int st), (5, .int ok)]) hx hb dX11_areTrials_48 hl (by decide) rfl (fun ls hl => ?_)
        refine lv_iload hx hb dX11_areTrials_50 (lv_at hl 0 rfl) ?_
        refine lv_if_eq (tgt := 69) hx hb dX11_areTrials_52 (by decide) (fun c_52 => ?_) (fun c_52 => ?_)
        · refine lv_iconst (v := 2) hx hb dX11_areTrials_69 (by decide) ?_
          exact hk_iret X hr hlk hQ hS (Nat.le_of_ble_eq_true rfl) (Nat.le_of_ble_eq_true rfl) dX11_areTrials_70 (⟨by unfold sp_tr; rw [if_pos c_2, if_pos c_12], cn 34, μ 35, μ 36, by rw [va_same, scr_id]; exact hM, fun g => absurd g (by unfold sp_tr; rw [if_pos c_2, if_pos c_12]; decide)⟩)
        · exact absurd (by decide) c_52
      · refine lv_iload_n hx hb dX11_areTrials_15 rfl (lv_at hl 2 rfl) ?_
        refine hk_callS 1 (As := [.int fr]) (rest := []) X K hAE hS hl.1 (c_X11_isPeriod E l H0 (a := fr)) (fun _ h => h.elim) gX11_areTrials_X11_isPeriod rfl hd_X11_isPeriod rfl ⟨⟨(Nat.le_of_ble_eq_true rfl), (Nat.le_of_ble_eq_true rfl)⟩, (Nat.le_of_ble_eq_true rfl), (Nat.le_of_ble_eq_true rfl)⟩ rfl (Nat.le_of_ble_eq_true rfl) dX11_areTrials_16 (fun v9 H2 locsH2 hp hS hzH2 hkH2 => ?_)
        obtain ⟨hv, hh⟩ := hp
        subst hh
        rcases hv with ⟨hv, c_16⟩ | ⟨hv, c_16⟩
        · subst hv
          refine lv_if_eq (tgt := 47) hx hb dX11_areTrials_19 (by decide) (fun c_19 => ?_) (fun c_19 => ?_)
          · exact absurd c_19 (by decide)
          · refine lv_iload_n hx hb dX11_areTrials_22 rfl (lv_at hl 3 rfl) ?_
            refine lv_iload_n hx hb dX11_areTrials_23 rfl (lv_at hl 2 rfl) ?_
            refine lv_ldc hx hb hown (hts (.constant RX11 121 (1000000)) (by decide +kernel)) dX11_areTrials_24 ?_
            refine hk_callS 3 (As := [.int to, .int fr, .int 1000000]) (rest := []) X K hAE hS hl.1 (c_X11_in E l H0 (a := to) (lo := fr) (hi := 1000000)) (fun _ h => h.elim) gX11_areTrials_X11_in rfl hd_X11_in rfl ⟨⟨(Nat.le_of_ble_eq_true rfl), (Nat.le_of_ble_eq_true rfl)⟩, (Nat.le_of_ble_eq_true rfl), (Nat.le_of_ble_eq_true rfl)⟩ rfl (Nat.le_of_ble_eq_true rfl) dX11_areTrials_26 (fun v9 H3 locsH3 hp hS hzH3 hkH3 => ?_)
            obtain ⟨hv, hh⟩ := hp
            subst hh
            rcases hv with ⟨hv, c_26⟩ | ⟨hv, c_26⟩
            · subst hv
              refine lv_if_eq (tgt := 47) hx hb dX11_areTrials_29 (by decide) (fun c_29 => ?_) (fun c_29 => ?_)
              · exact absurd c_29 (by decide)
              · refine lv_iload hx hb dX11_areTrials_32 (lv_at hl 4 rfl) ?_
                refine lv_iconst (v := 1) hx hb dX11_areTrials_34 (by decide) ?_
                refine lv_ldc hx hb hown (hts (.constant RX11 121 (1000000)) (by decide +kernel)) dX11_areTrials_35 ?_
                refine hk_callS 3 (As := [.int st, .int 1, .int 1000000]) (rest := []) X K hAE hS hl.1 (c_X11_in E l H0 (a := st) (lo := 1) (hi := 1000000)) (fun _ h => h.elim) gX11_areTrials_X11_in rfl hd_X11_in rfl ⟨⟨(Nat.le_of_ble_eq_true rfl), (Nat.le_of_ble_eq_true rfl)⟩, (Nat.le_of_ble_eq_true rfl), (Nat.le_of_ble_eq_true rfl)⟩ rfl (Nat.le_of_ble_eq_true rfl) dX11_areTrials_37 (fun v9 H4 locsH4 hp hS hzH4 hkH4 => ?_)
                obtain ⟨hv, hh⟩ := hp
                subst hh
                rcases hv with ⟨hv, c_37⟩ | ⟨hv, c_37⟩
                · subst hv
                  refine lv_if_eq (tgt := 47) hx hb dX11_areTrials_40 (by decide) (fun c_40 => ?_) (fun c_40 => ?_)
                  · exact absurd c_40 (by decide)
                  · refine lv_iconst (v := 1) hx hb dX11_areTrials_43 (by decide) ?_
                    refine lv_goto (tgt := 48) hx hb dX11_areTrials_44 (by decide) ?_
                    refine lv_istore (lv' := [(6, .int 1), (0, .ref mo), (1, .int p0), (2, .int fr), (3, .int to), (4, .int st), (5, .int ok)]) hx hb dX11_areTrials_48 hl (by decide) rfl (fun ls hl => ?_)
                    refine lv_iload hx hb dX11_areTrials_50 (lv_at hl 0 rfl) ?_
                    refine lv_if_eq (tgt := 69) hx hb dX11_areTrials_52 (by decide) (fun c_52 => ?_) (fun c_52 => ?_)
                    · exact absurd c_52 (by decide)
                    · refine lv_iload_n hx hb dX11_areTrials_55 rfl (lv_at hl 4 rfl) ?_
                      refine lv_iload_n hx hb dX11_areTrials_56 rfl (lv_at hl 3 rfl) ?_
                      refine lv_isub hx hb dX11_areTrials_57 ?_
                      refine lv_iload hx hb dX11_areTrials_58 (lv_at hl 5 rfl) ?_
                      refine lv_idiv hx hb dX11_areTrials_60 (fun h => by have h9 := c_37.1; rw [h] at h9; exact absurd h9 (by decide)) ?_
                      refine lv_iconst (v := 1) hx hb dX11_areTrials_61 (by decide) ?_
                      refine lv_iadd hx hb dX11_areTrials_62 ?_
                      refine lv_sipush (v := 200) hx hb dX11_areTrials_63 (by decide) ?_
                      refine lv_icmp_le (tgt := 71) hx hb dX11_areTrials_66 (by decide) (fun c_66 => ?_) (fun c_66 => ?_)
                      · refine lv_aload_n hx hb dX11_areTrials_71 rfl (lv_at hl 1 rfl) ?_
                        refine lv_iload_n hx hb dX11_areTrials_72 rfl (lv_at hl 2 rfl) ?_
                        refine hk_callV 1 (As := [.int p0]) (rest := []) X K hAE hS hl.1 hM.1 rfl (c_X11_gathersOf E l H0 hM hZ hI (si := p0) c_2) (fun _ h => h) gX11_areTrials_X11_gathersOf rfl ⟨rfl, hd_X11_gathersOf⟩ rfl ⟨⟨(Nat.le_of_ble_eq_true rfl), (Nat.le_of_ble_eq_true rfl)⟩, (Nat.le_of_ble_eq_true rfl), (Nat.le_of_ble_eq_true rfl)⟩ rfl (Nat.le_of_ble_eq_true rfl) dX11_areTrials_73 (fun v9 H5 locsH5 hp hS hzH5 hkH5 => ?_)
                        obtain ⟨hv, fL, fT, hg, hM⟩ := hp
                        subst hv
                        refine lv_aload_n hx hb dX11_areTrials_76 rfl (lv_at hl 1 rfl) ?_
                        refine hk_get (ref := "LightcurveHouseModel") (v := .int (nI (sp_sel μ (μ 3 (ix p0)) (-1) (cn 12)).length)) X K hM.1 rfl iX11_areTrials_X11 34 (by decide) (by decide +kernel) (fun _ h => h) rfl dX11_areTrials_77 ?_
                        refine lv_iconst (v := 3) hx hb dX11_areTrials_80 (by decide) ?_
                        refine lv_icmp_ge (tgt := 88) hx hb dX11_areTrials_81 (by decide) (fun c_81 => ?_) (fun c_81 => ?_)
                        · refine lv_iconst (v := 0) hx hb dX11_areTrials_88 (by decide) ?_
                          exact hk_iret X hr hlk hQ hS (Nat.le_of_ble_eq_true rfl) (Nat.le_of_ble_eq_true rfl) dX11_areTrials_89 (⟨by unfold sp_tr; rw [if_pos c_2, if_neg c_12, if_pos c_16, if_pos c_26, if_pos c_37, if_pos c_66, if_pos c_81], _, fL, fT, hM, fun _ => ⟨rfl, hg⟩⟩)
                        · refine lv_iconst (v := 3) hx hb dX11_areTrials_84 (by decide) ?_
                          refine lv_goto (tgt := 89) hx hb dX11_areTrials_85 (by decide) ?_
                          exact hk_iret X hr hlk hQ hS (Nat.le_of_ble_eq_true rfl) (Nat.le_of_ble_eq_true rfl) dX11_areTrials_89 (⟨by unfold sp_tr; rw [if_pos c_2, if_neg c_12, if_pos c_16, if_pos c_26, if_pos c_37, if_pos c_66, if_neg c_81], _, fL, fT, hM, fun _ => ⟨rfl, hg⟩⟩)
                      · refine lv_iconst (v := 2) hx hb dX11_areTrials_69 (by decide) ?_
                        exact hk_iret X hr hlk hQ hS (Nat.le_of_ble_eq_true rfl) (Nat.le_of_ble_eq_true rfl) dX11_areTrials_70 (⟨by unfold sp_tr; rw [if_pos c_2, if_neg c_12, if_pos c_16, if_pos c_26, if_pos c_37, if_neg c_66], cn 34, μ 35, μ 36, by rw [va_same, scr_id]; exact hM, fun g => absurd g (by unfold sp_tr; rw [if_pos c_2, if_neg c_12, if_pos c_16, if_pos c_26, if_pos c_37, if_neg c_66]; decide)⟩)
                · subst hv
                  refine lv_if_eq (tgt := 47) hx hb dX11_areTrials_40 (by decide) (fun c_40 => ?_) (fun c_40 => ?_)
                  · refine lv_iconst (v := 0) hx hb dX11_areTrials_47 (by decide) ?_
                    refine lv_istore (lv' := [(6, .int 0), (0, .ref mo), (1, .int p0), (2, .int fr), (3, .int to), (4, .int st), (5, .int ok)]) hx hb dX11_areTrials_48 hl (by decide) rfl (fun ls hl => ?_)
                    refine lv_iload hx hb dX11_areTrials_50 (lv_at hl 0 rfl) ?_
                    refine lv_if_eq (tgt := 69) hx hb dX11_areTrials_52 (by decide) (fun c_52 => ?_) (fun c_52 => ?_)
                    · refine lv_iconst (v := 2) hx hb dX11_areTrials_69 (by decide) ?_
                      exact hk_iret X hr hlk hQ hS (Nat.le_of_ble_eq_true rfl) (Nat.le_of_ble_eq_true rfl) dX11_areTrials_70 (⟨by unfold sp_tr; rw [if_pos c_2, if_neg c_12, if_pos c_16, if_pos c_26, if_neg c_37], cn 34, μ 35, μ 36, by rw [va_same, scr_id]; exact hM, fun g => absurd g (by unfold sp_tr; rw [if_pos c_2, if_neg c_12, if_pos c_16, if_pos c_26, if_neg c_37]; decide)⟩)
                    · exact absurd (by decide) c_52
                  · exact absurd (by decide) c_40
            · subst hv
              refine lv_if_eq (tgt := 47) hx hb dX11_areTrials_29 (by decide) (fun c_29 => ?_) (fun c_29 => ?_)
              · refine lv_iconst (v := 0) hx hb dX11_areTrials_47 (by decide) ?_
                refine lv_istore (lv' := [(6, .int 0), (0, .ref mo), (1, .int p0), (2, .int fr), (3, .int to), (4, .int st), (5, .int ok)]) hx hb dX11_areTrials_48 hl (by decide) rfl (fun ls hl => ?_)
                refine lv_iload hx hb dX11_areTrials_50 (lv_at hl 0 rfl) ?_
                refine lv_if_eq (tgt := 69) hx hb dX11_areTrials_52 (by decide) (fun c_52 => ?_) (fun c_52 => ?_)
                · refine lv_iconst (v := 2) hx hb dX11_areTrials_69 (by decide) ?_
                  exact hk_iret X hr hlk hQ hS (Nat.le_of_ble_eq_true rfl) (Nat.le_of_ble_eq_true rfl) dX11_areTrials_70 (⟨by unfold sp_tr; rw [if_pos c_2, if_neg c_12, if_pos c_16, if_neg c_26], cn 34, μ 35, μ 36, by rw [va_same, scr_id]; exact hM, fun g => absurd g (by unfold sp_tr; rw [if_pos c_2, if_neg c_12, if_pos c_16, if_neg c_26]; decide)⟩)
                · exact absurd (by decide) c_52
              · exact absurd (by decide) c_29
        · subst hv
          refine lv_if_eq (tgt := 47) hx hb dX11_areTrials_19 (by decide) (fun c_19 => ?_) (fun c_19 => ?_)
          · refine lv_iconst (v := 0) hx hb dX11_areTrials_47 (by decide) ?_
            refine lv_istore (lv' := [(6, .int 0), (0, .ref mo), (1, .int p0), (2, .int fr), (3, .int to), (4, .int st), (5, .int ok)]) hx hb dX11_areTrials_48 hl (by decide) rfl (fun ls hl => ?_)
            refine lv_iload hx hb dX11_areTrials_50 (lv_at hl 0 rfl) ?_
            refine lv_if_eq (tgt := 69) hx hb dX11_areTrials_52 (by decide) (fun c_52 => ?_) (fun c_52 => ?_)
            · refine lv_iconst (v := 2) hx hb dX11_areTrials_69 (by decide) ?_
              exact hk_iret X hr hlk hQ hS (Nat.le_of_ble_eq_true rfl) (Nat.le_of_ble_eq_true rfl) dX11_areTrials_70 (⟨by unfold sp_tr; rw [if_pos c_2, if_neg c_12, if_neg c_16], cn 34, μ 35, μ 36, by rw [va_same, scr_id]; exact hM, fun g => absurd g (by unfold sp_tr; rw [if_pos c_2, if_neg c_12, if_neg c_16]; decide)⟩)
            · exact absurd (by decide) c_52
          · exact absurd (by decide) c_19
    · exact absurd c_5 (by decide)
  · subst hv
    refine lv_if_ne (tgt := 10) hx hb dX11_areTrials_5 (by decide) (fun c_5 => ?_) (fun c_5 => ?_)
    · exact absurd rfl c_5
    · refine lv_iconst (v := 1) hx hb dX11_areTrials_8 (by decide) ?_
      exact hk_iret X hr hlk hQ hS (Nat.le_of_ble_eq_true rfl) (Nat.le_of_ble_eq_true rfl) dX11_areTrials_9 (⟨by unfold sp_tr; rw [if_neg c_2], cn 34, μ 35, μ 36, by rw [va_same, scr_id]; exact hM, fun g => absurd g (by unfold sp_tr; rw [if_neg c_2]; decide)⟩)

