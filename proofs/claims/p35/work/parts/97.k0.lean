set_option maxHeartbeats 4000000 in
set_option maxRecDepth 100000 in
theorem k_2020 {p : Program} {l : Launch} {e : Env} {s : State} {m : MethodId} {below : List Frame} {meth : Method} {c : Code} {b L : Nat} {xs : Nat → Int32} {E : hk_E} {Z : Nat → Prop} {ho ts b4 : Nat} {li : Nat → Nat} {rr : Nat → Nat → Nat} {la : Nat → Nat} (G0 : lw_G p l s m meth c b L xs E Z la b4) {H : Heap} {locs : List Loc} {cells slots tn zn st9 : Nat} {kd : Int32} (hJ0 : lw_J E Z ho ts li rr la b4 s (fun S => 2 ≤ S.1 1 ∧ st9 < S.1 1) H locs) (hz31 : zn < 2 ^ 31) (ht2 : 2 ≤ tn) (hce : cells + 40 ≤ 664990) (hsl : slots + 2000 ≤ 7106859) {ls : Array Slot} (hl : lv_has ls 26 [(20, .int (nI st9)), (19, .int (nI zn)), (18, .int kd), (16, .int (nI tn)), (15, .int 1), (2, .ref (la 0)), (3, .ref (la 1)), (4, .ref (la 2)), (5, .ref (la 3)), (6, .ref (la 4)), (7, .ref (la 5)), (8, .ref (la 6)), (9, .ref (la 7)), (10, .ref (la 8)), (11, .ref (la 9)), (12, .ref (la 10)), (13, .ref (la 11)), (14, .ref (la 12)), (1, .ref ho), (0, .ref b)])
  (J2061 : ∀ (H1 : Heap) (locs1 : List Loc), lw_J E Z ho ts li rr la b4 s (fun S => tI (tn + 1) (S.1 1)) H1 locs1 → ∀ (ls : Array Slot), lv_has ls 26 [(19, .int (nI zn)), (16, .int (nI tn)), (15, .int 1), (2, .ref (la 0)), (3, .ref (la 1)), (4, .ref (la 2)), (5, .ref (la 3)), (6, .ref (la 4)), (7, .ref (la 5)), (8, .ref (la 6)), (9, .ref (la 7)), (10, .ref (la 8)), (11, .ref (la 9)), (12, .ref (la 10)), (13, .ref (la 11)), (14, .ref (la 12)), (1, .ref ho), (0, .ref b)] → W p l e room_1 s m #[Value.ref b] below meth c H1 locs1 (cells + 40) (slots + 2000) (lw_Z below #[Value.ref b] s) (F0 m 2061 ls [])) : W p l e room_1 s m #[Value.ref b] below meth c H locs cells slots (lw_Z below #[Value.ref b] s) (F0 m 2020 ls []) := by
  obtain ⟨hl9, hLL, C0, X, K, hE, hZn0, hlz, hla, hlA⟩ := id G0
  obtain ⟨G, R, V, ⟨cn, sc, μ⟩, hI, hV, hW, hL, hS, hb4, ⟨h2, hst⟩⟩ := hJ0
  obtain ⟨hx, hb, hr, hml, hown, hts, hXs, hbl, hlocks, -⟩ := id C0
  have hAE : ∀ q, hk_A E q → hk_A E q := fun _ h => h
  have hZA : ∀ q, Z q → hk_A E q := hW.2.2.2.2.2.2.2.2.2.2.2.2
  have hZn : ∀ q, H.size ≤ q → Z q := fun q h => hZn0 q (Nat.le_trans hb4 h)
  have hn1 : cn 1 ≤ 4 := hV.n1
  have hn8 : cn 8 ≤ 3 := hV.n8
  have hn12 : cn 12 ≤ 24 := hV.n12
  have hn22 : cn 22 ≤ 4 := hV.n22
  have hn29 : cn 29 ≤ 8 := hV.n29
  have h2 : 2 ≤ cn 1 := h2
  have hst : st9 < cn 1 := hst
  refine lv_aload_n hx hb dL_law_2020 rfl (lv_at hl 5 rfl) ?_
  refine lv_aload_n hx hb dL_law_2021 rfl (lv_at hl 6 rfl) ?_
  refine lv_aload hx hb dL_law_2022 (lv_at hl 7 rfl) ?_
  refine lv_aload hx hb dL_law_2024 (lv_at hl 8 rfl) ?_
  refine lv_aload hx hb dL_law_2026 (lv_at hl 9 rfl) ?_
  refine lv_aload hx hb dL_law_2028 (lv_at hl 10 rfl) ?_
  refine lv_aload hx hb dL_law_2030 (lv_at hl 11 rfl) ?_
  refine lv_aload hx hb dL_law_2032 (lv_at hl 12 rfl) ?_
  refine lv_aload hx hb dL_law_2034 (lv_at hl 15 rfl) ?_
  refine lv_aload hx hb dL_law_2036 (lv_at hl 16 rfl) ?_
  refine lv_aload hx hb dL_law_2038 (lv_at hl 17 rfl) ?_
  refine hk_callS 11 (As := [.ref (la 0), .ref (la 1), .ref (la 2), .ref (la 3), .ref (la 4), .ref (la 5), .ref (la 6), .ref (la 7), .ref (la 10), .ref (la 11), .ref (la 12)]) (rest := []) X K hAE hS hl.1 (c_L_lays E l H hL hV hI hla hlA) (fun q h => h.elim (fun h => by rw [h]; exact hlA 11 (by decide)) (fun h => by rw [h]; exact hlA 12 (by decide))) gL_law_L_lays rfl hd_L_lays rfl ⟨⟨(Nat.le_of_ble_eq_true rfl), (Nat.le_of_ble_eq_true rfl)⟩, (by show cells + 0 ≤ 664990; omega), (by show slots + 0 ≤ 7106859; omega)⟩ rfl (Nat.le_of_ble_eq_true rfl) dL_law_2040 (fun v9 H1 locsH1 hp hS hzH1 hkH1 => ?_)
  obtain ⟨hv, hzz, V1, hL1, hV1, hX⟩ := hp
  subst hv
  have hW := hW.kept (fun q h1 h2 => hkH1 q h1 (fun g => g.elim (fun g => h2.elim (fun z => hlz 11 (by decide) (by rw [← g]; exact z)) (fun z => z (by rw [g]; exact hlA 11 (by decide)))) (fun g => h2.elim (fun z => hlz 12 (by decide) (by rw [← g]; exact z)) (fun z => z (by rw [g]; exact hlA 12 (by decide))))))
  have hV := hV.xy hV1
  have hL := hL1
  have hb4 : b4 ≤ H1.size := by omega
  have hZn := fun (q : Nat) (h : H1.size ≤ q) => hZn0 q (Nat.le_trans hb4 h)
  refine lv_aload_n hx hb dL_law_2043 rfl (lv_at hl 18 rfl) ?_
  refine lv_aload hx hb dL_law_2044 (lv_at hl 8 rfl) ?_
  refine lv_aload hx hb dL_law_2046 (lv_at hl 10 rfl) ?_
  refine lv_aload hx hb dL_law_2048 (lv_at hl 15 rfl) ?_
  refine lv_aload hx hb dL_law_2050 (lv_at hl 16 rfl) ?_
  refine lv_aload hx hb dL_law_2052 (lv_at hl 17 rfl) ?_
  refine lv_iload hx hb dL_law_2054 (lv_at hl 1 rfl) ?_
  refine hk_callSx 7 (As := [.ref ho, .ref (la 3), .ref (la 5), .ref (la 10), .ref (la 11), .ref (la 12), .int (nI zn)]) (rest := []) X K hAE hS hl.1 (c_L_areTrials E l hl9 H1 hW hL hV hI hX hZn hlz (by omega) (zn := zn) (by omega)) hZA gL_law_L_areTrials rfl hd_L_areTrials rfl ⟨⟨(Nat.le_of_ble_eq_true rfl), (Nat.le_of_ble_eq_true rfl)⟩, (by show cells + 40 ≤ 664990; omega), (by show slots + 2000 ≤ 7106859; omega)⟩ rfl (Nat.le_of_ble_eq_true rfl) dL_law_2056 (fun x9 ce9 q9 H2 locsH2 hp hS hzH2 hkH2 hce hcv hcl => False.elim hp) (fun v9 H2 locsH2 hp hS hzH2 hkH2 => ?_)
  obtain ⟨hv, G, R, hW⟩ := hp
  subst hv
  have hL := hL.kept (fun k hk => hkH2 (la k) (hL.lt hk) (hlz k hk))
  have hb4 := Nat.le_trans hb4 hzH2
  have hZn := fun (q : Nat) (h : H2.size ≤ q) => hZn0 q (Nat.le_trans hb4 h)
  refine lv_istore (lv' := [(15, .int 1), (20, .int (nI st9)), (19, .int (nI zn)), (18, .int kd), (16, .int (nI tn)), (2, .ref (la 0)), (3, .ref (la 1)), (4, .ref (la 2)), (5, .ref (la 3)), (6, .ref (la 4)), (7, .ref (la 5)), (8, .ref (la 6)), (9, .ref (la 7)), (10, .ref (la 8)), (11, .ref (la 9)), (12, .ref (la 10)), (13, .ref (la 11)), (14, .ref (la 12)), (1, .ref ho), (0, .ref b)]) hx hb dL_law_2059 hl (by decide) rfl (fun ls hl => ?_)
  refine W.widen (k := cells + 40) (n := slots + 2000) (by show cells + 40 ≤ _; omega) (by show slots + 2000 ≤ _; omega) ?_
  have hV9 := hV
  exact J2061 H2 _ ⟨G, R, _, _, hI, hV9, hW, LW.mk13 hL.c0 hL.c1 hL.c2 hL.c3 hL.c4 hL.c5 hL.c6 hL.c7 hL.c8 hL.c9 hL.c10 hL.c11 hL.c12, hS, hb4, ⟨fun h => absurd h (by omega), fun _ => h2⟩⟩ _ (lv_sub hl [2, 4, 0, 5, 6, 7, 8, 9, 10, 11, 12, 13, 14, 15, 16, 17, 18, 19] rfl)

set_option maxHeartbeats 4000000 in
set_option maxRecDepth 100000 in
theorem k_1968 {p : Program} {l : Launch} {e : Env} {s : State} {m : MethodId} {below : List Frame} {meth : Method} {c : Code} {b L : Nat} {xs : Nat → Int32} {E : hk_E} {Z : Nat → Prop} {ho ts b4 : Nat} {li : Nat → Nat} {rr : Nat → Nat → Nat} {la : Nat → Nat} (G0 : lw_G p l s m meth c b L xs E Z la b4) {H : Heap} {locs : List Loc} {cells slots tn zn st9 : Nat} {kd : Int32} (hJ0 : lw_J E Z ho ts li rr la b4 s (fun S => 2 ≤ S.1 1 ∧ st9 < S.1 1) H locs) (hz31 : zn < 2 ^ 31) (ht2 : 2 ≤ tn) (hce : cells + 40 ≤ 664990) (hsl : slots + 2000 ≤ 7106859) {ls : Array Slot} (hl : lv_has ls 26 [(20, .int (nI st9)), (19, .int (nI zn)), (18, .int kd), (16, .int (nI tn)), (15, .int 1), (2, .ref (la 0)), (3, .ref (la 1)), (4, .ref (la 2)), (5, .ref (la 3)), (6, .ref (la 4)), (7, .ref (la 5)), (8, .ref (la 6)), (9, .ref (la 7)), (10, .ref (la 8)), (11, .ref (la 9)), (12, .ref (la 10)), (13, .ref (la 11)), (14, .ref (la 12)), (1, .ref ho), (0, .ref b)])
  (J2061 : ∀ (H1 : Heap) (locs1 : List Loc), lw_J E Z ho ts li rr la b4 s (fun S => tI (tn + 1) (S.1 1)) H1 locs1 → ∀ (ls : Array Slot), lv_has ls 26 [(19, .int (nI zn)), (16, .int (nI tn)), (15, .int 1), (2, .ref (la 0)), (3, .ref (la 1)), (4, .ref (la 2)), (5, .ref (la 3)), (6, .ref (la 4)), (7, .ref (la 5)), (8, .ref (la 6)), (9, .ref (la 7)), (10, .ref (la 8)), (11, .ref (la 9)), (12, .ref (la 10)), (13, .ref (la 11)), (14, .ref (la 12)), (1, .ref ho), (0, .ref b)] → W p l e room_1 s m #[Value.ref b] below meth c H1 locs1 (cells + 40) (slots + 2000) (lw_Z below #[Value.ref b] s) (F0 m 2061 ls [])) : W p l e room_1 s m #[Value.ref b] below meth c H locs cells slots (lw_Z below #[Value.ref b] s) (F0 m 1968 ls []) := by
  obtain ⟨hl9, hLL, C0, X, K, hE, hZn0, hlz, hla, hlA⟩ := id G0
  obtain ⟨G, R, V, ⟨cn, sc, μ⟩, hI, hV, hW, hL, hS, hb4, ⟨h2, hst⟩⟩ := hJ0
  obtain ⟨hx, hb, hr, hml, hown, hts, hXs, hbl, hlocks, -⟩ := id C0
  have hAE : ∀ q, hk_A E q → hk_A E q := fun _ h => h
  have hZA : ∀ q, Z q → hk_A E q := hW.2.2.2.2.2.2.2.2.2.2.2.2
  have hZn : ∀ q, H.size ≤ q → Z q := fun q h => hZn0 q (Nat.le_trans hb4 h)
  have hn1 : cn 1 ≤ 4 := hV.n1
  have hn8 : cn 8 ≤ 3 := hV.n8
  have hn12 : cn 12 ≤ 24 := hV.n12
  have hn22 : cn 22 ≤ 4 := hV.n22
  have hn29 : cn 29 ≤ 8 := hV.n29
  have h2 : 2 ≤ cn 1 := h2
  have hst : st9 < cn 1 := hst
  refine lv_iload hx hb dL_law_1968 (lv_at hl 2 rfl) ?_
  refine lv_bipush (v := 25) hx hb dL_law_1970 (by decide) ?_
  refine lv_icmp_ne (tgt := 2020) hx hb dL_law_1972 (by decide) (fun c_1972 => ?_) (fun c_1972 => ?_)
  · exact k_2020 G0 ⟨G, R, V, (cn, sc, μ), hI, hV, hW, hL, hS, hb4, ⟨h2, hst⟩⟩ hz31 ht2 hce hsl hl J2061
  · refine lv_aload_n hx hb dL_law_1975 rfl (lv_at hl 18 rfl) ?_
    refine lv_iload hx hb dL_law_1976 (lv_at hl 1 rfl) ?_
    refine lv_sipush (v := 2001) hx hb dL_law_1978 (by decide) ?_
    refine lv_irem hx hb dL_law_1981 (by decide) ?_
    refine lv_topi (fun z_1 ez_1 => ?_)
    have ez_1 : z_1 = nI (zn % 2001) := ez_1.trans (pk_rem (a := zn) (d := 2001) (by omega) (by omega) (by omega))
    subst ez_1
    refine lv_sipush (v := 1000) hx hb dL_law_1982 (by decide) ?_
    refine lv_isub hx hb dL_law_1985 ?_
    refine lv_topi (fun v9 ev9 => ?_)
    have hcd0 : cd_zero v9 (cn, sc, μ) = 0 := zero_c (by rw [ev9]; exact sub_rng (c := 1000) (by omega) (by omega) (by show (-1000 : Int) ≤ _; omega) (by show _ ≤ (1000 : Int); omega))
    refine hk_callVx 1 (As := [.int v9]) (rest := []) X K hAE hS hl.1 (HW.o hW) rfl (c_X10_zero E l hl9 H hW hI hZn (p0 := v9)) hZA gL_law_X10_zero rfl ⟨rfl, hd_X10_zero⟩ rfl ⟨⟨(Nat.le_of_ble_eq_true rfl), (Nat.le_of_ble_eq_true rfl)⟩, (by show cells + 8 ≤ 664990; omega), (by show slots + 400 ≤ 7106859; omega)⟩ rfl (Nat.le_of_ble_eq_true rfl) dL_law_1986 (fun x9 ce9 q9 H9 locs9 hp hS hz9 hk9 hce hcv hcl => by
        obtain ⟨hcs, -⟩ := hp
        rw [hcd0] at hcs
        rcases hcs with ⟨h, -⟩ | ⟨h, -⟩ | ⟨h, -⟩ <;> exact absurd h (by decide)
      ) (fun v9 H2 locsH2 hp hS hzH2 hkH2 => ?_)
    obtain ⟨-, hv, G, R, hW⟩ := hp
    subst hv
    have hL := hL.kept (fun k hk => hkH2 (la k) (hL.lt hk) (hlz k hk))
    have hb4 := Nat.le_trans hb4 hzH2
    have hZn := fun (q : Nat) (h : H2.size ≤ q) => hZn0 q (Nat.le_trans hb4 h)
    refine lv_aload hx hb dL_law_1989 (lv_at hl 15 rfl) ?_
    refine lv_iconst (v := 5) hx hb dL_law_1991 (by decide) ?_
    refine hk_ild (f := (V 10)) X K hL.c10 (show vp_in (nI 5) 6 from vp_in_nI (by decide) (by decide)) dL_law_1992 ?_
    rw [show (V 10) (5 : Int32).toNatClampNeg = sc 32 from hV.g5]
    refine lv_icmp_ne (tgt := 2000) hx hb dL_law_1993 (by decide) (fun c_1993 => ?_) (fun c_1993 => ?_)
    · exact (c_1993 (rfl)).elim
    · refine lv_iconst (v := 1) hx hb dL_law_1996 (by decide) ?_
      refine lv_goto (tgt := 2001) hx hb dL_law_1997 (by decide) ?_
      refine lv_istore (lv' := [(15, .int 1), (20, .int (nI st9)), (19, .int (nI zn)), (18, .int kd), (16, .int (nI tn)), (2, .ref (la 0)), (3, .ref (la 1)), (4, .ref (la 2)), (5, .ref (la 3)), (6, .ref (la 4)), (7, .ref (la 5)), (8, .ref (la 6)), (9, .ref (la 7)), (10, .ref (la 8)), (11, .ref (la 9)), (12, .ref (la 10)), (13, .ref (la 11)), (14, .ref (la 12)), (1, .ref ho), (0, .ref b)]) hx hb dL_law_2001 hl (by decide) rfl (fun ls hl => ?_)
      refine lv_aload hx hb dL_law_2003 (lv_at hl 15 rfl) ?_
      refine lv_iconst (v := 5) hx hb dL_law_2005 (by decide) ?_
      refine lv_iload hx hb dL_law_2006 (lv_at hl 2 rfl) ?_
      refine lv_sipush (v := 2001) hx hb dL_law_2008 (by decide) ?_
      refine lv_irem hx hb dL_law_2011 (by decide) ?_
      refine lv_topi (fun z_3 ez_3 => ?_)
      have ez_3 : z_3 = nI (zn % 2001) := ez_3.trans (pk_rem (a := zn) (d := 2001) (by omega) (by omega) (by omega))
      subst ez_3
      refine lv_sipush (v := 1000) hx hb dL_law_2012 (by decide) ?_
      refine lv_isub hx hb dL_law_2015 ?_
      rw [← ev9]
      refine hk_ist (f := (V 10)) X K hL.c10 hS (hlA 10 (by decide)) (show vp_in (nI 5) 6 from vp_in_nI (by decide) (by decide)) dL_law_2016 (fun H4 locsH4 hIH4 hzH4 hqH4 hS => ?_)
      rw [show (5 : Int32).toNatClampNeg = 5 from rfl] at hIH4
      have hL := hL.set hla (j := 10) (by decide) hIH4 hqH4
      have hW := hW.kept (fun q h1 h2 => hqH4 q (fun g => h2.elim (fun h => hlz 10 (by decide) (by rw [← g]; exact h)) (fun h => h (by rw [g]; exact hlA 10 (by decide)))))
      have hb4 : b4 ≤ H4.size := by omega
      have hZn := fun (q : Nat) (h : H4.size ≤ q) => hZn0 q (Nat.le_trans hb4 h)
      refine lv_goto (tgt := 2061) hx hb dL_law_2017 (by decide) ?_
      refine W.widen (k := cells + 40) (n := slots + 2000) (by show cells + 8 ≤ _; omega) (by show slots + 400 ≤ _; omega) ?_
      have hV9 := lv_zero hV (x := v9)
      exact J2061 H4 _ ⟨G, R, _, _, invF_zero hI, hV9, hW, LW.mk13 hL.c0 hL.c1 hL.c2 hL.c3 hL.c4 hL.c5 hL.c6 hL.c7 hL.c8 hL.c9 hL.c10 hL.c11 hL.c12, hS, hb4, ⟨fun h => absurd h (by omega), fun _ => h2⟩⟩ _ (lv_sub hl [2, 4, 0, 5, 6, 7, 8, 9, 10, 11, 12, 13, 14, 15, 16, 17, 18, 19] rfl)

set_option maxHeartbeats 4000000 in
set_option maxRecDepth 100000 in
theorem k_1908 {p : Program} {l : Launch} {e : Env} {s : State} {m : MethodId} {below : List Frame} {meth : Method} {c : Code} {b L : Nat} {xs : Nat → Int32} {E : hk_E} {Z : Nat → Prop} {ho ts b4 : Nat} {li : Nat → Nat} {rr : Nat → Nat → Nat} {la : Nat → Nat} (G0 : lw_G p l s m meth c b L xs E Z la b4) {H : Heap} {locs : List Loc} {cells slots tn zn st9 : Nat} {kd : Int32} (hJ0 : lw_J E Z ho ts li rr la b4 s (fun S => 2 ≤ S.1 1 ∧ st9 < S.1 1) H locs) (hz31 : zn < 2 ^ 31) (ht2 : 2 ≤ tn) (hce : cells + 40 ≤ 664990) (hsl : slots + 2000 ≤ 7106859) {ls : Array Slot} (hl : lv_has ls 26 [(20, .int (nI st9)), (19, .int (nI zn)), (18, .int kd), (16, .int (nI tn)), (15, .int 1), (2, .ref (la 0)), (3, .ref (la 1)), (4, .ref (la 2)), (5, .ref (la 3)), (6, .ref (la 4)), (7, .ref (la 5)), (8, .ref (la 6)), (9, .ref (la 7)), (10, .ref (la 8)), (11, .ref (la 9)), (12, .ref (la 10)), (13, .ref (la 11)), (14, .ref (la 12)), (1, .ref ho), (0, .ref b)])
  (J2061 : ∀ (H1 : Heap) (locs1 : List Loc), lw_J E Z ho ts li rr la b4 s (fun S => tI (tn + 1) (S.1 1)) H1 locs1 → ∀ (ls : Array Slot), lv_has ls 26 [(19, .int (nI zn)), (16, .int (nI tn)), (15, .int 1), (2, .ref (la 0)), (3, .ref (la 1)), (4, .ref (la 2)), (5, .ref (la 3)), (6, .ref (la 4)), (7, .ref (la 5)), (8, .ref (la 6)), (9, .ref (la 7)), (10, .ref (la 8)), (11, .ref (la 9)), (12, .ref (la 10)), (13, .ref (la 11)), (14, .ref (la 12)), (1, .ref ho), (0, .ref b)] → W p l e room_1 s m #[Value.ref b] below meth c H1 locs1 (cells + 40) (slots + 2000) (lw_Z below #[Value.ref b] s) (F0 m 2061 ls [])) : W p l e room_1 s m #[Value.ref b] below meth c H locs cells slots (lw_Z below #[Value.ref b] s) (F0 m 1908 ls []) := by
  obtain ⟨hl9, hLL, C0, X, K, hE, hZn0, hlz, hla, hlA⟩ := id G0
  obtain ⟨G, R, V, ⟨cn, sc, μ⟩, hI, hV, hW, hL, hS, hb4, ⟨h2, hst⟩⟩ := hJ0
  obtain ⟨hx, hb, hr, hml, hown, hts, hXs, hbl, hlocks, -⟩ := id C0
  have hAE : ∀ q, hk_A E q → hk_A E q := fun _ h => h
  have hZA : ∀ q, Z q → hk_A E q := hW.2.2.2.2.2.2.2.2.2.2.2.2
  have hZn : ∀ q, H.size ≤ q → Z q := fun q h => hZn0 q (Nat.le_trans hb4 h)
  have hn1 : cn 1 ≤ 4 := hV.n1
  have hn8 : cn 8 ≤ 3 := hV.n8
  have hn12 : cn 12 ≤ 24 := hV.n12
  have hn22 : cn 22 ≤ 4 := hV.n22
  have hn29 : cn 29 ≤ 8 := hV.n29
  have h2 : 2 ≤ cn 1 := h2
  have hst : st9 < cn 1 := hst
  refine lv_iload hx hb dL_law_1908 (lv_at hl 2 rfl) ?_
  refine lv_bipush (v := 24) hx hb dL_law_1910 (by decide) ?_
  refine lv_icmp_ne (tgt := 1968) hx hb dL_law_1912 (by decide) (fun c_1912 => ?_) (fun c_1912 => ?_)
  · exact k_1968 G0 ⟨G, R, V, (cn, sc, μ), hI, hV, hW, hL, hS, hb4, ⟨h2, hst⟩⟩ hz31 ht2 hce hsl hl J2061
  · refine lv_aload_n hx hb dL_law_1915 rfl (lv_at hl 18 rfl) ?_
    refine lv_iload hx hb dL_law_1916 (lv_at hl 0 rfl) ?_
    refine lv_iload hx hb dL_law_1918 (lv_at hl 1 rfl) ?_
    refine lv_iconst (v := 4) hx hb dL_law_1920 (by decide) ?_
    refine lv_idiv hx hb dL_law_1921 (by decide) ?_
    refine lv_topi (fun z_1 ez_1 => ?_)
    have ez_1 : z_1 = nI (zn / 4) := ez_1.trans (pk_div (a := zn) (d := 4) (by omega) (by omega) (by omega))
    subst ez_1
    refine lv_sipush (v := 501) hx hb dL_law_1922 (by decide) ?_
    refine lv_irem hx hb dL_law_1925 (by decide) ?_
    refine lv_topi (fun z_2 ez_2 => ?_)
    have ez_2 : z_2 = nI ((zn / 4) % 501) := ez_2.trans (pk_rem (a := (zn / 4)) (d := 501) (by omega) (by omega) (by omega))
    subst ez_2
    have hcd0 : cd_dust (nI st9) (nI ((zn / 4) % 501)) (cn, sc, μ) = 0 := dust_c hst hn1 (by omega)
    refine hk_callVx 2 (As := [.int (nI st9), .int (nI ((zn / 4) % 501))]) (rest := []) X K hAE hS hl.1 (HW.o hW) rfl (c_X10_dust E l hl9 H hW hI hZn (p0 := nI st9) (p1 := nI ((zn / 4) % 501))) hZA gL_law_X10_dust rfl ⟨rfl, hd_X10_dust⟩ rfl ⟨⟨(Nat.le_of_ble_eq_true rfl), (Nat.le_of_ble_eq_true rfl)⟩, (by show cells + 8 ≤ 664990; omega), (by show slots + 400 ≤ 7106859; omega)⟩ rfl (Nat.le_of_ble_eq_true rfl) dL_law_1926 (fun x9 ce9 q9 H9 locs9 hp hS hz9 hk9 hce hcv hcl => by
        obtain ⟨hcs, -⟩ := hp
        rw [hcd0] at hcs
        rcases hcs with ⟨h, -⟩ | ⟨h, -⟩ | ⟨h, -⟩ <;> exact absurd h (by decide)
      ) (fun v9 H3 locsH3 hp hS hzH3 hkH3 => ?_)
    obtain ⟨-, hv, G, R, hW⟩ := hp
    subst hv
    have hL := hL.kept (fun k hk => hkH3 (la k) (hL.lt hk) (hlz k hk))
    have hb4 := Nat.le_trans hb4 hzH3
    have hZn := fun (q : Nat) (h : H3.size ≤ q) => hZn0 q (Nat.le_trans hb4 h)
    refine lv_aload hx hb dL_law_1929 (lv_at hl 8 rfl) ?_
    refine lv_iconst (v := 4) hx hb dL_law_1931 (by decide) ?_
    refine lv_iload hx hb dL_law_1932 (lv_at hl 0 rfl) ?_
    refine lv_imul hx hb dL_law_1934 ?_
    refine lv_topi (fun z_4 ez_4 => ?_)
    have ez_4 : z_4 = nI (4 * st9) := ez_4.trans (nI_mul 4 st9)
    subst ez_4
    refine lv_iconst (v := 3) hx hb dL_law_1935 (by decide) ?_
    refine lv_iadd hx hb dL_law_1936 ?_
    refine lv_topi (fun z_5 ez_5 => ?_)
    have ez_5 : z_5 = nI ((4 * st9) + 3) := ez_5.trans (nI_add (4 * st9) 3)
    subst ez_5
    refine hk_ild (f := (V 3)) X K hL.c3 (vp_in_nI (by omega) (by omega)) dL_law_1937 ?_
    rw [show (V 3) (nI ((4 * st9) + 3)).toNatClampNeg = V 3 ((4 * st9) + 3) from by rw [nI_clamp (show ((4 * st9) + 3) < 2 ^ 31 by omega)]]
    refine lv_icmp_ne (tgt := 1945) hx hb dL_law_1938 (by decide) (fun c_1938 => ?_) (fun c_1938 => ?_)
    · exact (c_1938 ((dust_a (S := (cn, sc, μ)) (by omega)).trans (hV.a3 (by omega)).symm)).elim
    · refine lv_iconst (v := 1) hx hb dL_law_1941 (by decide) ?_
      refine lv_goto (tgt := 1946) hx hb dL_law_1942 (by decide) ?_
      refine lv_istore (lv' := [(15, .int 1), (20, .int (nI st9)), (19, .int (nI zn)), (18, .int kd), (16, .int (nI tn)), (2, .ref (la 0)), (3, .ref (la 1)), (4, .ref (la 2)), (5, .ref (la 3)), (6, .ref (la 4)), (7, .ref (la 5)), (8, .ref (la 6)), (9, .ref (la 7)), (10, .ref (la 8)), (11, .ref (la 9)), (12, .ref (la 10)), (13, .ref (la 11)), (14, .ref (la 12)), (1, .ref ho), (0, .ref b)]) hx hb dL_law_1946 hl (by decide) rfl (fun ls hl => ?_)
      refine lv_aload hx hb dL_law_1948 (lv_at hl 8 rfl) ?_
      refine lv_iconst (v := 4) hx hb dL_law_1950 (by decide) ?_
      refine lv_iload hx hb dL_law_1951 (lv_at hl 1 rfl) ?_
      refine lv_imul hx hb dL_law_1953 ?_
      refine lv_topi (fun z_6 ez_6 => ?_)
      have ez_6 : z_6 = nI (4 * st9) := ez_6.trans (nI_mul 4 st9)
      subst ez_6
      refine lv_iconst (v := 3) hx hb dL_law_1954 (by decide) ?_
      refine lv_iadd hx hb dL_law_1955 ?_
      refine lv_topi (fun z_7 ez_7 => ?_)
      have ez_7 : z_7 = nI ((4 * st9) + 3) := ez_7.trans (nI_add (4 * st9) 3)
      subst ez_7
      refine lv_iload hx hb dL_law_1956 (lv_at hl 2 rfl) ?_
      refine lv_iconst (v := 4) hx hb dL_law_1958 (by decide) ?_
      refine lv_idiv hx hb dL_law_1959 (by decide) ?_
      refine lv_topi (fun z_8 ez_8 => ?_)
      have ez_8 : z_8 = nI (zn / 4) := ez_8.trans (pk_div (a := zn) (d := 4) (by omega) (by omega) (by omega))
      subst ez_8
      refine lv_sipush (v := 501) hx hb dL_law_1960 (by decide) ?_
      refine lv_irem hx hb dL_law_1963 (by decide) ?_
      refine lv_topi (fun z_9 ez_9 => ?_)
      have ez_9 : z_9 = nI ((zn / 4) % 501) := ez_9.trans (pk_rem (a := (zn / 4)) (d := 501) (by omega) (by omega) (by omega))
      subst ez_9
      refine hk_ist (f := (V 3)) X K hL.c3 hS (hlA 3 (by decide)) (vp_in_nI (by omega) (by omega)) dL_law_1964 (fun H10 locsH10 hIH10 hzH10 hqH10 hS => ?_)
      rw [nI_clamp (show ((4 * st9) + 3) < 2 ^ 31 by omega)] at hIH10
      have hL := hL.set hla (j := 3) (by decide) hIH10 hqH10
      have hW := hW.kept (fun q h1 h2 => hqH10 q (fun g => h2.elim (fun h => hlz 3 (by decide) (by rw [← g]; exact h)) (fun h => h (by rw [g]; exact hlA 3 (by decide)))))
      have hb4 : b4 ≤ H10.size := by omega
      have hZn := fun (q : Nat) (h : H10.size ≤ q) => hZn0 q (Nat.le_trans hb4 h)
      refine lv_goto (tgt := 2061) hx hb dL_law_1965 (by decide) ?_
      refine W.widen (k := cells + 40) (n := slots + 2000) (by show cells + 8 ≤ _; omega) (by show slots + 400 ≤ _; omega) ?_
      have hV9 := lv_dust hV (at9 := st9) (by omega) (x := nI (zn / 4 % 501))
      exact J2061 H10 _ ⟨G, R, _, _, invF_dust hI hcd0, hV9, hW, LW.mk13 hL.c0 hL.c1 hL.c2 hL.c3 hL.c4 hL.c5 hL.c6 hL.c7 hL.c8 hL.c9 hL.c10 hL.c11 hL.c12, hS, hb4, ⟨fun h => absurd h (by omega), fun _ => h2⟩⟩ _ (lv_sub hl [2, 4, 0, 5, 6, 7, 8, 9, 10, 11, 12, 13, 14, 15, 16, 17, 18, 19] rfl)

set_option maxHeartbeats 4000000 in
set_option maxRecDepth 100000 in
theorem k_1809 {p : Program} {l : Launch} {e : Env} {s : State} {m : MethodId} {below : List Frame} {meth : Method} {c : Code} {b L : Nat} {xs : Nat → Int32} {E : hk_E} {Z : Nat → Prop} {ho ts b4 : Nat} {li : Nat → Nat} {rr : Nat → Nat → Nat} {la : Nat → Nat} (G0 : lw_G p l s m meth c b L xs E Z la b4) {H : Heap} {locs : List Loc} {cells slots tn zn st9 : Nat} {kd : Int32} (hJ0 : lw_J E Z ho ts li rr la b4 s (fun S => 2 ≤ S.1 1 ∧ st9 < S.1 1) H locs) (hz31 : zn < 2 ^ 31) (ht2 : 2 ≤ tn) (hce : cells + 40 ≤ 664990) (hsl : slots + 2000 ≤ 7106859) {ls : Array Slot} (hl : lv_has ls 26 [(20, .int (nI st9)), (19, .int (nI zn)), (18, .int kd), (16, .int (nI tn)), (15, .int 1), (2, .ref (la 0)), (3, .ref (la 1)), (4, .ref (la 2)), (5, .ref (la 3)), (6, .ref (la 4)), (7, .ref (la 5)), (8, .ref (la 6)), (9, .ref (la 7)), (10, .ref (la 8)), (11, .ref (la 9)), (12, .ref (la 10)), (13, .ref (la 11)), (14, .ref (la 12)), (1, .ref ho), (0, .ref b)])
  (J2061 : ∀ (H1 : Heap) (locs1 : List Loc), lw_J E Z ho ts li rr la b4 s (fun S => tI (tn + 1) (S.1 1)) H1 locs1 → ∀ (ls : Array Slot), lv_has ls 26 [(19, .int (nI zn)), (16, .int (nI tn)), (15, .int 1), (2, .ref (la 0)), (3, .ref (la 1)), (4, .ref (la 2)), (5, .ref (la 3)), (6, .ref (la 4)), (7, .ref (la 5)), (8, .ref (la 6)), (9, .ref (la 7)), (10, .ref (la 8)), (11, .ref (la 9)), (12, .ref (la 10)), (13, .ref (la 11)), (14, .ref (la 12)), (1, .ref ho), (0, .ref b)] → W p l e room_1 s m #[Value.ref b] below meth c H1 locs1 (cells + 40) (slots + 2000) (lw_Z below #[Value.ref b] s) (F0 m 2061 ls [])) : W p l e room_1 s m #[Value.ref b] below meth c H locs cells slots (lw_Z below #[Value.ref b] s) (F0 m 1809 ls []) := by
  obtain ⟨hl9, hLL, C0, X, K, hE, hZn0, hlz, hla, hlA⟩ := id G0
  obtain ⟨G, R, V, ⟨cn, sc, μ⟩, hI, hV, hW, hL, hS, hb4, ⟨h2, hst⟩⟩ := hJ0
  obtain ⟨hx, hb, hr, hml, hown, hts, hXs, hbl, hlocks, -⟩ := id C0
  have hAE : ∀ q, hk_A E q → hk_A E q := fun _ h => h
  have hZA : ∀ q, Z q → hk_A E q := hW.2.2.2.2.2.2.2.2.2.2.2.2
  have hZn : ∀ q, H.size ≤ q → Z q := fun q h => hZn0 q (Nat.le_trans hb4 h)
  have hn1 : cn 1 ≤ 4 := hV.n1
  have hn8 : cn 8 ≤ 3 := hV.n8
  have hn12 : cn 12 ≤ 24 := hV.n12
  have hn22 : cn 22 ≤ 4 := hV.n22
  have hn29 : cn 29 ≤ 8 := hV.n29
  have h2 : 2 ≤ cn 1 := h2
  have hst : st9 < cn 1 := hst
  refine lv_iload hx hb dL_law_1809 (lv_at hl 2 rfl) ?_
  refine lv_bipush (v := 23) hx hb dL_law_1811 (by decide) ?_
  refine lv_icmp_ne (tgt := 1908) hx hb dL_law_1813 (by decide) (fun c_1813 => ?_) (fun c_1813 => ?_)
  · exact k_1908 G0 ⟨G, R, V, (cn, sc, μ), hI, hV, hW, hL, hS, hb4, ⟨h2, hst⟩⟩ hz31 ht2 hce hsl hl J2061
  · refine lv_aload hx hb dL_law_1816 (lv_at hl 15 rfl) ?_
    refine lv_iconst (v := 3) hx hb dL_law_1818 (by decide) ?_
    refine hk_ild (f := (V 10)) X K hL.c10 (show vp_in (nI 3) 6 from vp_in_nI (by decide) (by decide)) dL_law_1819 ?_
    rw [show (V 10) (3 : Int32).toNatClampNeg = nI (cn 22) from hV.g3]
    refine lv_if_le (tgt := 1908) hx hb dL_law_1820 (by decide) (fun c_1820 => ?_) (fun c_1820 => ?_)
    · exact k_1908 G0 ⟨G, R, V, (cn, sc, μ), hI, hV, hW, hL, hS, hb4, ⟨h2, hst⟩⟩ hz31 ht2 hce hsl hl J2061
    · have h22 : 0 < cn 22 := by
        rcases Nat.eq_zero_or_pos (cn 22) with h | h
        · rw [h] at c_1820; exact absurd (Int32.le_refl _) c_1820
        · exact h
      obtain ⟨ru9, eru⟩ : ∃ y, y = zn % cn 22 := ⟨_, rfl⟩
      have hru : ru9 < cn 22 := by rw [eru]; exact Nat.mod_lt _ h22
      have h28 := (hI.1.2.2.2.2.2.2.1 ru9 hru).1
      refine lv_bipush (v := 6) hx hb dL_law_1823 (by decide) ?_
      refine lv_iload hx hb dL_law_1825 (lv_at hl 1 rfl) ?_
      refine lv_aload hx hb dL_law_1827 (lv_at hl 15 rfl) ?_
      refine lv_iconst (v := 3) hx hb dL_law_1829 (by decide) ?_
      refine hk_ild (f := (V 10)) X K hL.c10 (show vp_in (nI 3) 6 from vp_in_nI (by decide) (by decide)) dL_law_1830 ?_
      rw [show (V 10) (3 : Int32).toNatClampNeg = nI (cn 22) from hV.g3]
      refine lv_irem hx hb dL_law_1831 (nI_ne0 (by omega) (by omega)) ?_
      refine lv_topi (fun z_1 ez_1 => ?_)
      have ez_1 : z_1 = nI ru9 := ez_1.trans ((pk_rem (a := zn) (d := (cn 22)) (by omega) (by omega) (by omega)).trans (congrArg nI (show zn % (cn 22) = ru9 by omega)))
      subst ez_1
      refine lv_imul hx hb dL_law_1832 ?_
      refine lv_topi (fun z_2 ez_2 => ?_)
      have ez_2 : z_2 = nI (6 * ru9) := ez_2.trans (nI_mul 6 ru9)
      subst ez_2
      refine lv_iconst (v := 5) hx hb dL_law_1833 (by decide) ?_
      refine lv_iadd hx hb dL_law_1834 ?_
      refine lv_topi (fun z_3 ez_3 => ?_)
      have ez_3 : z_3 = nI ((6 * ru9) + 5) := ez_3.trans (nI_add (6 * ru9) 5)
      subst ez_3
      refine lv_istore (lv' := [(21, .int (nI ((6 * ru9) + 5))), (20, .int (nI st9)), (19, .int (nI zn)), (18, .int kd), (16, .int (nI tn)), (15, .int 1), (2, .ref (la 0)), (3, .ref (la 1)), (4, .ref (la 2)), (5, .ref (la 3)), (6, .ref (la 4)), (7, .ref (la 5)), (8, .ref (la 6)), (9, .ref (la 7)), (10, .ref (la 8)), (11, .ref (la 9)), (12, .ref (la 10)), (13, .ref (la 11)), (14, .ref (la 12)), (1, .ref ho), (0, .ref b)]) hx hb dL_law_1835 hl (by decide) rfl (fun ls hl => ?_)
      refine lv_iload hx hb dL_law_1837 (lv_at hl 2 rfl) ?_
      refine lv_iconst (v := 5) hx hb dL_law_1839 (by decide) ?_
      refine lv_idiv hx hb dL_law_1840 (by decide) ?_
      refine lv_topi (fun z_4 ez_4 => ?_)
      have ez_4 : z_4 = nI (zn / 5) := ez_4.trans (pk_div (a := zn) (d := 5) (by omega) (by omega) (by omega))
      subst ez_4
      refine lv_iconst (v := 2) hx hb dL_law_1841 (by decide) ?_
      refine lv_irem hx hb dL_law_1842 (by decide) ?_
      refine lv_topi (fun z_5 ez_5 => ?_)
      have ez_5 : z_5 = nI ((zn / 5) % 2) := ez_5.trans (pk_rem (a := (zn / 5)) (d := 2) (by omega) (by omega) (by omega))
      subst ez_5
      refine lv_if_ne (tgt := 1850) hx hb dL_law_1843 (by decide) (fun c_1843 => ?_) (fun c_1843 => ?_)
      · refine lv_iconst (v := 0) hx hb dL_law_1850 (by decide) ?_
        refine lv_istore (lv' := [(22, .int 0), (21, .int (nI ((6 * ru9) + 5))), (20, .int (nI st9)), (19, .int (nI zn)), (18, .int kd), (16, .int (nI tn)), (15, .int 1), (2, .ref (la 0)), (3, .ref (la 1)), (4, .ref (la 2)), (5, .ref (la 3)), (6, .ref (la 4)), (7, .ref (la 5)), (8, .ref (la 6)), (9, .ref (la 7)), (10, .ref (la 8)), (11, .ref (la 9)), (12, .ref (la 10)), (13, .ref (la 11)), (14, .ref (la 12)), (1, .ref ho), (0, .ref b)]) hx hb dL_law_1851 hl (by decide) rfl (fun ls hl => ?_)
        refine lv_aload_n hx hb dL_law_1853 rfl (lv_at hl 20 rfl) ?_
        refine lv_iload hx hb dL_law_1854 (lv_at hl 3 rfl) ?_
        refine lv_aload hx hb dL_law_1856 (lv_at hl 17 rfl) ?_
        refine lv_iconst (v := 3) hx hb dL_law_1858 (by decide) ?_
        refine hk_ild (f := (V 10)) X K hL.c10 (show vp_in (nI 3) 6 from vp_in_nI (by decide) (by decide)) dL_law_1859 ?_
        rw [show (V 10) (3 : Int32).toNatClampNeg = nI (cn 22) from hV.g3]
        refine lv_irem hx hb dL_law_1860 (nI_ne0 (by omega) (by omega)) ?_
        refine lv_topi (fun z_6 ez_6 => ?_)
        have ez_6 : z_6 = nI ru9 := ez_6.trans ((pk_rem (a := zn) (d := (cn 22)) (by omega) (by omega) (by omega)).trans (congrArg nI (show zn % (cn 22) = ru9 by omega)))
        subst ez_6
        refine lv_iload hx hb dL_law_1861 (lv_at hl 0 rfl) ?_
        have hcd0 : cd_withdraw (nI ru9) 0 (cn, sc, μ) = 0 := with_c hru hn22
        refine hk_callVx 2 (As := [.int (nI ru9), .int 0]) (rest := []) X K hAE hS hl.1 (HW.o hW) rfl (c_X10_withdraw E l hl9 H hW hI hZn (by decide) (p0 := nI ru9) (p1 := 0)) hZA gL_law_X10_withdraw rfl ⟨rfl, hd_X10_withdraw⟩ rfl ⟨⟨(Nat.le_of_ble_eq_true rfl), (Nat.le_of_ble_eq_true rfl)⟩, (by show cells + 8 ≤ 664990; omega), (by show slots + 400 ≤ 7106859; omega)⟩ rfl (Nat.le_of_ble_eq_true rfl) dL_law_1863 (fun x9 ce9 q9 H9 locs9 hp hS hz9 hk9 hce hcv hcl => by
            obtain ⟨hcs, -⟩ := hp
            rw [hcd0] at hcs
            rcases hcs with ⟨h, -⟩ | ⟨h, -⟩ | ⟨h, -⟩ <;> exact absurd h (by decide)
          ) (fun v9 H7 locsH7 hp hS hzH7 hkH7 => ?_)
        obtain ⟨-, hv, G, R, hW⟩ := hp
        subst hv
        have hL := hL.kept (fun k hk => hkH7 (la k) (hL.lt hk) (hlz k hk))
        have hb4 := Nat.le_trans hb4 hzH7
        have hZn := fun (q : Nat) (h : H7.size ≤ q) => hZn0 q (Nat.le_trans hb4 h)
        refine lv_aload hx hb dL_law_1866 (lv_at hl 15 rfl) ?_
        refine lv_iload hx hb dL_law_1868 (lv_at hl 1 rfl) ?_
        refine hk_ild (f := (V 8)) X K hL.c8 (vp_in_nI (by omega) (by omega)) dL_law_1870 ?_
        rw [show (V 8) (nI ((6 * ru9) + 5)).toNatClampNeg = V 8 ((6 * ru9) + 5) from by rw [nI_clamp (show ((6 * ru9) + 5) < 2 ^ 31 by omega)]]
        refine lv_iconst (v := 1) hx hb dL_law_1871 (by decide) ?_
        refine lv_icmp_ne (tgt := 1879) hx hb dL_law_1872 (by decide) (fun c_1872 => ?_) (fun c_1872 => ?_)
        · refine lv_iconst (v := 0) hx hb dL_law_1879 (by decide) ?_
          refine lv_icmp_ne (tgt := 1887) hx hb dL_law_1880 (by decide) (fun c_1880 => ?_) (fun c_1880 => ?_)
          · exact (c_1880 ((with_a (S := (cn, sc, μ)) (by omega)).trans (h28.resolve_right (fun h => c_1872 ((hV.r5 (show ru9 < 4 by omega)).trans h))))).elim
          · refine lv_iconst (v := 1) hx hb dL_law_1883 (by decide) ?_
            refine lv_goto (tgt := 1888) hx hb dL_law_1884 (by decide) ?_
            refine lv_istore (lv' := [(15, .int 1), (22, .int 0), (21, .int (nI ((6 * ru9) + 5))), (20, .int (nI st9)), (19, .int (nI zn)), (18, .int kd), (16, .int (nI tn)), (2, .ref (la 0)), (3, .ref (la 1)), (4, .ref (la 2)), (5, .ref (la 3)), (6, .ref (la 4)), (7, .ref (la 5)), (8, .ref (la 6)), (9, .ref (la 7)), (10, .ref (la 8)), (11, .ref (la 9)), (12, .ref (la 10)), (13, .ref (la 11)), (14, .ref (la 12)), (1, .ref ho), (0, .ref b)]) hx hb dL_law_1888 hl (by decide) rfl (fun ls hl => ?_)
            refine lv_aload hx hb dL_law_1890 (lv_at hl 15 rfl) ?_
            refine lv_iload hx hb dL_law_1892 (lv_at hl 2 rfl) ?_
            refine lv_iload hx hb dL_law_1894 (lv_at hl 1 rfl) ?_
            refine lv_if_eq (tgt := 1903) hx hb dL_law_1896 (by decide) (fun c_1896 => ?_) (fun c_1896 => ?_)
            · refine lv_iconst (v := 0) hx hb dL_law_1903 (by decide) ?_
              refine hk_ist (f := (V 8)) X K hL.c8 hS (hlA 8 (by decide)) (vp_in_nI (by omega) (by omega)) dL_law_1904 (fun H8 locsH8 hIH8 hzH8 hqH8 hS => ?_)
              rw [nI_clamp (show ((6 * ru9) + 5) < 2 ^ 31 by omega)] at hIH8
              have hL := hL.set hla (j := 8) (by decide) hIH8 hqH8
              have hW := hW.kept (fun q h1 h2 => hqH8 q (fun g => h2.elim (fun h => hlz 8 (by decide) (by rw [← g]; exact h)) (fun h => h (by rw [g]; exact hlA 8 (by decide)))))
              have hb4 : b4 ≤ H8.size := by omega
              have hZn := fun (q : Nat) (h : H8.size ≤ q) => hZn0 q (Nat.le_trans hb4 h)
              refine lv_goto (tgt := 2061) hx hb dL_law_1905 (by decide) ?_
              refine W.widen (k := cells + 40) (n := slots + 2000) (by show cells + 8 ≤ _; omega) (by show slots + 400 ≤ _; omega) ?_
              have hV9 := lv_withdraw hV (at9 := ru9) (by omega) (x := 0)
              exact J2061 H8 _ ⟨G, R, _, _, invF_withdraw hI (by decide) hcd0, hV9, hW, LW.mk13 hL.c0 hL.c1 hL.c2 hL.c3 hL.c4 hL.c5 hL.c6 hL.c7 hL.c8 hL.c9 hL.c10 hL.c11 hL.c12, hS, hb4, ⟨fun h => absurd h (by omega), fun _ => h2⟩⟩ _ (lv_sub hl [4, 6, 0, 7, 8, 9, 10, 11, 12, 13, 14, 15, 16, 17, 18, 19, 20, 21] rfl)
            · exact absurd (by decide) c_1896
        · refine lv_iconst (v := 1) hx hb dL_law_1875 (by decide) ?_
          refine lv_goto (tgt := 1880) hx hb dL_law_1876 (by decide) ?_
          refine lv_icmp_ne (tgt := 1887) hx hb dL_law_1880 (by decide) (fun c_1880 => ?_) (fun c_1880 => ?_)
          · exact (c_1880 ((with_a (S := (cn, sc, μ)) (by omega)).trans ((hV.r5 (show ru9 < 4 by omega)).symm.trans c_1872))).elim
          · refine lv_iconst (v := 1) hx hb dL_law_1883 (by decide) ?_
            refine lv_goto (tgt := 1888) hx hb dL_law_1884 (by decide) ?_
            refine lv_istore (lv' := [(15, .int 1), (22, .int 0), (21, .int (nI ((6 * ru9) + 5))), (20, .int (nI st9)), (19, .int (nI zn)), (18, .int kd), (16, .int (nI tn)), (2, .ref (la 0)), (3, .ref (la 1)), (4, .ref (la 2)), (5, .ref (la 3)), (6, .ref (la 4)), (7, .ref (la 5)), (8, .ref (la 6)), (9, .ref (la 7)), (10, .ref (la 8)), (11, .ref (la 9)), (12, .ref (la 10)), (13, .ref (la 11)), (14, .ref (la 12)), (1, .ref ho), (0, .ref b)]) hx hb dL_law_1888 hl (by decide) rfl (fun ls hl => ?_)
            refine lv_aload hx hb dL_law_1890 (lv_at hl 15 rfl) ?_
            refine lv_iload hx hb dL_law_1892 (lv_at hl 2 rfl) ?_
            refine lv_iload hx hb dL_law_1894 (lv_at hl 1 rfl) ?_
            refine lv_if_eq (tgt := 1903) hx hb dL_law_1896 (by decide) (fun c_1896 => ?_) (fun c_1896 => ?_)
            · refine lv_iconst (v := 0) hx hb dL_law_1903 (by decide) ?_
              refine hk_ist (f := (V 8)) X K hL.c8 hS (hlA 8 (by decide)) (vp_in_nI (by omega) (by omega)) dL_law_1904 (fun H9 locsH9 hIH9 hzH9 hqH9 hS => ?_)
              rw [nI_clamp (show ((6 * ru9) + 5) < 2 ^ 31 by omega)] at hIH9
              have hL := hL.set hla (j := 8) (by decide) hIH9 hqH9
              have hW := hW.kept (fun q h1 h2 => hqH9 q (fun g => h2.elim (fun h => hlz 8 (by decide) (by rw [← g]; exact h)) (fun h => h (by rw [g]; exact hlA 8 (by decide)))))
              have hb4 : b4 ≤ H9.size := by omega
              have hZn := fun (q : Nat) (h : H9.size ≤ q) => hZn0 q (Nat.le_trans hb4 h)
              refine lv_goto (tgt := 2061) hx hb dL_law_1905 (by decide) ?_
              refine W.widen (k := cells + 40) (n := slots + 2000) (by show cells + 8 ≤ _; omega) (by show slots + 400 ≤ _; omega) ?_
              have hV9 := lv_withdraw hV (at9 := ru9) (by omega) (x := 0)
              exact J2061 H9 _ ⟨G, R, _, _, invF_withdraw hI (by decide) hcd0, hV9, hW, LW.mk13 hL.c0 hL.c1 hL.c2 hL.c3 hL.c4 hL.c5 hL.c6 hL.c7 hL.c8 hL.c9 hL.c10 hL.c11 hL.c12, hS, hb4, ⟨fun h => absurd h (by omega), fun _ => h2⟩⟩ _ (lv_sub hl [4, 6, 0, 7, 8, 9, 10, 11, 12, 13, 14, 15, 16, 17, 18, 19, 20, 21] rfl)
            · exact absurd (by decide) c_1896
      · refine lv_iconst (v := 1) hx hb dL_law_1846 (by decide) ?_
        refine lv_goto (tgt := 1851) hx hb dL_law_1847 (by decide) ?_
        refine lv_istore (lv' := [(22, .int 1), (21, .int (nI ((6 * ru9) + 5))), (20, .int (nI st9)), (19, .int (nI zn)), (18, .int kd), (16, .int (nI tn)), (15, .int 1), (2, .ref (la 0)), (3, .ref (la 1)), (4, .ref (la 2)), (5, .ref (la 3)), (6, .ref (la 4)), (7, .ref (la 5)), (8, .ref (la 6)), (9, .ref (la 7)), (10, .ref (la 8)), (11, .ref (la 9)), (12, .ref (la 10)), (13, .ref (la 11)), (14, .ref (la 12)), (1, .ref ho), (0, .ref b)]) hx hb dL_law_1851 hl (by decide) rfl (fun ls hl => ?_)
        refine lv_aload_n hx hb dL_law_1853 rfl (lv_at hl 20 rfl) ?_
        refine lv_iload hx hb dL_law_1854 (lv_at hl 3 rfl) ?_
        refine lv_aload hx hb dL_law_1856 (lv_at hl 17 rfl) ?_
        refine lv_iconst (v := 3) hx hb dL_law_1858 (by decide) ?_
        refine hk_ild (f := (V 10)) X K hL.c10 (show vp_in (nI 3) 6 from vp_in_nI (by decide) (by decide)) dL_law_1859 ?_
        rw [show (V 10) (3 : Int32).toNatClampNeg = nI (cn 22) from hV.g3]
        refine lv_irem hx hb dL_law_1860 (nI_ne0 (by omega) (by omega)) ?_
        refine lv_topi (fun z_10 ez_10 => ?_)
        have ez_10 : z_10 = nI ru9 := ez_10.trans ((pk_rem (a := zn) (d := (cn 22)) (by omega) (by omega) (by omega)).trans (congrArg nI (show zn % (cn 22) = ru9 by omega)))
        subst ez_10
        refine lv_iload hx hb dL_law_1861 (lv_at hl 0 rfl) ?_
        have hcd0 : cd_withdraw (nI ru9) 1 (cn, sc, μ) = 0 := with_c hru hn22
        refine hk_callVx 2 (As := [.int (nI ru9), .int 1]) (rest := []) X K hAE hS hl.1 (HW.o hW) rfl (c_X10_withdraw E l hl9 H hW hI hZn (by decide) (p0 := nI ru9) (p1 := 1)) hZA gL_law_X10_withdraw rfl ⟨rfl, hd_X10_withdraw⟩ rfl ⟨⟨(Nat.le_of_ble_eq_true rfl), (Nat.le_of_ble_eq_true rfl)⟩, (by show cells + 8 ≤ 664990; omega), (by show slots + 400 ≤ 7106859; omega)⟩ rfl (Nat.le_of_ble_eq_true rfl) dL_law_1863 (fun x9 ce9 q9 H9 locs9 hp hS hz9 hk9 hce hcv hcl => by
            obtain ⟨hcs, -⟩ := hp
            rw [hcd0] at hcs
            rcases hcs with ⟨h, -⟩ | ⟨h, -⟩ | ⟨h, -⟩ <;> exact absurd h (by decide)
          ) (fun v9 H11 locsH11 hp hS hzH11 hkH11 => ?_)
        obtain ⟨-, hv, G, R, hW⟩ := hp
        subst hv
        have hL := hL.kept (fun k hk => hkH11 (la k) (hL.lt hk) (hlz k hk))
        have hb4 := Nat.le_trans hb4 hzH11
        have hZn := fun (q : Nat) (h : H11.size ≤ q) => hZn0 q (Nat.le_trans hb4 h)
        refine lv_aload hx hb dL_law_1866 (lv_at hl 15 rfl) ?_
        refine lv_iload hx hb dL_law_1868 (lv_at hl 1 rfl) ?_
        refine hk_ild (f := (V 8)) X K hL.c8 (vp_in_nI (by omega) (by omega)) dL_law_1870 ?_
        rw [show (V 8) (nI ((6 * ru9) + 5)).toNatClampNeg = V 8 ((6 * ru9) + 5) from by rw [nI_clamp (show ((6 * ru9) + 5) < 2 ^ 31 by omega)]]
        refine lv_iconst (v := 1) hx hb dL_law_1871 (by decide) ?_
        refine lv_icmp_ne (tgt := 1879) hx hb dL_law_1872 (by decide) (fun c_1872 => ?_) (fun c_1872 => ?_)
        · refine lv_iconst (v := 0) hx hb dL_law_1879 (by decide) ?_
          refine lv_icmp_ne (tgt := 1887) hx hb dL_law_1880 (by decide) (fun c_1880 => ?_) (fun c_1880 => ?_)
          · exact (c_1880 ((with_a (S := (cn, sc, μ)) (by omega)).trans (h28.resolve_right (fun h => c_1872 ((hV.r5 (show ru9 < 4 by omega)).trans h))))).elim
          · refine lv_iconst (v := 1) hx hb dL_law_1883 (by decide) ?_
            refine lv_goto (tgt := 1888) hx hb dL_law_1884 (by decide) ?_
            refine lv_istore (lv' := [(15, .int 1), (22, .int 1), (21, .int (nI ((6 * ru9) + 5))), (20, .int (nI st9)), (19, .int (nI zn)), (18, .int kd), (16, .int (nI tn)), (2, .ref (la 0)), (3, .ref (la 1)), (4, .ref (la 2)), (5, .ref (la 3)), (6, .ref (la 4)), (7, .ref (la 5)), (8, .ref (la 6)), (9, .ref (la 7)), (10, .ref (la 8)), (11, .ref (la 9)), (12, .ref (la 10)), (13, .ref (la 11)), (14, .ref (la 12)), (1, .ref ho), (0, .ref b)]) hx hb dL_law_1888 hl (by decide) rfl (fun ls hl => ?_)
            refine lv_aload hx hb dL_law_1890 (lv_at hl 15 rfl) ?_
            refine lv_iload hx hb dL_law_1892 (lv_at hl 2 rfl) ?_
            refine lv_iload hx hb dL_law_1894 (lv_at hl 1 rfl) ?_
            refine lv_if_eq (tgt := 1903) hx hb dL_law_1896 (by decide) (fun c_1896 => ?_) (fun c_1896 => ?_)
            · exact absurd c_1896 (by decide)
            · refine lv_iconst (v := 1) hx hb dL_law_1899 (by decide) ?_
              refine lv_goto (tgt := 1904) hx hb dL_law_1900 (by decide) ?_
              refine hk_ist (f := (V 8)) X K hL.c8 hS (hlA 8 (by decide)) (vp_in_nI (by omega) (by omega)) dL_law_1904 (fun H12 locsH12 hIH12 hzH12 hqH12 hS => ?_)
              rw [nI_clamp (show ((6 * ru9) + 5) < 2 ^ 31 by omega)] at hIH12
              have hL := hL.set hla (j := 8) (by decide) hIH12 hqH12
              have hW := hW.kept (fun q h1 h2 => hqH12 q (fun g => h2.elim (fun h => hlz 8 (by decide) (by rw [← g]; exact h)) (fun h => h (by rw [g]; exact hlA 8 (by decide)))))
              have hb4 : b4 ≤ H12.size := by omega
              have hZn := fun (q : Nat) (h : H12.size ≤ q) => hZn0 q (Nat.le_trans hb4 h)
              refine lv_goto (tgt := 2061) hx hb dL_law_1905 (by decide) ?_
              refine W.widen (k := cells + 40) (n := slots + 2000) (by show cells + 8 ≤ _; omega) (by show slots + 400 ≤ _; omega) ?_
              have hV9 := lv_withdraw hV (at9 := ru9) (by omega) (x := 1)
              exact J2061 H12 _ ⟨G, R, _, _, invF_withdraw hI (by decide) hcd0, hV9, hW, LW.mk13 hL.c0 hL.c1 hL.c2 hL.c3 hL.c4 hL.c5 hL.c6 hL.c7 hL.c8 hL.c9 hL.c10 hL.c11 hL.c12, hS, hb4, ⟨fun h => absurd h (by omega), fun _ => h2⟩⟩ _ (lv_sub hl [4, 6, 0, 7, 8, 9, 10, 11, 12, 13, 14, 15, 16, 17, 18, 19, 20, 21] rfl)
        · refine lv_iconst (v := 1) hx hb dL_law_1875 (by decide) ?_
          refine lv_goto (tgt := 1880) hx hb dL_law_1876 (by decide) ?_
          refine lv_icmp_ne (tgt := 1887) hx hb dL_law_1880 (by decide) (fun c_1880 => ?_) (fun c_1880 => ?_)
          · exact (c_1880 ((with_a (S := (cn, sc, μ)) (by omega)).trans ((hV.r5 (show ru9 < 4 by omega)).symm.trans c_1872))).elim
          · refine lv_iconst (v := 1) hx hb dL_law_1883 (by decide) ?_
            refine lv_goto (tgt := 1888) hx hb dL_law_1884 (by decide) ?_
            refine lv_istore (lv' := [(15, .int 1), (22, .int 1), (21, .int (nI ((6 * ru9) + 5))), (20, .int (nI st9)), (19, .int (nI zn)), (18, .int kd), (16, .int (nI tn)), (2, .ref (la 0)), (3, .ref (la 1)), (4, .ref (la 2)), (5, .ref (la 3)), (6, .ref (la 4)), (7, .ref (la 5)), (8, .ref (la 6)), (9, .ref (la 7)), (10, .ref (la 8)), (11, .ref (la 9)), (12, .ref (la 10)), (13, .ref (la 11)), (14, .ref (la 12)), (1, .ref ho), (0, .ref b)]) hx hb dL_law_1888 hl (by decide) rfl (fun ls hl => ?_)
            refine lv_aload hx hb dL_law_1890 (lv_at hl 15 rfl) ?_
            refine lv_iload hx hb dL_law_1892 (lv_at hl 2 rfl) ?_
            refine lv_iload hx hb dL_law_1894 (lv_at hl 1 rfl) ?_
            refine lv_if_eq (tgt := 1903) hx hb dL_law_1896 (by decide) (fun c_1896 => ?_) (fun c_1896 => ?_)
            · exact absurd c_1896 (by decide)
            · refine lv_iconst (v := 1) hx hb dL_law_1899 (by decide) ?_
              refine lv_goto (tgt := 1904) hx hb dL_law_1900 (by decide) ?_
              refine hk_ist (f := (V 8)) X K hL.c8 hS (hlA 8 (by decide)) (vp_in_nI (by omega) (by omega)) dL_law_1904 (fun H13 locsH13 hIH13 hzH13 hqH13 hS => ?_)
              rw [nI_clamp (show ((6 * ru9) + 5) < 2 ^ 31 by omega)] at hIH13
              have hL := hL.set hla (j := 8) (by decide) hIH13 hqH13
              have hW := hW.kept (fun q h1 h2 => hqH13 q (fun g => h2.elim (fun h => hlz 8 (by decide) (by rw [← g]; exact h)) (fun h => h (by rw [g]; exact hlA 8 (by decide)))))
              have hb4 : b4 ≤ H13.size := by omega
              have hZn := fun (q : Nat) (h : H13.size ≤ q) => hZn0 q (Nat.le_trans hb4 h)
              refine lv_goto (tgt := 2061) hx hb dL_law_1905 (by decide) ?_
              refine W.widen (k := cells + 40) (n := slots + 2000) (by show cells + 8 ≤ _; omega) (by show slots + 400 ≤ _; omega) ?_
              have hV9 := lv_withdraw hV (at9 := ru9) (by omega) (x := 1)
              exact J2061 H13 _ ⟨G, R, _, _, invF_withdraw hI (by decide) hcd0, hV9, hW, LW.mk13 hL.c0 hL.c1 hL.c2 hL.c3 hL.c4 hL.c5 hL.c6 hL.c7 hL.c8 hL.c9 hL.c10 hL.c11 hL.c12, hS, hb4, ⟨fun h => absurd h (by omega), fun _ => h2⟩⟩ _ (lv_sub hl [4, 6, 0, 7, 8, 9, 10, 11, 12, 13, 14, 15, 16, 17, 18, 19, 20, 21] rfl)
