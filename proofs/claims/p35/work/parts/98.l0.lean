set_option maxHeartbeats 4000000 in
set_option maxRecDepth 100000 in
theorem t_2061 {p : Program} {l : Launch} {e : Env} {s : State} {m : MethodId} {below : List Frame} {meth : Method} {c : Code} {b L : Nat} {xs : Nat → Int32} {E : hk_E} {Z : Nat → Prop} {ho ts b4 : Nat} {li : Nat → Nat} {rr : Nat → Nat → Nat} {la : Nat → Nat} (G0 : lw_G p l s m meth c b L xs E Z la b4) {H : Heap} {locs : List Loc} {cells slots c9 s9 tn zn : Nat} (hJ0 : lw_J E Z ho ts li rr la b4 s (fun S => tI (tn + 1) (S.1 1)) H locs) (hz31 : zn < 2 ^ 31) (htn : tn < 110) (hce : cells + 3100 ≤ 664990) (hsl : slots + 155000 ≤ 7106859) (h1c : cells ≤ c9) (h1s : slots ≤ s9) (h2c : tn % 5 = 4 → cells + 3100 ≤ c9) (h2s : tn % 5 = 4 → slots + 155000 ≤ s9) {ls : Array Slot} (hl : lv_has ls 26 [(19, .int (nI zn)), (16, .int (nI tn)), (15, .int 1), (2, .ref (la 0)), (3, .ref (la 1)), (4, .ref (la 2)), (5, .ref (la 3)), (6, .ref (la 4)), (7, .ref (la 5)), (8, .ref (la 6)), (9, .ref (la 7)), (10, .ref (la 8)), (11, .ref (la 9)), (12, .ref (la 10)), (13, .ref (la 11)), (14, .ref (la 12)), (1, .ref ho), (0, .ref b)])
  (J113 : ∀ (H1 : Heap) (locs1 : List Loc), lw_J E Z ho ts li rr la b4 s (fun S => tI (tn + 1) (S.1 1)) H1 locs1 → ∀ (ls : Array Slot), lv_has ls 26 [(16, .int (nI (tn + 1))), (15, .int 1), (2, .ref (la 0)), (3, .ref (la 1)), (4, .ref (la 2)), (5, .ref (la 3)), (6, .ref (la 4)), (7, .ref (la 5)), (8, .ref (la 6)), (9, .ref (la 7)), (10, .ref (la 8)), (11, .ref (la 9)), (12, .ref (la 10)), (13, .ref (la 11)), (14, .ref (la 12)), (1, .ref ho), (0, .ref b)] → W p l e room_1 s m #[Value.ref b] below meth c H1 locs1 c9 s9 (lw_Z below #[Value.ref b] s) (F0 m 113 ls [])) : W p l e room_1 s m #[Value.ref b] below meth c H locs cells slots (lw_Z below #[Value.ref b] s) (F0 m 2061 ls []) := by
  obtain ⟨hl9, hLL, C0, X, K, hE, hZn0, hlz, hla, hlA⟩ := id G0
  obtain ⟨G, R, V, ⟨cn, sc, μ⟩, hI, hV, hW, hL, hS, hb4, ht9⟩ := hJ0
  obtain ⟨hx, hb, hr, hml, hown, hts, hXs, hbl, hlocks, -⟩ := id C0
  have hAE : ∀ q, hk_A E q → hk_A E q := fun _ h => h
  have hZA : ∀ q, Z q → hk_A E q := hW.2.2.2.2.2.2.2.2.2.2.2.2
  have hZn : ∀ q, H.size ≤ q → Z q := fun q h => hZn0 q (Nat.le_trans hb4 h)
  have hn1 : cn 1 ≤ 4 := hV.n1
  have hn8 : cn 8 ≤ 3 := hV.n8
  have hn12 : cn 12 ≤ 24 := hV.n12
  have hn22 : cn 22 ≤ 4 := hV.n22
  have hn29 : cn 29 ≤ 8 := hV.n29
  have ht9 : tI (tn + 1) (cn 1) := ht9
  refine lv_iload hx hb dL_law_2061 (lv_at hl 2 rfl) ?_
  refine lv_if_eq (tgt := 2196) hx hb dL_law_2063 (by decide) (fun c_2063 => ?_) (fun c_2063 => ?_)
  · exact absurd c_2063 (by decide)
  · refine lv_iload hx hb dL_law_2066 (lv_at hl 1 rfl) ?_
    refine lv_iconst (v := 5) hx hb dL_law_2068 (by decide) ?_
    refine lv_irem hx hb dL_law_2069 (by decide) ?_
    refine lv_topi (fun z_1 ez_1 => ?_)
    have ez_1 : z_1 = nI (tn % 5) := ez_1.trans (pk_rem (a := tn) (d := 5) (by omega) (by omega) (by omega))
    subst ez_1
    refine lv_iconst (v := 4) hx hb dL_law_2070 (by decide) ?_
    refine lv_icmp_ne (tgt := 2196) hx hb dL_law_2071 (by decide) (fun c_2071 => ?_) (fun c_2071 => ?_)
    · have h5 : ¬ tn % 5 = 4 := fun h => c_2071 (by rw [h]; rfl)
      obtain ⟨q2196, eq2196⟩ : ∃ y : Int32, y = (nI tn) + 1 := ⟨_, rfl⟩
      refine lv_iinc (v := q2196) (lv' := [(16, .int q2196), (19, .int (nI zn)), (15, .int 1), (2, .ref (la 0)), (3, .ref (la 1)), (4, .ref (la 2)), (5, .ref (la 3)), (6, .ref (la 4)), (7, .ref (la 5)), (8, .ref (la 6)), (9, .ref (la 7)), (10, .ref (la 8)), (11, .ref (la 9)), (12, .ref (la 10)), (13, .ref (la 11)), (14, .ref (la 12)), (1, .ref ho), (0, .ref b)]) hx hb dL_law_2196 hl (k := 1) rfl (by rw [eq2196]; rfl) (by decide) rfl (fun ls hl => ?_)
      rw [nI_1] at eq2196
      subst eq2196
      refine lv_goto (tgt := 113) hx hb dL_law_2199 (by decide) ?_
      refine W.widen (k := c9) (n := s9) (by show cells ≤ _; omega) (by show slots ≤ _; omega) ?_
      exact J113 H _ ⟨G, R, _, (cn, sc, μ), hI, hV, hW, hL, hS, hb4, ht9⟩ _ (lv_sub hl [0, 2, 3, 4, 5, 6, 7, 8, 9, 10, 11, 12, 13, 14, 15, 16, 17] rfl)
    · have h5 : tn % 5 = 4 := (nI_eq (b := 4) (by omega) (by omega)).mp c_2071
      refine lv_aload_n hx hb dL_law_2074 rfl (lv_at hl 3 rfl) ?_
      refine lv_aload_n hx hb dL_law_2075 rfl (lv_at hl 4 rfl) ?_
      refine lv_aload hx hb dL_law_2076 (lv_at hl 5 rfl) ?_
      refine lv_aload hx hb dL_law_2078 (lv_at hl 6 rfl) ?_
      refine lv_aload hx hb dL_law_2080 (lv_at hl 7 rfl) ?_
      refine lv_aload hx hb dL_law_2082 (lv_at hl 8 rfl) ?_
      refine lv_aload hx hb dL_law_2084 (lv_at hl 9 rfl) ?_
      refine lv_aload hx hb dL_law_2086 (lv_at hl 10 rfl) ?_
      refine lv_aload hx hb dL_law_2088 (lv_at hl 13 rfl) ?_
      refine lv_aload hx hb dL_law_2090 (lv_at hl 14 rfl) ?_
      refine lv_aload hx hb dL_law_2092 (lv_at hl 15 rfl) ?_
      refine hk_callS 11 (As := [.ref (la 0), .ref (la 1), .ref (la 2), .ref (la 3), .ref (la 4), .ref (la 5), .ref (la 6), .ref (la 7), .ref (la 10), .ref (la 11), .ref (la 12)]) (rest := []) X K hAE hS hl.1 (c_L_lays E l H hL hV hI hla hlA) (fun q h => h.elim (fun h => by rw [h]; exact hlA 11 (by decide)) (fun h => by rw [h]; exact hlA 12 (by decide))) gL_law_L_lays rfl hd_L_lays rfl ⟨⟨(Nat.le_of_ble_eq_true rfl), (Nat.le_of_ble_eq_true rfl)⟩, (by show cells + 0 ≤ 664990; omega), (by show slots + 0 ≤ 7106859; omega)⟩ rfl (Nat.le_of_ble_eq_true rfl) dL_law_2094 (fun v9 H2 locsH2 hp hS hzH2 hkH2 => ?_)
      obtain ⟨hv, hzz, V1, hL1, hV1, hX⟩ := hp
      subst hv
      have hW := hW.kept (fun q h1 h2 => hkH2 q h1 (fun g => g.elim (fun g => h2.elim (fun z => hlz 11 (by decide) (by rw [← g]; exact z)) (fun z => z (by rw [g]; exact hlA 11 (by decide)))) (fun g => h2.elim (fun z => hlz 12 (by decide) (by rw [← g]; exact z)) (fun z => z (by rw [g]; exact hlA 12 (by decide))))))
      have hV := hV.xy hV1
      have hL := hL1
      have hb4 : b4 ≤ H2.size := by omega
      have hZn := fun (q : Nat) (h : H2.size ≤ q) => hZn0 q (Nat.le_trans hb4 h)
      refine lv_aload_n hx hb dL_law_2097 rfl (lv_at hl 16 rfl) ?_
      refine lv_aload_n hx hb dL_law_2098 rfl (lv_at hl 3 rfl) ?_
      refine lv_aload hx hb dL_law_2099 (lv_at hl 7 rfl) ?_
      refine lv_aload hx hb dL_law_2101 (lv_at hl 8 rfl) ?_
      refine lv_aload hx hb dL_law_2103 (lv_at hl 9 rfl) ?_
      refine lv_aload hx hb dL_law_2105 (lv_at hl 10 rfl) ?_
      refine lv_aload hx hb dL_law_2107 (lv_at hl 13 rfl) ?_
      refine lv_aload hx hb dL_law_2109 (lv_at hl 14 rfl) ?_
      refine lv_aload hx hb dL_law_2111 (lv_at hl 15 rfl) ?_
      refine hk_callSx 9 (As := [.ref ho, .ref (la 0), .ref (la 4), .ref (la 5), .ref (la 6), .ref (la 7), .ref (la 10), .ref (la 11), .ref (la 12)]) (rest := []) X K hAE hS hl.1 (c_L_areLooks E l hl9 H2 hW hL hV hI hX hZn hlz ) hZA gL_law_L_areLooks rfl hd_L_areLooks rfl ⟨⟨(Nat.le_of_ble_eq_true rfl), (Nat.le_of_ble_eq_true rfl)⟩, (by show cells + 1200 ≤ 664990; omega), (by show slots + 60000 ≤ 7106859; omega)⟩ rfl (Nat.le_of_ble_eq_true rfl) dL_law_2113 (fun x9 ce9 q9 H3 locsH3 hp hS hzH3 hkH3 hce hcv hcl => False.elim hp) (fun v9 H3 locsH3 hp hS hzH3 hkH3 => ?_)
      obtain ⟨hv, G, R, hW⟩ := hp
      subst hv
      have hL := hL.kept (fun k hk => hkH3 (la k) (hL.lt hk) (hlz k hk))
      have hb4 := Nat.le_trans hb4 hzH3
      have hZn := fun (q : Nat) (h : H3.size ≤ q) => hZn0 q (Nat.le_trans hb4 h)
      refine lv_if_eq (tgt := 2193) hx hb dL_law_2116 (by decide) (fun c_2116 => ?_) (fun c_2116 => ?_)
      · exact absurd c_2116 (by decide)
      · refine lv_iload hx hb dL_law_2119 (lv_at hl 1 rfl) ?_
        refine lv_bipush (v := 10) hx hb dL_law_2121 (by decide) ?_
        refine lv_irem hx hb dL_law_2123 (by decide) ?_
        refine lv_topi (fun z_4 ez_4 => ?_)
        have ez_4 : z_4 = nI (tn % 10) := ez_4.trans (pk_rem (a := tn) (d := 10) (by omega) (by omega) (by omega))
        subst ez_4
        refine lv_iconst (v := 4) hx hb dL_law_2124 (by decide) ?_
        refine lv_icmp_ne (tgt := 2149) hx hb dL_law_2125 (by decide) (fun c_2125 => ?_) (fun c_2125 => ?_)
        · refine lv_iload hx hb dL_law_2149 (lv_at hl 1 rfl) ?_
          refine lv_bipush (v := 10) hx hb dL_law_2151 (by decide) ?_
          refine lv_irem hx hb dL_law_2153 (by decide) ?_
          refine lv_topi (fun z_5 ez_5 => ?_)
          have ez_5 : z_5 = nI (tn % 10) := ez_5.trans (pk_rem (a := tn) (d := 10) (by omega) (by omega) (by omega))
          subst ez_5
          refine lv_bipush (v := 9) hx hb dL_law_2154 (by decide) ?_
          refine lv_icmp_ne (tgt := 2189) hx hb dL_law_2156 (by decide) (fun c_2156 => ?_) (fun c_2156 => ?_)
          · refine lv_iconst (v := 1) hx hb dL_law_2189 (by decide) ?_
            refine lv_goto (tgt := 2194) hx hb dL_law_2190 (by decide) ?_
            refine lv_istore (lv' := [(15, .int 1), (19, .int (nI zn)), (16, .int (nI tn)), (2, .ref (la 0)), (3, .ref (la 1)), (4, .ref (la 2)), (5, .ref (la 3)), (6, .ref (la 4)), (7, .ref (la 5)), (8, .ref (la 6)), (9, .ref (la 7)), (10, .ref (la 8)), (11, .ref (la 9)), (12, .ref (la 10)), (13, .ref (la 11)), (14, .ref (la 12)), (1, .ref ho), (0, .ref b)]) hx hb dL_law_2194 hl (by decide) rfl (fun ls hl => ?_)
            obtain ⟨q2196, eq2196⟩ : ∃ y : Int32, y = (nI tn) + 1 := ⟨_, rfl⟩
            refine lv_iinc (v := q2196) (lv' := [(16, .int q2196), (15, .int 1), (19, .int (nI zn)), (2, .ref (la 0)), (3, .ref (la 1)), (4, .ref (la 2)), (5, .ref (la 3)), (6, .ref (la 4)), (7, .ref (la 5)), (8, .ref (la 6)), (9, .ref (la 7)), (10, .ref (la 8)), (11, .ref (la 9)), (12, .ref (la 10)), (13, .ref (la 11)), (14, .ref (la 12)), (1, .ref ho), (0, .ref b)]) hx hb dL_law_2196 hl (k := 2) rfl (by rw [eq2196]; rfl) (by decide) rfl (fun ls hl => ?_)
            rw [nI_1] at eq2196
            subst eq2196
            refine lv_goto (tgt := 113) hx hb dL_law_2199 (by decide) ?_
            refine W.widen (k := c9) (n := s9) (by show cells + 1200 ≤ _; omega) (by show slots + 60000 ≤ _; omega) ?_
            exact J113 H3 _ ⟨G, R, _, (cn, sc, μ), hI, hV, hW, hL, hS, hb4, ht9⟩ _ (lv_sub hl [0, 1, 3, 4, 5, 6, 7, 8, 9, 10, 11, 12, 13, 14, 15, 16, 17] rfl)
          · refine lv_aload_n hx hb dL_law_2159 rfl (lv_at hl 16 rfl) ?_
            refine lv_aload hx hb dL_law_2160 (lv_at hl 6 rfl) ?_
            refine lv_aload hx hb dL_law_2162 (lv_at hl 12 rfl) ?_
            refine lv_aload hx hb dL_law_2164 (lv_at hl 13 rfl) ?_
            refine lv_iload hx hb dL_law_2166 (lv_at hl 0 rfl) ?_
            refine hk_callSx 5 (As := [.ref ho, .ref (la 3), .ref (la 9), .ref (la 10), .int (nI zn)]) (rest := []) X K hAE hS hl.1 (c_L_areMinima E l hl9 H3 hW hL hV hI hX hZn hlz (zn := zn) (by omega)) hZA gL_law_L_areMinima rfl hd_L_areMinima rfl ⟨⟨(Nat.le_of_ble_eq_true rfl), (Nat.le_of_ble_eq_true rfl)⟩, (by show cells + 1200 + 900 ≤ 664990; omega), (by show slots + 60000 + 45000 ≤ 7106859; omega)⟩ rfl (Nat.le_of_ble_eq_true rfl) dL_law_2168 (fun x9 ce9 q9 H6 locsH6 hp hS hzH6 hkH6 hce hcv hcl => False.elim hp) (fun v9 H6 locsH6 hp hS hzH6 hkH6 => ?_)
            obtain ⟨hv, G, R, hW⟩ := hp
            subst hv
            have hL := hL.kept (fun k hk => hkH6 (la k) (hL.lt hk) (hlz k hk))
            have hb4 := Nat.le_trans hb4 hzH6
            have hZn := fun (q : Nat) (h : H6.size ≤ q) => hZn0 q (Nat.le_trans hb4 h)
            refine lv_if_eq (tgt := 2193) hx hb dL_law_2171 (by decide) (fun c_2171 => ?_) (fun c_2171 => ?_)
            · exact absurd c_2171 (by decide)
            · refine lv_aload_n hx hb dL_law_2174 rfl (lv_at hl 16 rfl) ?_
              refine lv_aload hx hb dL_law_2175 (lv_at hl 6 rfl) ?_
              refine lv_aload hx hb dL_law_2177 (lv_at hl 8 rfl) ?_
              refine lv_aload hx hb dL_law_2179 (lv_at hl 13 rfl) ?_
              refine lv_aload hx hb dL_law_2181 (lv_at hl 14 rfl) ?_
              refine hk_callSx 5 (As := [.ref ho, .ref (la 3), .ref (la 5), .ref (la 10), .ref (la 11)]) (rest := []) X K hAE hS hl.1 (c_L_areNear E l hl9 H6 hW hL hV hI hX hZn hlz ) hZA gL_law_L_areNear rfl hd_L_areNear rfl ⟨⟨(Nat.le_of_ble_eq_true rfl), (Nat.le_of_ble_eq_true rfl)⟩, (by show cells + 1200 + 900 + 60 ≤ 664990; omega), (by show slots + 60000 + 45000 + 3000 ≤ 7106859; omega)⟩ rfl (Nat.le_of_ble_eq_true rfl) dL_law_2183 (fun x9 ce9 q9 H7 locsH7 hp hS hzH7 hkH7 hce hcv hcl => False.elim hp) (fun v9 H7 locsH7 hp hS hzH7 hkH7 => ?_)
              obtain ⟨hv, G, R, hW⟩ := hp
              subst hv
              have hL := hL.kept (fun k hk => hkH7 (la k) (hL.lt hk) (hlz k hk))
              have hb4 := Nat.le_trans hb4 hzH7
              have hZn := fun (q : Nat) (h : H7.size ≤ q) => hZn0 q (Nat.le_trans hb4 h)
              refine lv_if_eq (tgt := 2193) hx hb dL_law_2186 (by decide) (fun c_2186 => ?_) (fun c_2186 => ?_)
              · exact absurd c_2186 (by decide)
              · refine lv_iconst (v := 1) hx hb dL_law_2189 (by decide) ?_
                refine lv_goto (tgt := 2194) hx hb dL_law_2190 (by decide) ?_
                refine lv_istore (lv' := [(15, .int 1), (19, .int (nI zn)), (16, .int (nI tn)), (2, .ref (la 0)), (3, .ref (la 1)), (4, .ref (la 2)), (5, .ref (la 3)), (6, .ref (la 4)), (7, .ref (la 5)), (8, .ref (la 6)), (9, .ref (la 7)), (10, .ref (la 8)), (11, .ref (la 9)), (12, .ref (la 10)), (13, .ref (la 11)), (14, .ref (la 12)), (1, .ref ho), (0, .ref b)]) hx hb dL_law_2194 hl (by decide) rfl (fun ls hl => ?_)
                obtain ⟨q2196, eq2196⟩ : ∃ y : Int32, y = (nI tn) + 1 := ⟨_, rfl⟩
                refine lv_iinc (v := q2196) (lv' := [(16, .int q2196), (15, .int 1), (19, .int (nI zn)), (2, .ref (la 0)), (3, .ref (la 1)), (4, .ref (la 2)), (5, .ref (la 3)), (6, .ref (la 4)), (7, .ref (la 5)), (8, .ref (la 6)), (9, .ref (la 7)), (10, .ref (la 8)), (11, .ref (la 9)), (12, .ref (la 10)), (13, .ref (la 11)), (14, .ref (la 12)), (1, .ref ho), (0, .ref b)]) hx hb dL_law_2196 hl (k := 2) rfl (by rw [eq2196]; rfl) (by decide) rfl (fun ls hl => ?_)
                rw [nI_1] at eq2196
                subst eq2196
                refine lv_goto (tgt := 113) hx hb dL_law_2199 (by decide) ?_
                refine W.widen (k := c9) (n := s9) (by show cells + 1200 + 900 + 60 ≤ _; omega) (by show slots + 60000 + 45000 + 3000 ≤ _; omega) ?_
                exact J113 H7 _ ⟨G, R, _, (cn, sc, μ), hI, hV, hW, hL, hS, hb4, ht9⟩ _ (lv_sub hl [0, 1, 3, 4, 5, 6, 7, 8, 9, 10, 11, 12, 13, 14, 15, 16, 17] rfl)
        · refine lv_aload_n hx hb dL_law_2128 rfl (lv_at hl 16 rfl) ?_
          refine lv_aload hx hb dL_law_2129 (lv_at hl 6 rfl) ?_
          refine lv_aload hx hb dL_law_2131 (lv_at hl 8 rfl) ?_
          refine lv_aload hx hb dL_law_2133 (lv_at hl 11 rfl) ?_
          refine lv_aload hx hb dL_law_2135 (lv_at hl 13 rfl) ?_
          refine lv_aload hx hb dL_law_2137 (lv_at hl 14 rfl) ?_
          refine lv_aload hx hb dL_law_2139 (lv_at hl 15 rfl) ?_
          refine lv_iload hx hb dL_law_2141 (lv_at hl 0 rfl) ?_
          refine hk_callSx 8 (As := [.ref ho, .ref (la 3), .ref (la 5), .ref (la 8), .ref (la 10), .ref (la 11), .ref (la 12), .int (nI zn)]) (rest := []) X K hAE hS hl.1 (c_L_areStars E l hl9 H3 hW hL hV hI hX hZn hlz (zn := zn) (by omega)) hZA gL_law_L_areStars rfl hd_L_areStars rfl ⟨⟨(Nat.le_of_ble_eq_true rfl), (Nat.le_of_ble_eq_true rfl)⟩, (by show cells + 1200 + 900 ≤ 664990; omega), (by show slots + 60000 + 45000 ≤ 7106859; omega)⟩ rfl (Nat.le_of_ble_eq_true rfl) dL_law_2143 (fun x9 ce9 q9 H8 locsH8 hp hS hzH8 hkH8 hce hcv hcl => False.elim hp) (fun v9 H8 locsH8 hp hS hzH8 hkH8 => ?_)
          obtain ⟨hv, G, R, hW⟩ := hp
          subst hv
          have hL := hL.kept (fun k hk => hkH8 (la k) (hL.lt hk) (hlz k hk))
          have hb4 := Nat.le_trans hb4 hzH8
          have hZn := fun (q : Nat) (h : H8.size ≤ q) => hZn0 q (Nat.le_trans hb4 h)
          refine lv_if_eq (tgt := 2193) hx hb dL_law_2146 (by decide) (fun c_2146 => ?_) (fun c_2146 => ?_)
          · exact absurd c_2146 (by decide)
          · refine lv_iload hx hb dL_law_2149 (lv_at hl 1 rfl) ?_
            refine lv_bipush (v := 10) hx hb dL_law_2151 (by decide) ?_
            refine lv_irem hx hb dL_law_2153 (by decide) ?_
            refine lv_topi (fun z_9 ez_9 => ?_)
            have ez_9 : z_9 = nI (tn % 10) := ez_9.trans (pk_rem (a := tn) (d := 10) (by omega) (by omega) (by omega))
            subst ez_9
            refine lv_bipush (v := 9) hx hb dL_law_2154 (by decide) ?_
            refine lv_icmp_ne (tgt := 2189) hx hb dL_law_2156 (by decide) (fun c_2156 => ?_) (fun c_2156 => ?_)
            · refine lv_iconst (v := 1) hx hb dL_law_2189 (by decide) ?_
              refine lv_goto (tgt := 2194) hx hb dL_law_2190 (by decide) ?_
              refine lv_istore (lv' := [(15, .int 1), (19, .int (nI zn)), (16, .int (nI tn)), (2, .ref (la 0)), (3, .ref (la 1)), (4, .ref (la 2)), (5, .ref (la 3)), (6, .ref (la 4)), (7, .ref (la 5)), (8, .ref (la 6)), (9, .ref (la 7)), (10, .ref (la 8)), (11, .ref (la 9)), (12, .ref (la 10)), (13, .ref (la 11)), (14, .ref (la 12)), (1, .ref ho), (0, .ref b)]) hx hb dL_law_2194 hl (by decide) rfl (fun ls hl => ?_)
              obtain ⟨q2196, eq2196⟩ : ∃ y : Int32, y = (nI tn) + 1 := ⟨_, rfl⟩
              refine lv_iinc (v := q2196) (lv' := [(16, .int q2196), (15, .int 1), (19, .int (nI zn)), (2, .ref (la 0)), (3, .ref (la 1)), (4, .ref (la 2)), (5, .ref (la 3)), (6, .ref (la 4)), (7, .ref (la 5)), (8, .ref (la 6)), (9, .ref (la 7)), (10, .ref (la 8)), (11, .ref (la 9)), (12, .ref (la 10)), (13, .ref (la 11)), (14, .ref (la 12)), (1, .ref ho), (0, .ref b)]) hx hb dL_law_2196 hl (k := 2) rfl (by rw [eq2196]; rfl) (by decide) rfl (fun ls hl => ?_)
              rw [nI_1] at eq2196
              subst eq2196
              refine lv_goto (tgt := 113) hx hb dL_law_2199 (by decide) ?_
              refine W.widen (k := c9) (n := s9) (by show cells + 1200 + 900 ≤ _; omega) (by show slots + 60000 + 45000 ≤ _; omega) ?_
              exact J113 H8 _ ⟨G, R, _, (cn, sc, μ), hI, hV, hW, hL, hS, hb4, ht9⟩ _ (lv_sub hl [0, 1, 3, 4, 5, 6, 7, 8, 9, 10, 11, 12, 13, 14, 15, 16, 17] rfl)
            · refine lv_aload_n hx hb dL_law_2159 rfl (lv_at hl 16 rfl) ?_
              refine lv_aload hx hb dL_law_2160 (lv_at hl 6 rfl) ?_
              refine lv_aload hx hb dL_law_2162 (lv_at hl 12 rfl) ?_
              refine lv_aload hx hb dL_law_2164 (lv_at hl 13 rfl) ?_
              refine lv_iload hx hb dL_law_2166 (lv_at hl 0 rfl) ?_
              refine hk_callSx 5 (As := [.ref ho, .ref (la 3), .ref (la 9), .ref (la 10), .int (nI zn)]) (rest := []) X K hAE hS hl.1 (c_L_areMinima E l hl9 H8 hW hL hV hI hX hZn hlz (zn := zn) (by omega)) hZA gL_law_L_areMinima rfl hd_L_areMinima rfl ⟨⟨(Nat.le_of_ble_eq_true rfl), (Nat.le_of_ble_eq_true rfl)⟩, (by show cells + 1200 + 900 + 900 ≤ 664990; omega), (by show slots + 60000 + 45000 + 45000 ≤ 7106859; omega)⟩ rfl (Nat.le_of_ble_eq_true rfl) dL_law_2168 (fun x9 ce9 q9 H10 locsH10 hp hS hzH10 hkH10 hce hcv hcl => False.elim hp) (fun v9 H10 locsH10 hp hS hzH10 hkH10 => ?_)
              obtain ⟨hv, G, R, hW⟩ := hp
              subst hv
              have hL := hL.kept (fun k hk => hkH10 (la k) (hL.lt hk) (hlz k hk))
              have hb4 := Nat.le_trans hb4 hzH10
              have hZn := fun (q : Nat) (h : H10.size ≤ q) => hZn0 q (Nat.le_trans hb4 h)
              refine lv_if_eq (tgt := 2193) hx hb dL_law_2171 (by decide) (fun c_2171 => ?_) (fun c_2171 => ?_)
              · exact absurd c_2171 (by decide)
              · refine lv_aload_n hx hb dL_law_2174 rfl (lv_at hl 16 rfl) ?_
                refine lv_aload hx hb dL_law_2175 (lv_at hl 6 rfl) ?_
                refine lv_aload hx hb dL_law_2177 (lv_at hl 8 rfl) ?_
                refine lv_aload hx hb dL_law_2179 (lv_at hl 13 rfl) ?_
                refine lv_aload hx hb dL_law_2181 (lv_at hl 14 rfl) ?_
                refine hk_callSx 5 (As := [.ref ho, .ref (la 3), .ref (la 5), .ref (la 10), .ref (la 11)]) (rest := []) X K hAE hS hl.1 (c_L_areNear E l hl9 H10 hW hL hV hI hX hZn hlz ) hZA gL_law_L_areNear rfl hd_L_areNear rfl ⟨⟨(Nat.le_of_ble_eq_true rfl), (Nat.le_of_ble_eq_true rfl)⟩, (by show cells + 1200 + 900 + 900 + 60 ≤ 664990; omega), (by show slots + 60000 + 45000 + 45000 + 3000 ≤ 7106859; omega)⟩ rfl (Nat.le_of_ble_eq_true rfl) dL_law_2183 (fun x9 ce9 q9 H11 locsH11 hp hS hzH11 hkH11 hce hcv hcl => False.elim hp) (fun v9 H11 locsH11 hp hS hzH11 hkH11 => ?_)
                obtain ⟨hv, G, R, hW⟩ := hp
                subst hv
                have hL := hL.kept (fun k hk => hkH11 (la k) (hL.lt hk) (hlz k hk))
                have hb4 := Nat.le_trans hb4 hzH11
                have hZn := fun (q : Nat) (h : H11.size ≤ q) => hZn0 q (Nat.le_trans hb4 h)
                refine lv_if_eq (tgt := 2193) hx hb dL_law_2186 (by decide) (fun c_2186 => ?_) (fun c_2186 => ?_)
                · exact absurd c_2186 (by decide)
                · refine lv_iconst (v := 1) hx hb dL_law_2189 (by decide) ?_
                  refine lv_goto (tgt := 2194) hx hb dL_law_2190 (by decide) ?_
                  refine lv_istore (lv' := [(15, .int 1), (19, .int (nI zn)), (16, .int (nI tn)), (2, .ref (la 0)), (3, .ref (la 1)), (4, .ref (la 2)), (5, .ref (la 3)), (6, .ref (la 4)), (7, .ref (la 5)), (8, .ref (la 6)), (9, .ref (la 7)), (10, .ref (la 8)), (11, .ref (la 9)), (12, .ref (la 10)), (13, .ref (la 11)), (14, .ref (la 12)), (1, .ref ho), (0, .ref b)]) hx hb dL_law_2194 hl (by decide) rfl (fun ls hl => ?_)
                  obtain ⟨q2196, eq2196⟩ : ∃ y : Int32, y = (nI tn) + 1 := ⟨_, rfl⟩
                  refine lv_iinc (v := q2196) (lv' := [(16, .int q2196), (15, .int 1), (19, .int (nI zn)), (2, .ref (la 0)), (3, .ref (la 1)), (4, .ref (la 2)), (5, .ref (la 3)), (6, .ref (la 4)), (7, .ref (la 5)), (8, .ref (la 6)), (9, .ref (la 7)), (10, .ref (la 8)), (11, .ref (la 9)), (12, .ref (la 10)), (13, .ref (la 11)), (14, .ref (la 12)), (1, .ref ho), (0, .ref b)]) hx hb dL_law_2196 hl (k := 2) rfl (by rw [eq2196]; rfl) (by decide) rfl (fun ls hl => ?_)
                  rw [nI_1] at eq2196
                  subst eq2196
                  refine lv_goto (tgt := 113) hx hb dL_law_2199 (by decide) ?_
                  refine W.widen (k := c9) (n := s9) (by show cells + 1200 + 900 + 900 + 60 ≤ _; omega) (by show slots + 60000 + 45000 + 45000 + 3000 ≤ _; omega) ?_
                  exact J113 H11 _ ⟨G, R, _, (cn, sc, μ), hI, hV, hW, hL, hS, hb4, ht9⟩ _ (lv_sub hl [0, 1, 3, 4, 5, 6, 7, 8, 9, 10, 11, 12, 13, 14, 15, 16, 17] rfl)

set_option maxHeartbeats 4000000 in
set_option maxRecDepth 100000 in
theorem t_2202 {p : Program} {l : Launch} {e : Env} {s : State} {m : MethodId} {below : List Frame} {meth : Method} {c : Code} {b L : Nat} {xs : Nat → Int32} {E : hk_E} {Z : Nat → Prop} {ho ts b4 : Nat} {li : Nat → Nat} {rr : Nat → Nat → Nat} {la : Nat → Nat} (G0 : lw_G p l s m meth c b L xs E Z la b4) {H : Heap} {locs : List Loc} {cells slots : Nat} (hJ0 : lw_J E Z ho ts li rr la b4 s (fun S => 2 ≤ S.1 1) H locs) (hce : cells + 3100 ≤ 664990) (hsl : slots + 155000 ≤ 7106859) {ls : Array Slot} (hl : lv_has ls 26 [(15, .int 1), (2, .ref (la 0)), (3, .ref (la 1)), (4, .ref (la 2)), (5, .ref (la 3)), (6, .ref (la 4)), (7, .ref (la 5)), (8, .ref (la 6)), (9, .ref (la 7)), (10, .ref (la 8)), (11, .ref (la 9)), (12, .ref (la 10)), (13, .ref (la 11)), (14, .ref (la 12)), (1, .ref ho), (0, .ref b)]) : W p l e room_1 s m #[Value.ref b] below meth c H locs cells slots (lw_Z below #[Value.ref b] s) (F0 m 2202 ls []) := by
  obtain ⟨hl9, hLL, C0, X, K, hE, hZn0, hlz, hla, hlA⟩ := id G0
  obtain ⟨G, R, V, ⟨cn, sc, μ⟩, hI, hV, hW, hL, hS, hb4, h2⟩ := hJ0
  obtain ⟨hx, hb, hr, hml, hown, hts, hXs, hbl, hlocks, -⟩ := id C0
  have hAE : ∀ q, hk_A E q → hk_A E q := fun _ h => h
  have hZA : ∀ q, Z q → hk_A E q := hW.2.2.2.2.2.2.2.2.2.2.2.2
  have hZn : ∀ q, H.size ≤ q → Z q := fun q h => hZn0 q (Nat.le_trans hb4 h)
  have hn1 : cn 1 ≤ 4 := hV.n1
  have hn8 : cn 8 ≤ 3 := hV.n8
  have hn12 : cn 12 ≤ 24 := hV.n12
  have hn22 : cn 22 ≤ 4 := hV.n22
  have hn29 : cn 29 ≤ 8 := hV.n29
  have h2 : 2 ≤ cn 1 := h2
  refine lv_aload_n hx hb dL_law_2202 rfl (lv_at hl 1 rfl) ?_
  refine lv_aload_n hx hb dL_law_2203 rfl (lv_at hl 2 rfl) ?_
  refine lv_aload hx hb dL_law_2204 (lv_at hl 3 rfl) ?_
  refine lv_aload hx hb dL_law_2206 (lv_at hl 4 rfl) ?_
  refine lv_aload hx hb dL_law_2208 (lv_at hl 5 rfl) ?_
  refine lv_aload hx hb dL_law_2210 (lv_at hl 6 rfl) ?_
  refine lv_aload hx hb dL_law_2212 (lv_at hl 7 rfl) ?_
  refine lv_aload hx hb dL_law_2214 (lv_at hl 8 rfl) ?_
  refine lv_aload hx hb dL_law_2216 (lv_at hl 11 rfl) ?_
  refine lv_aload hx hb dL_law_2218 (lv_at hl 12 rfl) ?_
  refine lv_aload hx hb dL_law_2220 (lv_at hl 13 rfl) ?_
  refine hk_callS 11 (As := [.ref (la 0), .ref (la 1), .ref (la 2), .ref (la 3), .ref (la 4), .ref (la 5), .ref (la 6), .ref (la 7), .ref (la 10), .ref (la 11), .ref (la 12)]) (rest := []) X K hAE hS hl.1 (c_L_lays E l H hL hV hI hla hlA) (fun q h => h.elim (fun h => by rw [h]; exact hlA 11 (by decide)) (fun h => by rw [h]; exact hlA 12 (by decide))) gL_law_L_lays rfl hd_L_lays rfl ⟨⟨(Nat.le_of_ble_eq_true rfl), (Nat.le_of_ble_eq_true rfl)⟩, (by show cells + 0 ≤ 664990; omega), (by show slots + 0 ≤ 7106859; omega)⟩ rfl (Nat.le_of_ble_eq_true rfl) dL_law_2222 (fun v9 H1 locsH1 hp hS hzH1 hkH1 => ?_)
  obtain ⟨hv, hzz, V1, hL1, hV1, hX⟩ := hp
  subst hv
  have hW := hW.kept (fun q h1 h2 => hkH1 q h1 (fun g => g.elim (fun g => h2.elim (fun z => hlz 11 (by decide) (by rw [← g]; exact z)) (fun z => z (by rw [g]; exact hlA 11 (by decide)))) (fun g => h2.elim (fun z => hlz 12 (by decide) (by rw [← g]; exact z)) (fun z => z (by rw [g]; exact hlA 12 (by decide))))))
  have hV := hV.xy hV1
  have hL := hL1
  have hb4 : b4 ≤ H1.size := by omega
  have hZn := fun (q : Nat) (h : H1.size ≤ q) => hZn0 q (Nat.le_trans hb4 h)
  refine lv_iload hx hb dL_law_2225 (lv_at hl 0 rfl) ?_
  refine lv_if_eq (tgt := 2305) hx hb dL_law_2227 (by decide) (fun c_2227 => ?_) (fun c_2227 => ?_)
  · exact absurd c_2227 (by decide)
  · refine lv_aload_n hx hb dL_law_2230 rfl (lv_at hl 14 rfl) ?_
    refine lv_aload hx hb dL_law_2231 (lv_at hl 4 rfl) ?_
    refine lv_aload hx hb dL_law_2233 (lv_at hl 6 rfl) ?_
    refine lv_aload hx hb dL_law_2235 (lv_at hl 9 rfl) ?_
    refine lv_aload hx hb dL_law_2237 (lv_at hl 11 rfl) ?_
    refine lv_aload hx hb dL_law_2239 (lv_at hl 12 rfl) ?_
    refine lv_aload hx hb dL_law_2241 (lv_at hl 13 rfl) ?_
    refine lv_bipush (v := 77) hx hb dL_law_2243 (by decide) ?_
    refine hk_callSx 8 (As := [.ref ho, .ref (la 3), .ref (la 5), .ref (la 8), .ref (la 10), .ref (la 11), .ref (la 12), .int 77]) (rest := []) X K hAE hS hl.1 (c_L_areStars E l hl9 H1 hW hL hV hI hX hZn hlz (zn := 77) (by omega)) hZA gL_law_L_areStars rfl hd_L_areStars rfl ⟨⟨(Nat.le_of_ble_eq_true rfl), (Nat.le_of_ble_eq_true rfl)⟩, (by show cells + 900 ≤ 664990; omega), (by show slots + 45000 ≤ 7106859; omega)⟩ rfl (Nat.le_of_ble_eq_true rfl) dL_law_2245 (fun x9 ce9 q9 H2 locsH2 hp hS hzH2 hkH2 hce hcv hcl => False.elim hp) (fun v9 H2 locsH2 hp hS hzH2 hkH2 => ?_)
    obtain ⟨hv, G, R, hW⟩ := hp
    subst hv
    have hL := hL.kept (fun k hk => hkH2 (la k) (hL.lt hk) (hlz k hk))
    have hb4 := Nat.le_trans hb4 hzH2
    have hZn := fun (q : Nat) (h : H2.size ≤ q) => hZn0 q (Nat.le_trans hb4 h)
    refine lv_if_eq (tgt := 2305) hx hb dL_law_2248 (by decide) (fun c_2248 => ?_) (fun c_2248 => ?_)
    · exact absurd c_2248 (by decide)
    · refine lv_aload_n hx hb dL_law_2251 rfl (lv_at hl 14 rfl) ?_
      refine lv_aload hx hb dL_law_2252 (lv_at hl 4 rfl) ?_
      refine lv_aload hx hb dL_law_2254 (lv_at hl 6 rfl) ?_
      refine lv_aload hx hb dL_law_2256 (lv_at hl 11 rfl) ?_
      refine lv_aload hx hb dL_law_2258 (lv_at hl 12 rfl) ?_
      refine lv_aload hx hb dL_law_2260 (lv_at hl 13 rfl) ?_
      refine lv_sipush (v := 1234) hx hb dL_law_2262 (by decide) ?_
      refine hk_callSx 7 (As := [.ref ho, .ref (la 3), .ref (la 5), .ref (la 10), .ref (la 11), .ref (la 12), .int 1234]) (rest := []) X K hAE hS hl.1 (c_L_areTrials E l hl9 H2 hW hL hV hI hX hZn hlz (by omega) (zn := 1234) (by omega)) hZA gL_law_L_areTrials rfl hd_L_areTrials rfl ⟨⟨(Nat.le_of_ble_eq_true rfl), (Nat.le_of_ble_eq_true rfl)⟩, (by show cells + 900 + 40 ≤ 664990; omega), (by show slots + 45000 + 2000 ≤ 7106859; omega)⟩ rfl (Nat.le_of_ble_eq_true rfl) dL_law_2265 (fun x9 ce9 q9 H3 locsH3 hp hS hzH3 hkH3 hce hcv hcl => False.elim hp) (fun v9 H3 locsH3 hp hS hzH3 hkH3 => ?_)
      obtain ⟨hv, G, R, hW⟩ := hp
      subst hv
      have hL := hL.kept (fun k hk => hkH3 (la k) (hL.lt hk) (hlz k hk))
      have hb4 := Nat.le_trans hb4 hzH3
      have hZn := fun (q : Nat) (h : H3.size ≤ q) => hZn0 q (Nat.le_trans hb4 h)
      refine lv_if_eq (tgt := 2305) hx hb dL_law_2268 (by decide) (fun c_2268 => ?_) (fun c_2268 => ?_)
      · exact absurd c_2268 (by decide)
      · refine lv_aload_n hx hb dL_law_2271 rfl (lv_at hl 14 rfl) ?_
        refine lv_aload hx hb dL_law_2272 (lv_at hl 4 rfl) ?_
        refine lv_aload hx hb dL_law_2274 (lv_at hl 10 rfl) ?_
        refine lv_aload hx hb dL_law_2276 (lv_at hl 11 rfl) ?_
        refine lv_bipush (v := 99) hx hb dL_law_2278 (by decide) ?_
        refine hk_callSx 5 (As := [.ref ho, .ref (la 3), .ref (la 9), .ref (la 10), .int 99]) (rest := []) X K hAE hS hl.1 (c_L_areMinima E l hl9 H3 hW hL hV hI hX hZn hlz (zn := 99) (by omega)) hZA gL_law_L_areMinima rfl hd_L_areMinima rfl ⟨⟨(Nat.le_of_ble_eq_true rfl), (Nat.le_of_ble_eq_true rfl)⟩, (by show cells + 900 + 40 + 900 ≤ 664990; omega), (by show slots + 45000 + 2000 + 45000 ≤ 7106859; omega)⟩ rfl (Nat.le_of_ble_eq_true rfl) dL_law_2280 (fun x9 ce9 q9 H4 locsH4 hp hS hzH4 hkH4 hce hcv hcl => False.elim hp) (fun v9 H4 locsH4 hp hS hzH4 hkH4 => ?_)
        obtain ⟨hv, G, R, hW⟩ := hp
        subst hv
        have hL := hL.kept (fun k hk => hkH4 (la k) (hL.lt hk) (hlz k hk))
        have hb4 := Nat.le_trans hb4 hzH4
        have hZn := fun (q : Nat) (h : H4.size ≤ q) => hZn0 q (Nat.le_trans hb4 h)
        refine lv_if_eq (tgt := 2305) hx hb dL_law_2283 (by decide) (fun c_2283 => ?_) (fun c_2283 => ?_)
        · exact absurd c_2283 (by decide)
        · refine lv_aload_n hx hb dL_law_2286 rfl (lv_at hl 14 rfl) ?_
          refine lv_aload hx hb dL_law_2287 (lv_at hl 4 rfl) ?_
          refine lv_aload hx hb dL_law_2289 (lv_at hl 6 rfl) ?_
          refine lv_aload hx hb dL_law_2291 (lv_at hl 11 rfl) ?_
          refine lv_aload hx hb dL_law_2293 (lv_at hl 12 rfl) ?_
          refine hk_callSx 5 (As := [.ref ho, .ref (la 3), .ref (la 5), .ref (la 10), .ref (la 11)]) (rest := []) X K hAE hS hl.1 (c_L_areNear E l hl9 H4 hW hL hV hI hX hZn hlz ) hZA gL_law_L_areNear rfl hd_L_areNear rfl ⟨⟨(Nat.le_of_ble_eq_true rfl), (Nat.le_of_ble_eq_true rfl)⟩, (by show cells + 900 + 40 + 900 + 60 ≤ 664990; omega), (by show slots + 45000 + 2000 + 45000 + 3000 ≤ 7106859; omega)⟩ rfl (Nat.le_of_ble_eq_true rfl) dL_law_2295 (fun x9 ce9 q9 H5 locsH5 hp hS hzH5 hkH5 hce hcv hcl => False.elim hp) (fun v9 H5 locsH5 hp hS hzH5 hkH5 => ?_)
          obtain ⟨hv, G, R, hW⟩ := hp
          subst hv
          have hL := hL.kept (fun k hk => hkH5 (la k) (hL.lt hk) (hlz k hk))
          have hb4 := Nat.le_trans hb4 hzH5
          have hZn := fun (q : Nat) (h : H5.size ≤ q) => hZn0 q (Nat.le_trans hb4 h)
          refine lv_if_eq (tgt := 2305) hx hb dL_law_2298 (by decide) (fun c_2298 => ?_) (fun c_2298 => ?_)
          · exact absurd c_2298 (by decide)
          · refine lv_iconst (v := 1) hx hb dL_law_2301 (by decide) ?_
            refine lv_goto (tgt := 2306) hx hb dL_law_2302 (by decide) ?_
            refine va_forget (fun q hq => by rw [← hE]; exact hS.2.2 q hq) ?_
            refine W.widen (k := 664990) (n := 7106859) (by show cells + 900 + 40 + 900 + 60 ≤ _; omega) (by show slots + 45000 + 2000 + 45000 + 3000 ≤ _; omega) ?_
            exact lw_ret hx hb hr hlocks dL_law_2306
