/-- the row of the curve holds the looks of L in the order of their times -/
def hcur (R : hR) (μ : Nat → Nat → Int32) (L : List Nat) : Prop := rowL (R.1 0) (R.2.1 0) (R.2.2.1 0) (sSort (sp_time μ) [] L) (sp_time μ) (sp_light μ) ∧ row_up (R.1 0) (R.2.1 0) ∧ L.Pairwise (fun a b => a < b)
theorem hcur.other {R : hR} {μ : Nat → Nat → Int32} {L : List Nat} (h : hcur R μ L) {r n : Nat} {k v : Nat → Int32} (hr : 0 ≠ r) : hcur (va_up R.1 r n, va_up R.2.1 r k, va_up R.2.2.1 r v, R.2.2.2) μ L := by
  obtain ⟨h1, h2, h3⟩ := h
  refine ⟨?_, ?_, h3⟩
  · show rowL (va_up R.1 r n 0) (va_up R.2.1 r k 0) (va_up R.2.2.1 r v 0) _ _ _
    rw [show va_up R.1 r n 0 = R.1 0 from if_neg hr, show va_up R.2.1 r k 0 = R.2.1 0 from if_neg hr, show va_up R.2.2.1 r v 0 = R.2.2.1 0 from if_neg hr]
    exact h1
  · show row_up (va_up R.1 r n 0) (va_up R.2.1 r k 0)
    rw [show va_up R.1 r n 0 = R.1 0 from if_neg hr, show va_up R.2.1 r k 0 = R.2.1 0 from if_neg hr]
    exact h2
theorem hcur.len {R : hR} {μ : Nat → Nat → Int32} {L : List Nat} (h : hcur R μ L) : R.1 0 = L.length := by rw [h.1.1, sSort_len]
theorem hoS_cong {b b' : Nat → Int32} {m : Nat} (h : ∀ i, i < m → b i = b' i) : ∀ k, k ≤ m → hoS b m k = hoS b' m k := by
  intro k
  induction k with
  | zero => intro _; rfl
  | succ k ih =>
    intro hk
    rw [hoS, hoS, ih (by omega), h k (by omega), h _ (by by_cases e : k = 0 <;> simp [e] <;> omega)]
theorem absd_z (x : Int32) : (if 0 ≤ x then x else 0 - x) = absd x := by
  unfold absd
  rw [Int32.zero_sub]
theorem take_getD {A : List Nat} {k : Nat} (h : k < A.length) : A.take (k + 1) = A.take k ++ [A.getD k 0] := by
  rw [List.take_succ, List.getD_eq_getElem?_getD, List.getElem?_eq_getElem h]
  rfl
theorem hd_X5_key : yX5_key.cls ≠ "java/lang/invoke/MethodHandle" ∧ yX5_key.cls ≠ "java/lang/invoke/VarHandle" ∧ (parseMethodDescriptor yX5_key.desc).map (fun d => d.parameters.length) = some 1 := ⟨by decide, by decide, by decide +kernel⟩
theorem hd_X5_size : yX5_size.cls ≠ "java/lang/invoke/MethodHandle" ∧ yX5_size.cls ≠ "java/lang/invoke/VarHandle" ∧ (parseMethodDescriptor yX5_size.desc).map (fun d => d.parameters.length) = some 0 := ⟨by decide, by decide, by decide +kernel⟩
theorem hd_X5_value : yX5_value.cls ≠ "java/lang/invoke/MethodHandle" ∧ yX5_value.cls ≠ "java/lang/invoke/VarHandle" ∧ (parseMethodDescriptor yX5_value.desc).map (fun d => d.parameters.length) = some 1 := ⟨by decide, by decide, by decide +kernel⟩
abbrev rmX10_stringLength : Room := { frames := 2, cells := 0, slots := 0, locals := 68 }
theorem iX10_stringLength_X10 : ∀ w ∈ wsX100, w ∈ wsX10_stringLength := by decide +kernel
set_option maxHeartbeats 4000000 in
set_option maxRecDepth 100000 in
theorem c_X10_stringLength (E : hk_E) (l : Launch) (H0 : Heap) {Z : Nat → Prop} {ho ts : Nat} {li : Nat → Nat} {rr : Nat → Nat → Nat} {G : hG} {R : hR} {cn : Nat → Nat} {sc : Nat → Int32} {μ : Nat → Nat → Int32} (hW : HW E Z (ho, li, rr, ts) G R (cn, sc, μ) H0) {L : List Nat} (hc : hcur R μ L) {P : Int32} (hP : 0 < P)  : hk_M E l yX10_stringLength wsX10_stringLength rmX10_stringLength (fun q => q = rr 1 0 ∨ q = rr 1 1 ∨ q = rr 1 2) [.ref ho, .int P] H0 (fun z H1 => z = some (.int (sp_str μ L P)) ∧ (∃ (n9 : Nat) (k9 v9 : Nat → Int32), HW E Z (ho, li, rr, ts) G (va_up R.1 1 n9, va_up R.2.1 1 k9, va_up R.2.2.1 1 v9, R.2.2.2) (cn, sc, μ) H1) ∧ H1.size = H0.size) := by
  refine hk_M.ofW (cc := cX10_stringLength) (maxL := 6) (ret := (some .int)) (by decide +kernel) rfl (Nat.le_of_ble_eq_true rfl) ?_
  intro p e s m args below meth c ls Q hQ X hr hlk hnm K hs9 hS hl
  obtain ⟨hx, hb, hml, hown, hts⟩ := id X
  have hAE : ∀ q, (fun q => q = rr 1 0 ∨ q = rr 1 1 ∨ q = rr 1 2) q → hk_A E q := fun q h => by rcases h with h | h | h <;> rw [h]; exact (HW.rx hW 1 (by decide)).1.1; exact (HW.rx hW 1 (by decide)).1.2.1; exact (HW.rx hW 1 (by decide)).1.2.2
  have hl : lv_has ls 6 [(0, .ref ho), (1, .int P)] := hl
  have hR0 : R.1 0 ≤ 80 := (HW.r0 hW).2
  refine lv_aload_n hx hb dX10_stringLength_0 rfl (lv_at hl 0 rfl) ?_
  refine hk_get (ref := "LightcurveHouse") (v := .ref (rr 1 0)) X K (HW.o hW) rfl iX10_stringLength_X10 9 (by decide) (by decide +kernel) (fun _ h => h) rfl dX10_stringLength_1 ?_
  refine hk_callV 0 (As := []) (rest := []) X K hAE hS hl.1 (HW.r1 hW).1.1 rfl (c_X5_clear E l H0 (HW.r1 hW).1 (HW.rx hW 1 (by decide)).1.1 (HW.rx hW 1 (by decide)).2.1.1 (HW.rx hW 1 (by decide)).2.1.2.1) (fun q h => Or.inl h) gX10_stringLength_X5_clear rfl ⟨rfl, hd_X5_clear⟩ rfl ⟨⟨(Nat.le_of_ble_eq_true rfl), (Nat.le_of_ble_eq_true rfl)⟩, (Nat.le_of_ble_eq_true rfl), (Nat.le_of_ble_eq_true rfl)⟩ rfl (Nat.le_of_ble_eq_true rfl) dX10_stringLength_4 (fun v9 H1 locsH1 hp hS hzH1 hkH1 => ?_)
  obtain ⟨hv, hrw, hszH1⟩ := hp
  subst hv
  have hW := HW.row hW 1 (by decide) hrw (Nat.zero_le _) (fun q h1 h2 => hkH1 q h1 (fun e => h2 (Or.inl e)))
  refine lv_iconst (v := 0) hx hb dX10_stringLength_7 (by decide) ?_
  refine lv_topi (fun z_2 ez_2 => ?_)
  have ez_2 : z_2 = nI 0 := ez_2
  subst ez_2
  refine lv_istore_n (lv' := [(2, .int (nI 0)), (0, .ref ho), (1, .int P)]) hx hb dX10_stringLength_8 rfl hl (by decide) rfl (fun ls hl => ?_)
  have L9 : ∀ (n8 : Nat) (k n9 : Nat) (k9 v9 : Nat → Int32) (H : Heap) (locs : List Loc), R.1 0 + 1 ≤ k + n8 → (va_S (fun q => q = rr 1 0 ∨ q = rr 1 1 ∨ q = rr 1 2) s.heap H locs ∧ k ≤ R.1 0 ∧ HW E Z (ho, li, rr, ts) G (va_up R.1 1 n9, va_up R.2.1 1 k9, va_up R.2.2.1 1 v9, R.2.2.2) (cn, sc, μ) H ∧ row_up n9 k9 ∧ rowL n9 k9 v9 (sSort (fun a => rmd (sp_time μ a) P) [] ((sSort (sp_time μ) [] L).take k)) (fun a => rmd (sp_time μ a) P) (sp_light μ) ∧ H.size = H0.size) → ∀ (ls : Array Slot), lv_has ls 6 [(2, .int (nI k)), (0, .ref ho), (1, .int P)] → W p l e rmX10_stringLength s m args below meth c H locs 0 0 Q (F0 m 9 ls []) := by
    intro n8
    induction n8 with
    | zero =>
      intro k n9 k9 v9 H locs hm hinv ls hl
      obtain ⟨hS, hinv⟩ := hinv
      obtain ⟨hi1, hW, hup, hrl, hz9⟩ := hinv
      have hr9 : hk_row E (rr 1 0) (rr 1 1) (rr 1 2) 80 n9 k9 v9 H ∧ n9 ≤ 80 := HW.r1 hW
      have hr0 : hk_row E (rr 0 0) (rr 0 1) (rr 0 2) 80 (R.1 0) (R.2.1 0) (R.2.2.1 0) H ∧ (R.1 0) ≤ 80 := by have q := HW.r0 hW; exact q
      have hlt9 : n9 ≤ k := by rw [hrl.1, sSort_len, List.length_take]; exact Nat.min_le_left _ _
      exact absurd hm (by omega)
    | succ n8 ih =>
      intro k n9 k9 v9 H locs hm hinv ls hl
      obtain ⟨hS, hinv⟩ := hinv
      obtain ⟨hi1, hW, hup, hrl, hz9⟩ := hinv
      have hr9 : hk_row E (rr 1 0) (rr 1 1) (rr 1 2) 80 n9 k9 v9 H ∧ n9 ≤ 80 := HW.r1 hW
      have hr0 : hk_row E (rr 0 0) (rr 0 1) (rr 0 2) 80 (R.1 0) (R.2.1 0) (R.2.2.1 0) H ∧ (R.1 0) ≤ 80 := by have q := HW.r0 hW; exact q
      have hlt9 : n9 ≤ k := by rw [hrl.1, sSort_len, List.length_take]; exact Nat.min_le_left _ _
      refine lv_iload_n hx hb dX10_stringLength_9 rfl (lv_at hl 0 rfl) ?_
      refine lv_aload_n hx hb dX10_stringLength_10 rfl (lv_at hl 1 rfl) ?_
      refine hk_get (ref := "LightcurveHouse") (v := .ref (rr 0 0)) X K (HW.o hW) rfl iX10_stringLength_X10 8 (by decide) (by decide +kernel) (fun _ h => h) rfl dX10_stringLength_11 ?_
      refine hk_callV 0 (As := []) (rest := [.int (nI k)]) X K hAE hS hl.1 (HW.r0 hW).1.1 rfl (c_X5_size E l H hr0.1) (fun _ h => h.elim) gX10_stringLength_X5_size rfl ⟨rfl, hd_X5_size⟩ rfl ⟨⟨(Nat.le_of_ble_eq_true rfl), (Nat.le_of_ble_eq_true rfl)⟩, (Nat.le_of_ble_eq_true rfl), (Nat.le_of_ble_eq_true rfl)⟩ rfl (Nat.le_of_ble_eq_true rfl) dX10_stringLength_14 (fun v9 H3 locsH3 hp hS hzH3 hkH3 => ?_)
      obtain ⟨hv, hh⟩ := hp
      subst hv; subst hh
      refine lv_icmp_ge (tgt := 53) hx hb dX10_stringLength_17 (by decide) (fun c_17 => ?_) (fun c_17 => ?_)
      · have hk : R.1 0 ≤ k := (nI_leI (by omega) (by omega)).mp c_17
        refine lv_iconst (v := 0) hx hb dX10_stringLength_53 (by decide) ?_
        refine lv_istore_n (lv' := [(2, .int 0), (0, .ref ho), (1, .int P)]) hx hb dX10_stringLength_54 rfl hl (by decide) rfl (fun ls hl => ?_)
        refine lv_aload_n hx hb dX10_stringLength_55 rfl (lv_at hl 1 rfl) ?_
        refine hk_get (ref := "LightcurveHouse") (v := .ref (rr 1 0)) X K (HW.o hW) rfl iX10_stringLength_X10 9 (by decide) (by decide +kernel) (fun _ h => h) rfl dX10_stringLength_56 ?_
        refine lv_aload_n hx hb dX10_stringLength_59 rfl (lv_at hl 1 rfl) ?_
        refine hk_get (ref := "LightcurveHouse") (v := .ref (rr 1 0)) X K (HW.o hW) rfl iX10_stringLength_X10 9 (by decide) (by decide +kernel) (fun _ h => h) rfl dX10_stringLength_60 ?_
        refine hk_callV 0 (As := []) (rest := [.ref (rr 1 0)]) X K hAE hS hl.1 (HW.r1 hW).1.1 rfl (c_X5_size E l H hr9.1) (fun _ h => h.elim) gX10_stringLength_X5_size rfl ⟨rfl, hd_X5_size⟩ rfl ⟨⟨(Nat.le_of_ble_eq_true rfl), (Nat.le_of_ble_eq_true rfl)⟩, (Nat.le_of_ble_eq_true rfl), (Nat.le_of_ble_eq_true rfl)⟩ rfl (Nat.le_of_ble_eq_true rfl) dX10_stringLength_63 (fun v9 H4 locsH4 hp hS hzH4 hkH4 => ?_)
        obtain ⟨hv, hh⟩ := hp
        subst hv; subst hh
        refine lv_iconst (v := 1) hx hb dX10_stringLength_66 (by decide) ?_
        refine lv_isub hx hb dX10_stringLength_67 ?_
        refine hk_callV 1 (As := [.int ((nI n9) - 1)]) (rest := []) X K hAE hS hl.1 (HW.r1 hW).1.1 rfl (c_X5_value E l H hr9.1 hr9.2 (by decide) ((nI n9) - 1)) (fun _ h => h.elim) gX10_stringLength_X5_value rfl ⟨rfl, hd_X5_value⟩ rfl ⟨⟨(Nat.le_of_ble_eq_true rfl), (Nat.le_of_ble_eq_true rfl)⟩, (Nat.le_of_ble_eq_true rfl), (Nat.le_of_ble_eq_true rfl)⟩ rfl (Nat.le_of_ble_eq_true rfl) dX10_stringLength_68 (fun v9 H5 locsH5 hp hS hzH5 hkH5 => ?_)
        obtain ⟨hv, hh⟩ := hp
        subst hv; subst hh
        refine lv_topi (fun b0 eb0 => ?_)
        refine lv_istore_n (lv' := [(3, .int b0), (2, .int 0), (0, .ref ho), (1, .int P)]) hx hb dX10_stringLength_71 rfl hl (by decide) rfl (fun ls hl => ?_)
        refine lv_iconst (v := 0) hx hb dX10_stringLength_72 (by decide) ?_
        refine lv_istore (lv' := [(4, .int 0), (3, .int b0), (2, .int 0), (0, .ref ho), (1, .int P)]) hx hb dX10_stringLength_73 hl (by decide) rfl (fun ls hl => ?_)
        have L75 : ∀ (n7 : Nat) (k7 : Nat) (s7 b7 : Int32) (locs : List Loc), n9 + 1 ≤ k7 + n7 → (va_S (fun q => q = rr 1 0 ∨ q = rr 1 1 ∨ q = rr 1 2) s.heap H locs ∧ k7 ≤ n9 ∧ s7 = hoS v9 n9 k7 ∧ (k7 = 0 → b7 = row_get n9 v9 (nI n9 - 1)) ∧ (¬ k7 = 0 → b7 = v9 (k7 - 1))) → ∀ (ls : Array Slot), lv_has ls 6 [(4, .int (nI k7)), (2, .int s7), (3, .int b7), (0, .ref ho), (1, .int P)] → W p l e rmX10_stringLength s m args below meth c H locs 0 0 Q (F0 m 75 ls []) := by
          intro n7
          induction n7 with
          | zero =>
            intro k7 s7 b7 locs hm7 hinv7 ls hl
            obtain ⟨hS, hinv7⟩ := hinv7
            obtain ⟨hi7, hs7, hb7, hb8⟩ := hinv7
            have hb7 : k7 = 0 → k7 < n9 → b7 = v9 (n9 - 1) := fun g h => by rw [hb7 g, show nI n9 - 1 = nI (n9 - 1) from by rw [show (1 : Int32) = nI 1 from rfl, pk_sub (by omega)], row_get_in (by omega) (by omega)]
            exact absurd hm7 (by omega)
          | succ n7 ih7 =>
            intro k7 s7 b7 locs hm7 hinv7 ls hl
            obtain ⟨hS, hinv7⟩ := hinv7
            obtain ⟨hi7, hs7, hb7, hb8⟩ := hinv7
            have hb7 : k7 = 0 → k7 < n9 → b7 = v9 (n9 - 1) := fun g h => by rw [hb7 g, show nI n9 - 1 = nI (n9 - 1) from by rw [show (1 : Int32) = nI 1 from rfl, pk_sub (by omega)], row_get_in (by omega) (by omega)]
            refine lv_iload hx hb dX10_stringLength_75 (lv_at hl 0 rfl) ?_
            refine lv_aload_n hx hb dX10_stringLength_77 rfl (lv_at hl 3 rfl) ?_
            refine hk_get (ref := "LightcurveHouse") (v := .ref (rr 1 0)) X K (HW.o hW) rfl iX10_stringLength_X10 9 (by decide) (by decide +kernel) (fun _ h => h) rfl dX10_stringLength_78 ?_
            refine hk_callV 0 (As := []) (rest := [.int (nI k7)]) X K hAE hS hl.1 (HW.r1 hW).1.1 rfl (c_X5_size E l H hr9.1) (fun _ h => h.elim) gX10_stringLength_X5_size rfl ⟨rfl, hd_X5_size⟩ rfl ⟨⟨(Nat.le_of_ble_eq_true rfl), (Nat.le_of_ble_eq_true rfl)⟩, (Nat.le_of_ble_eq_true rfl), (Nat.le_of_ble_eq_true rfl)⟩ rfl (Nat.le_of_ble_eq_true rfl) dX10_stringLength_81 (fun v9 H6 locsH6 hp hS hzH6 hkH6 => ?_)
            obtain ⟨hv, hh⟩ := hp
            subst hv; subst hh
            refine lv_icmp_ge (tgt := 117) hx hb dX10_stringLength_84 (by decide) (fun c_84 => ?_) (fun c_84 => ?_)
            · have hk7 : n9 ≤ k7 := (nI_leI (by omega) (by omega)).mp c_84
              refine lv_iload_n hx hb dX10_stringLength_117 rfl (lv_at hl 1 rfl) ?_
              exact hk_iret X hr hlk hQ hS (Nat.le_of_ble_eq_true rfl) (Nat.le_of_ble_eq_true rfl) dX10_stringLength_118 (⟨by rw [hs7, show k7 = n9 by omega, hrl.1, sSort_len, List.take_of_length_le (by rw [← hc.1.1]; omega), sSort_len]; exact congrArg some (congrArg Value.int (hstr_eq hc.2.2 (by rw [← hc.len]; omega) (fun i hi => by rw [List.take_of_length_le (by rw [← hc.1.1]; omega)] at hrl; exact (hrl.2 i (by rw [sSort_len, sSort_len]; exact hi)).2))), ⟨n9, k9, v9, hW⟩, hz9⟩)
            · have hk7 : k7 < n9 := Nat.lt_of_not_le (fun h => c_84 (nI_le h (by omega)))
              refine lv_aload_n hx hb dX10_stringLength_87 rfl (lv_at hl 3 rfl) ?_
              refine hk_get (ref := "LightcurveHouse") (v := .ref (rr 1 0)) X K (HW.o hW) rfl iX10_stringLength_X10 9 (by decide) (by decide +kernel) (fun _ h => h) rfl dX10_stringLength_88 ?_
              refine lv_iload hx hb dX10_stringLength_91 (lv_at hl 0 rfl) ?_
              refine hk_callV 1 (As := [.int (nI k7)]) (rest := []) X K hAE hS hl.1 (HW.r1 hW).1.1 rfl (c_X5_value E l H hr9.1 hr9.2 (by decide) (nI k7)) (fun _ h => h.elim) gX10_stringLength_X5_value rfl ⟨rfl, hd_X5_value⟩ rfl ⟨⟨(Nat.le_of_ble_eq_true rfl), (Nat.le_of_ble_eq_true rfl)⟩, (Nat.le_of_ble_eq_true rfl), (Nat.le_of_ble_eq_true rfl)⟩ rfl (Nat.le_of_ble_eq_true rfl) dX10_stringLength_93 (fun v9 H7 locsH7 hp hS hzH7 hkH7 => ?_)
              obtain ⟨hv, hh⟩ := hp
              subst hv; subst hh
              rw [row_get_in hk7 (by omega)]
              refine lv_istore (lv' := [(5, .int (v9 k7)), (4, .int (nI k7)), (2, .int s7), (3, .int b7), (0, .ref ho), (1, .int P)]) hx hb dX10_stringLength_96 hl (by decide) rfl (fun ls hl => ?_)
              refine lv_iload_n hx hb dX10_stringLength_98 rfl (lv_at hl 2 rfl) ?_
              refine lv_iload hx hb dX10_stringLength_99 (lv_at hl 0 rfl) ?_
              refine lv_iload_n hx hb dX10_stringLength_101 rfl (lv_at hl 3 rfl) ?_
              refine lv_isub hx hb dX10_stringLength_102 ?_
              refine va_mabs (rest := [.int s7]) hx hb (by rw [hml]; exact hl.1.symm) hown (hts (.methodLink RX10 277 Lib.Math.abs.name) (by decide +kernel)) (hts (.static Lib.Math.abs.name) (by decide +kernel)) (hts (.initialized "java/lang/Math") (by decide +kernel)) (hts (.code Lib.Math.abs.name Lib.Math.abs.code 1 (some .int)) (by decide +kernel)) (Nat.le_of_ble_eq_true rfl) (Nat.le_of_ble_eq_true rfl) (Nat.zero_le _) (Nat.zero_le _) dX10_stringLength_103 ?_
              refine lv_topi (fun ab eab => ?_)
              refine lv_iadd hx hb dX10_stringLength_106 ?_
              refine lv_topi (fun s9 es9 => ?_)
              refine lv_istore_n (lv' := [(2, .int s9), (5, .int (v9 k7)), (4, .int (nI k7)), (3, .int b7), (0, .ref ho), (1, .int P)]) hx hb dX10_stringLength_107 rfl hl (by decide) rfl (fun ls hl => ?_)
              refine lv_iload hx hb dX10_stringLength_108 (lv_at hl 1 rfl) ?_
              refine lv_istore_n (lv' := [(3, .int (v9 k7)), (2, .int s9), (5, .int (v9 k7)), (4, .int (nI k7)), (0, .ref ho), (1, .int P)]) hx hb dX10_stringLength_110 rfl hl (by decide) rfl (fun ls hl => ?_)
              obtain ⟨q11, eq11⟩ : ∃ y : Int32, y = (nI k7) + 1 := ⟨_, rfl⟩
              refine lv_iinc (v := q11) (lv' := [(4, .int q11), (3, .int (v9 k7)), (2, .int s9), (5, .int (v9 k7)), (0, .ref ho), (1, .int P)]) hx hb dX10_stringLength_111 hl (k := 3) rfl (by rw [eq11]; rfl) (by decide) rfl (fun ls hl => ?_)
              rw [nI_1] at eq11
              subst eq11
              refine lv_goto (tgt := 75) hx hb dX10_stringLength_114 (by decide) ?_
              exact ih7 (k7 + 1) s9 (v9 k7) _ (by omega) ⟨hS, by omega, by
                rw [es9, eab, absd_z, hs7, hoS]
                by_cases g : k7 = 0
                · rw [if_pos g, hb7 g hk7]
                · rw [if_neg g, hb8 g], fun h => absurd h (by omega), fun _ => by rw [Nat.add_sub_cancel]⟩ _ (lv_sub hl [0, 2, 1, 4, 5] rfl)
        exact L75 (n9 + 1) 0 0 b0 _ (by omega) ⟨hS, Nat.zero_le _, rfl, fun _ => eb0, fun h => absurd rfl h⟩ _ (lv_sub hl [0, 2, 1, 3, 4] rfl)
      · have hk : k < R.1 0 := Nat.lt_of_not_le (fun h => c_17 (nI_le h (by omega)))
        refine lv_aload_n hx hb dX10_stringLength_20 rfl (lv_at hl 1 rfl) ?_
        refine hk_get (ref := "LightcurveHouse") (v := .ref (rr 1 0)) X K (HW.o hW) rfl iX10_stringLength_X10 9 (by decide) (by decide +kernel) (fun _ h => h) rfl dX10_stringLength_21 ?_
        refine lv_aload_n hx hb dX10_stringLength_24 rfl (lv_at hl 1 rfl) ?_
        refine hk_get (ref := "LightcurveHouse") (v := .ref (rr 0 0)) X K (HW.o hW) rfl iX10_stringLength_X10 8 (by decide) (by decide +kernel) (fun _ h => h) rfl dX10_stringLength_25 ?_
        refine lv_iload_n hx hb dX10_stringLength_28 rfl (lv_at hl 0 rfl) ?_
        refine hk_callV 1 (As := [.int (nI k)]) (rest := [.ref (rr 1 0)]) X K hAE hS hl.1 (HW.r0 hW).1.1 rfl (c_X5_key E l H hr0.1 hr0.2 (by decide) (nI k)) (fun _ h => h.elim) gX10_stringLength_X5_key rfl ⟨rfl, hd_X5_key⟩ rfl ⟨⟨(Nat.le_of_ble_eq_true rfl), (Nat.le_of_ble_eq_true rfl)⟩, (Nat.le_of_ble_eq_true rfl), (Nat.le_of_ble_eq_true rfl)⟩ rfl (Nat.le_of_ble_eq_true rfl) dX10_stringLength_29 (fun v9 H8 locsH8 hp hS hzH8 hkH8 => ?_)
        obtain ⟨hv, hh⟩ := hp
        rw [row_get_in (show k < R.1 0 by omega) (by omega), (hc.1.2 k (by rw [← hc.1.1]; omega)).1] at hv
        subst hv; subst hh
        refine lv_iload_n hx hb dX10_stringLength_32 rfl (lv_at hl 2 rfl) ?_
        refine hk_callS 2 (As := [.int (sp_time μ ((sSort (sp_time μ) [] L).getD k 0)), .int P]) (rest := [.ref (rr 1 0)]) X K hAE hS hl.1 (c_X10_remainder E l H (n := sp_time μ ((sSort (sp_time μ) [] L).getD k 0)) (d := P) hP) (fun _ h => h.elim) gX10_stringLength_X10_remainder rfl hd_X10_remainder rfl ⟨⟨(Nat.le_of_ble_eq_true rfl), (Nat.le_of_ble_eq_true rfl)⟩, (Nat.le_of_ble_eq_true rfl), (Nat.le_of_ble_eq_true rfl)⟩ rfl (Nat.le_of_ble_eq_true rfl) dX10_stringLength_33 (fun v9 H9 locsH9 hp hS hzH9 hkH9 => ?_)
        obtain ⟨hv, hh⟩ := hp
        subst hv; subst hh
        refine lv_aload_n hx hb dX10_stringLength_36 rfl (lv_at hl 1 rfl) ?_
        refine hk_get (ref := "LightcurveHouse") (v := .ref (rr 0 0)) X K (HW.o hW) rfl iX10_stringLength_X10 8 (by decide) (by decide +kernel) (fun _ h => h) rfl dX10_stringLength_37 ?_
        refine lv_iload_n hx hb dX10_stringLength_40 rfl (lv_at hl 0 rfl) ?_
        refine hk_callV 1 (As := [.int (nI k)]) (rest := [.int (rmd (sp_time μ ((sSort (sp_time μ) [] L).getD k 0)) P), .ref (rr 1 0)]) X K hAE hS hl.1 (HW.r0 hW).1.1 rfl (c_X5_value E l H hr0.1 hr0.2 (by decide) (nI k)) (fun _ h => h.elim) gX10_stringLength_X5_value rfl ⟨rfl, hd_X5_value⟩ rfl ⟨⟨(Nat.le_of_ble_eq_true rfl), (Nat.le_of_ble_eq_true rfl)⟩, (Nat.le_of_ble_eq_true rfl), (Nat.le_of_ble_eq_true rfl)⟩ rfl (Nat.le_of_ble_eq_true rfl) dX10_stringLength_41 (fun v9 H10 locsH10 hp hS hzH10 hkH10 => ?_)
        obtain ⟨hv, hh⟩ := hp
        rw [row_get_in (show k < R.1 0 by omega) (by omega), (hc.1.2 k (by rw [← hc.1.1]; omega)).2] at hv
        subst hv; subst hh
        refine hk_callV 2 (As := [.int (rmd (sp_time μ ((sSort (sp_time μ) [] L).getD k 0)) P), .int (sp_light μ ((sSort (sp_time μ) [] L).getD k 0))]) (rest := []) X K hAE hS hl.1 (HW.r1 hW).1.1 rfl (c_X5_add E l H hr9.1 (show n9 < 80 by omega) (by decide) hup (HW.rx hW 1 (by decide)).1.1 (HW.rx hW 1 (by decide)).1.2.1 (HW.rx hW 1 (by decide)).1.2.2 (HW.rx hW 1 (by decide)).2.1.1 (HW.rx hW 1 (by decide)).2.1.2.1 (HW.rx hW 1 (by decide)).2.1.2.2 (rmd (sp_time μ ((sSort (sp_time μ) [] L).getD k 0)) P) (sp_light μ ((sSort (sp_time μ) [] L).getD k 0))) (fun q h => h) gX10_stringLength_X5_add rfl ⟨rfl, hd_X5_add⟩ rfl ⟨⟨(Nat.le_of_ble_eq_true rfl), (Nat.le_of_ble_eq_true rfl)⟩, (Nat.le_of_ble_eq_true rfl), (Nat.le_of_ble_eq_true rfl)⟩ rfl (Nat.le_of_ble_eq_true rfl) dX10_stringLength_44 (fun v9 H11 locsH11 hp hS hzH11 hkH11 => ?_)
        obtain ⟨hv, ⟨ap, k2, v2, hat, hrw, hkv2⟩, hszH11⟩ := hp
        subst hv
        have hW := HW.row2 hW (by decide) hrw (by show n9 + 1 ≤ 80; omega) (fun q h1 h2 => hkH11 q h1 h2)
        obtain ⟨q47, eq47⟩ : ∃ y : Int32, y = (nI k) + 1 := ⟨_, rfl⟩
        refine lv_iinc (v := q47) (lv' := [(2, .int q47), (0, .ref ho), (1, .int P)]) hx hb dX10_stringLength_47 hl (k := 0) rfl (by rw [eq47]; rfl) (by decide) rfl (fun ls hl => ?_)
        rw [nI_1] at eq47
        subst eq47
        refine lv_goto (tgt := 9) hx hb dX10_stringLength_50 (by decide) ?_
        exact ih (k + 1) (n9 + 1) k2 v2 _ _ (by omega) ⟨hS, by omega, hW, row_up_cong (row_up_ins hup hat) (fun i hi => (hkv2 i (by omega)).1), by rw [take_getD (by rw [← hc.1.1]; exact hk), sSort_snoc]; exact rowL_ins hrl hat hkv2, by omega⟩ _ (lv_sub hl [0, 1, 2] rfl)
  exact L9 (R.1 0 + 1) 0 0 (R.2.1 1) (R.2.2.1 1) _ _ (by omega) ⟨hS, Nat.zero_le _, hW, fun i j _ h => absurd h (Nat.not_lt_zero _), ⟨rfl, fun i h => absurd h (Nat.not_lt_zero _)⟩, by omega⟩ _ (lv_sub hl [0, 1, 2] rfl)

