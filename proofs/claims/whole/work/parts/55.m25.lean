theorem agr.mu_up {S : mS} {cn : Nat → Nat} {sc : Nat → Int32} {μ : Nat → Nat → Int32} {f : Nat → Int32} (k : Nat) (h : agr S (cn, sc, μ)) (hk : 33 ≤ k) : agr S (cn, sc, va_up μ k f) := fun j hj => ⟨(h j hj).1, (h j hj).2.1, (h j hj).2.2.trans (if_neg (show ¬ j = k by omega)).symm⟩
theorem agr.cn_up {S : mS} {cn : Nat → Nat} {sc : Nat → Int32} {μ : Nat → Nat → Int32} {n : Nat} (k : Nat) (h : agr S (cn, sc, μ)) (hk : 33 ≤ k) : agr S (va_up cn k n, sc, μ) := fun j hj => ⟨(h j hj).1.trans (if_neg (show ¬ j = k by omega)).symm, (h j hj).2.1, (h j hj).2.2⟩
theorem agr.cn34 {S : mS} {cn : Nat → Nat} {sc : Nat → Int32} {μ : Nat → Nat → Int32} {m n : Nat} (h : agr S (va_up cn 34 m, sc, μ)) : agr S (va_up cn 34 n, sc, μ) := by
  have h9 := h.cn_up (n := n) 34 (by decide)
  rw [va_up2] at h9
  exact h9
theorem hf_agr2 {S T : mS} (h : agr S T) {e : Int32} : some (Value.int (sp_hf T e)) = some (Value.int (sp_hf S e)) := by rw [hf_agr h]
theorem md_agr2 {S T : mS} (h : agr S T) {e : Int32} : some (Value.int (mdS T e)) = some (Value.int (mdS S e)) := by rw [mdS_agr h]
/-- whether a star's entry is laid, and its modulus -/
def laidS (S : mS) (j : Nat) : Int32 := if S.2.2 3 j = nI j ∧ ¬ sp_hf S (nI j) = 0 then 1 else 0
def modS (S : mS) (j : Nat) : Int32 := if laidS S j = 0 then 0 else mdS S (nI j)
theorem nr_step {a b f g : Nat → Int32} {k : Nat} {v w : Int32} (h : ∀ j, j < k → a j = f j ∧ b j = g j) (hv : v = f k) (hw : w = g k) : ∀ j, j < k + 1 → upd a k v j = f j ∧ upd b k w j = g j := by
  intro j hj
  unfold upd
  by_cases e : j = k
  · subst e
    rw [if_pos rfl, if_pos rfl]
    exact ⟨hv, hw⟩
  · rw [if_neg e, if_neg e]
    exact h j (by omega)
/-- how many of the first n stars stand ahead of star i -/
def cntN (a b : Nat → Int32) (i : Nat) : Nat → Int32
  | 0 => 0
  | j + 1 => cntN a b i j + (if ¬ a j = 0 ∧ (b j < b i ∨ (b j = b i ∧ nI j < nI i)) then 1 else 0)
/-- the first star from i on that is laid and has as many ahead as asked -/
def nrA (a b : Nat → Int32) (N : Nat) (rank : Int32) : Nat → Nat → Int32
  | 0, _ => -1
  | f + 1, i => if ¬ a i = 0 ∧ cntN a b i N = rank then nI i else nrA a b N rank f (i + 1)
theorem cntN_cg {a b a' b' : Nat → Int32} {N i : Nat} (h : ∀ j, j < N → a j = a' j ∧ b j = b' j) (hi : i < N) (n : Nat) (hn : n ≤ N) : cntN a b i n = cntN a' b' i n := by
  induction n with
  | zero => rfl
  | succ n ih => rw [cntN, cntN, ih (by omega), (h n (by omega)).1, (h n (by omega)).2, (h i hi).2]
theorem nrA_cg {a b a' b' : Nat → Int32} {N : Nat} {rank : Int32} (h : ∀ j, j < N → a j = a' j ∧ b j = b' j) (f : Nat) : ∀ i, f + i = N → nrA a b N rank f i = nrA a' b' N rank f i := by
  induction f with
  | zero => intro i _; rfl
  | succ f ih =>
    intro i hi
    rw [nrA, nrA, ih (i + 1) (by omega), (h i (by omega)).1, cntN_cg h (by omega) N (Nat.le_refl _)]
def cd_nearest (p0 : Int32) (S : mS) : Int32 := if 0 ≤ p0 then 0 else 1
def an_nearest (p0 : Int32) (S : mS) : Int32 := nrA (laidS S) (modS S) (S.1 1) p0 (S.1 1) 0
def st_nearest (p0 : Int32) (S : mS) : mS := S
abbrev rmX11_nearest : Room := { frames := 5, cells := 0, slots := 0, locals := 109 }
theorem iX11_nearest_X11 : ∀ w ∈ wsX110, w ∈ wsX11_nearest := by decide +kernel
set_option maxHeartbeats 4000000 in
set_option maxRecDepth 100000 in
theorem c_X11_nearest (E : hk_E) (l : Launch) (H0 : Heap) {mo : Nat} {am : Nat → Nat} {Z : Nat → Prop} {cn : Nat → Nat} {sc : Nat → Int32} {μ : Nat → Nat → Int32} (hM : MW E mo am Z cn sc μ H0) (hZ : ∀ q, Z q → hk_A E q) {p0 : Int32} (hI : Inv (cn, sc, μ))  : hk_M E l yX11_nearest wsX11_nearest rmX11_nearest (Z) [.ref mo, .int p0] H0 (mpost E mo am Z (cd_nearest p0 (cn, sc, μ)) (an_nearest p0 (cn, sc, μ)) (cn, sc, μ) (st_nearest p0 (cn, sc, μ))) := by
  refine hk_M.ofW (cc := cX11_nearest) (maxL := 5) (ret := (some .int)) (by decide +kernel) rfl (Nat.le_of_ble_eq_true rfl) ?_
  intro p e s m args below meth c ls Q hQ X hr hlk hnm K hs9 hS hl
  obtain ⟨hx, hb, hml, hown, hts⟩ := id X
  have hAE : ∀ q, (Z) q → hk_A E q := hZ
  have hl : lv_has ls 5 [(0, .ref mo), (1, .int p0)] := hl
  have hnl := hI.1.2.2.1
  have hns := hI.1.1
  have hnp := hI.1.2.1
  dsimp only at hnl hns hnp
  refine lv_aload_n hx hb dX11_nearest_0 rfl (lv_at hl 0 rfl) ?_
  refine lv_iload_n hx hb dX11_nearest_1 rfl (lv_at hl 1 rfl) ?_
  refine lv_if_ge (tgt := 9) hx hb dX11_nearest_2 (by decide) (fun c_2 => ?_) (fun c_2 => ?_)
  · refine lv_iconst (v := 0) hx hb dX11_nearest_9 (by decide) ?_
    refine hk_put (ref := "LightcurveHouseModel") X K hM.1 rfl iX11_nearest_X11 tyX11 tyX11_ok nmX11 hS hM.2.2.2.2.1 33 (by decide) (by decide +kernel) (fun _ h => h) (by decide +kernel) rfl rfl (Nat.le_of_ble_eq_true rfl) dX11_nearest_10 (fun H1 locsH1 hOH1 hzH1 hqH1 hS => ?_)
    rw [mf_33] at hOH1
    have hM := MW.obj hM hOH1 hqH1
    refine lv_iconst (v := 0) hx hb dX11_nearest_13 (by decide) ?_
    refine lv_topi (fun z_2 ez_2 => ?_)
    have ez_2 : z_2 = nI 0 := ez_2
    subst ez_2
    refine lv_istore_n (lv' := [(2, .int (nI 0)), (0, .ref mo), (1, .int p0)]) hx hb dX11_nearest_14 rfl hl (by decide) rfl (fun ls hl => ?_)
    have L15 : ∀ (n9 : Nat) (k mm : Nat) (mup : Nat → Nat → Int32) (H : Heap) (locs : List Loc), cn 1 + 1 ≤ k + n9 → (k ≤ cn 1 ∧ MW E mo am Z (va_up cn 34 mm) (va_up sc 33 0) mup H ∧ agr (cn, sc, μ) (va_up cn 34 mm, va_up sc 33 0, mup) ∧ (∀ j, j < k → mup 41 j = laidS (cn, sc, μ) j ∧ mup 40 j = modS (cn, sc, μ) j) ∧ va_S Z s.heap H locs) → ∀ (ls : Array Slot), lv_has ls 5 [(2, .int (nI k)), (0, .ref mo), (1, .int p0)] → W p l e rmX11_nearest s m args below meth c H locs 0 0 Q (F0 m 15 ls []) := by
      intro n9
      induction n9 with
      | zero =>
        intro k mm mup H locs hm hinv ls hl
        obtain ⟨hi1, hM, hag, hall, hS⟩ := hinv
        have hmk3 : μ 3 k = mup 3 k := congrFun (hag 3 (by decide)).2.2 k
        exact absurd hm (by omega)
      | succ n9 ih =>
        intro k mm mup H locs hm hinv ls hl
        obtain ⟨hi1, hM, hag, hall, hS⟩ := hinv
        have hmk3 : μ 3 k = mup 3 k := congrFun (hag 3 (by decide)).2.2 k
        refine lv_iload_n hx hb dX11_nearest_15 rfl (lv_at hl 0 rfl) ?_
        refine lv_aload_n hx hb dX11_nearest_16 rfl (lv_at hl 1 rfl) ?_
        refine hk_get (ref := "LightcurveHouseModel") (v := .int (nI (cn 1))) X K hM.1 rfl iX11_nearest_X11 1 (by decide) (by decide +kernel) (fun _ h => h) rfl dX11_nearest_17 ?_
        refine lv_icmp_ge (tgt := 82) hx hb dX11_nearest_20 (by decide) (fun c_20 => ?_) (fun c_20 => ?_)
        · have hkk : cn 1 ≤ k := (nI_leI (by omega) (by omega)).mp c_20
          have hall1 : ∀ j, j < cn 1 → mup 41 j = laidS (cn, sc, μ) j ∧ mup 40 j = modS (cn, sc, μ) j := fun j hj => hall j (by omega)
          refine lv_iconst (v := 0) hx hb dX11_nearest_82 (by decide) ?_
          refine lv_topi (fun z_3 ez_3 => ?_)
          have ez_3 : z_3 = nI 0 := ez_3
          subst ez_3
          refine lv_istore_n (lv' := [(2, .int (nI 0)), (0, .ref mo), (1, .int p0)]) hx hb dX11_nearest_83 rfl hl (by decide) rfl (fun ls hl => ?_)
          have L84 : ∀ (n7 : Nat) (i : Nat), cn 1 + 1 ≤ i + n7 → (i ≤ cn 1 ∧ nrA (mup 41) (mup 40) (cn 1) p0 (cn 1) 0 = nrA (mup 41) (mup 40) (cn 1) p0 (cn 1 - i) i) → ∀ (ls : Array Slot), lv_has ls 5 [(2, .int (nI i)), (0, .ref mo), (1, .int p0)] → W p l e rmX11_nearest s m args below meth c H locs 0 0 Q (F0 m 84 ls []) := by
            intro n7
            induction n7 with
            | zero =>
              intro i hm7 hinr ls hl
              have hi7 := hinr.1
              exact absurd hm7 (by omega)
            | succ n7 ih7 =>
              intro i hm7 hinr ls hl
              have hi7 := hinr.1
              refine lv_iload_n hx hb dX11_nearest_84 rfl (lv_at hl 0 rfl) ?_
              refine lv_aload_n hx hb dX11_nearest_85 rfl (lv_at hl 1 rfl) ?_
              refine hk_get (ref := "LightcurveHouseModel") (v := .int (nI (cn 1))) X K hM.1 rfl iX11_nearest_X11 1 (by decide) (by decide +kernel) (fun _ h => h) rfl dX11_nearest_86 ?_
              refine lv_icmp_ge (tgt := 197) hx hb dX11_nearest_89 (by decide) (fun c_89 => ?_) (fun c_89 => ?_)
              · have hkk : cn 1 ≤ i := (nI_leI (by omega) (by omega)).mp c_89
                refine lv_aload_n hx hb dX11_nearest_197 rfl (lv_at hl 1 rfl) ?_
                refine hk_get (ref := "LightcurveHouseModel") (v := .int 0) X K hM.1 rfl iX11_nearest_X11 33 (by decide) (by decide +kernel) (fun _ h => h) rfl dX11_nearest_198 ?_
                refine lv_if_ne (tgt := 208) hx hb dX11_nearest_201 (by decide) (fun c_201 => ?_) (fun c_201 => ?_)
                · exact absurd rfl c_201
                · refine lv_iconst (v := (-1)) hx hb dX11_nearest_204 (by decide) ?_
                  refine lv_goto (tgt := 209) hx hb dX11_nearest_205 (by decide) ?_
                  exact hk_iret X hr hlk hQ hS (Nat.le_of_ble_eq_true rfl) (Nat.le_of_ble_eq_true rfl) dX11_nearest_209 (mfin0 hM (by unfold cd_nearest; rw [if_pos c_2]) rfl (by show _ = some (Value.int (nrA (laidS (cn, sc, μ)) (modS (cn, sc, μ)) (cn 1) p0 (cn 1) 0)); rw [← nrA_cg hall1 (cn 1) 0 (by omega), hinr.2, show cn 1 - i = 0 from by omega, nrA]) hag)
              · have hkk : i < cn 1 := Nat.lt_of_not_le (fun h => c_89 (nI_le h (by omega)))
                refine lv_aload_n hx hb dX11_nearest_92 rfl (lv_at hl 1 rfl) ?_
                refine hk_get (ref := "LightcurveHouseModel") (v := .int 0) X K hM.1 rfl iX11_nearest_X11 33 (by decide) (by decide +kernel) (fun _ h => h) rfl dX11_nearest_93 ?_
                refine lv_if_ne (tgt := 197) hx hb dX11_nearest_96 (by decide) (fun c_96 => ?_) (fun c_96 => ?_)
                · exact absurd rfl c_96
                · refine lv_iconst (v := 0) hx hb dX11_nearest_99 (by decide) ?_
                  refine lv_istore_n (lv' := [(3, .int 0), (2, .int (nI i)), (0, .ref mo), (1, .int p0)]) hx hb dX11_nearest_100 rfl hl (by decide) rfl (fun ls hl => ?_)
                  refine lv_iconst (v := 0) hx hb dX11_nearest_101 (by decide) ?_
                  refine lv_istore (lv' := [(4, .int 0), (3, .int 0), (2, .int (nI i)), (0, .ref mo), (1, .int p0)]) hx hb dX11_nearest_102 hl (by decide) rfl (fun ls hl => ?_)
                  have L104 : ∀ (n6 : Nat) (j : Nat), cn 1 + 1 ≤ j + n6 → (j ≤ cn 1) → ∀ (ls : Array Slot), lv_has ls 5 [(4, .int (nI j)), (3, .int (cntN (mup 41) (mup 40) i j)), (2, .int (nI i)), (0, .ref mo), (1, .int p0)] → W p l e rmX11_nearest s m args below meth c H locs 0 0 Q (F0 m 104 ls []) := by
                    intro n6
                    induction n6 with
                    | zero =>
                      intro j hm6 hi6 ls hl
                      exact absurd hm6 (by omega)
                    | succ n6 ih6 =>
                      intro j hm6 hi6 ls hl
                      refine lv_iload hx hb dX11_nearest_104 (lv_at hl 0 rfl) ?_
                      refine lv_aload_n hx hb dX11_nearest_106 rfl (lv_at hl 3 rfl) ?_
                      refine hk_get (ref := "LightcurveHouseModel") (v := .int (nI (cn 1))) X K hM.1 rfl iX11_nearest_X11 1 (by decide) (by decide +kernel) (fun _ h => h) rfl dX11_nearest_107 ?_
                      refine lv_icmp_ge (tgt := 175) hx hb dX11_nearest_110 (by decide) (fun c_110 => ?_) (fun c_110 => ?_)
                      · have hkk : cn 1 ≤ j := (nI_leI (by omega) (by omega)).mp c_110
                        have hjn : j = cn 1 := by omega
                        refine lv_aload_n hx hb dX11_nearest_175 rfl (lv_at hl 3 rfl) ?_
                        refine hk_get (ref := "LightcurveHouseModel") (v := .ref (am 41)) X K hM.1 rfl iX11_nearest_X11 41 (by decide) (by decide +kernel) (fun _ h => h) rfl dX11_nearest_176 ?_
                        refine lv_iload_n hx hb dX11_nearest_179 rfl (lv_at hl 2 rfl) ?_
                        refine hk_zld (f := (mup 41)) X K hM.a41 (vp_in_nI (by omega) (by omega)) dX11_nearest_180 ?_
                        rw [show (mup 41) (nI i).toNatClampNeg = mup 41 i from by rw [nI_clamp (show i < 2 ^ 31 by omega)]]
                        refine lv_if_eq (tgt := 191) hx hb dX11_nearest_181 (by decide) (fun c_181 => ?_) (fun c_181 => ?_)
                        · obtain ⟨i1, ei1⟩ : ∃ y : Int32, y = (nI i) + 1 := ⟨_, rfl⟩
                          refine lv_iinc (v := i1) (lv' := [(2, .int i1), (4, .int (nI j)), (3, .int (cntN (mup 41) (mup 40) i j)), (0, .ref mo), (1, .int p0)]) hx hb dX11_nearest_191 hl (k := 2) rfl (by rw [ei1]; rfl) (by decide) rfl (fun ls hl => ?_)
                          rw [nI_1] at ei1
                          subst ei1
                          refine lv_goto (tgt := 84) hx hb dX11_nearest_194 (by decide) ?_
                          exact ih7 (i + 1) (by omega) ⟨by omega, by rw [hinr.2, show cn 1 - i = (cn 1 - (i + 1)) + 1 from by omega, nrA, if_neg (fun g => g.1 c_181)]⟩ _ (lv_sub hl [0, 3, 4] rfl)
                        · refine lv_iload_n hx hb dX11_nearest_184 rfl (lv_at hl 1 rfl) ?_
                          refine lv_iload_n hx hb dX11_nearest_185 rfl (lv_at hl 4 rfl) ?_
                          refine lv_icmp_ne (tgt := 191) hx hb dX11_nearest_186 (by decide) (fun c_186 => ?_) (fun c_186 => ?_)
                          · obtain ⟨i1, ei1⟩ : ∃ y : Int32, y = (nI i) + 1 := ⟨_, rfl⟩
                            refine lv_iinc (v := i1) (lv' := [(2, .int i1), (4, .int (nI j)), (3, .int (cntN (mup 41) (mup 40) i j)), (0, .ref mo), (1, .int p0)]) hx hb dX11_nearest_191 hl (k := 2) rfl (by rw [ei1]; rfl) (by decide) rfl (fun ls hl => ?_)
                            rw [nI_1] at ei1
                            subst ei1
                            refine lv_goto (tgt := 84) hx hb dX11_nearest_194 (by decide) ?_
                            exact ih7 (i + 1) (by omega) ⟨by omega, by rw [hinr.2, show cn 1 - i = (cn 1 - (i + 1)) + 1 from by omega, nrA, if_neg (fun g => c_186 (by rw [← hjn] at g; exact g.2))]⟩ _ (lv_sub hl [0, 3, 4] rfl)
                          · refine lv_iload_n hx hb dX11_nearest_189 rfl (lv_at hl 2 rfl) ?_
                            exact hk_iret X hr hlk hQ hS (Nat.le_of_ble_eq_true rfl) (Nat.le_of_ble_eq_true rfl) dX11_nearest_190 (mfin0 hM (by unfold cd_nearest; rw [if_pos c_2]) rfl (by show _ = some (Value.int (nrA (laidS (cn, sc, μ)) (modS (cn, sc, μ)) (cn 1) p0 (cn 1) 0)); rw [← nrA_cg hall1 (cn 1) 0 (by omega), hinr.2, show cn 1 - i = (cn 1 - (i + 1)) + 1 from by omega, nrA, if_pos ⟨c_181, by rw [← hjn]; exact c_186⟩]) hag)
                      · have hkk : j < cn 1 := Nat.lt_of_not_le (fun h => c_110 (nI_le h (by omega)))
                        refine lv_iload_n hx hb dX11_nearest_113 rfl (lv_at hl 1 rfl) ?_
                        refine lv_aload_n hx hb dX11_nearest_114 rfl (lv_at hl 3 rfl) ?_
                        refine hk_get (ref := "LightcurveHouseModel") (v := .ref (am 41)) X K hM.1 rfl iX11_nearest_X11 41 (by decide) (by decide +kernel) (fun _ h => h) rfl dX11_nearest_115 ?_
                        refine lv_iload hx hb dX11_nearest_118 (lv_at hl 0 rfl) ?_
                        refine hk_zld (f := (mup 41)) X K hM.a41 (vp_in_nI (by omega) (by omega)) dX11_nearest_120 ?_
                        rw [show (mup 41) (nI j).toNatClampNeg = mup 41 j from by rw [nI_clamp (show j < 2 ^ 31 by omega)]]
                        refine lv_if_eq (tgt := 166) hx hb dX11_nearest_121 (by decide) (fun c_121 => ?_) (fun c_121 => ?_)
                        · refine lv_iconst (v := 0) hx hb dX11_nearest_166 (by decide) ?_
                          refine lv_iadd hx hb dX11_nearest_167 ?_
                          refine lv_topi (fun s1 es1 => ?_)
                          have es1 : s1 = cntN (mup 41) (mup 40) i (j + 1) := es1.trans (by rw [cntN, if_neg (fun g => g.1 c_121)])
                          subst es1
                          refine lv_istore_n (lv' := [(3, .int (cntN (mup 41) (mup 40) i (j + 1))), (4, .int (nI j)), (2, .int (nI i)), (0, .ref mo), (1, .int p0)]) hx hb dX11_nearest_168 rfl hl (by decide) rfl (fun ls hl => ?_)
                          obtain ⟨j1, ej1⟩ : ∃ y : Int32, y = (nI j) + 1 := ⟨_, rfl⟩
                          refine lv_iinc (v := j1) (lv' := [(4, .int j1), (3, .int (cntN (mup 41) (mup 40) i (j + 1))), (2, .int (nI i)), (0, .ref mo), (1, .int p0)]) hx hb dX11_nearest_169 hl (k := 1) rfl (by rw [ej1]; rfl) (by decide) rfl (fun ls hl => ?_)
                          rw [nI_1] at ej1
                          subst ej1
                          refine lv_goto (tgt := 104) hx hb dX11_nearest_172 (by decide) ?_
                          exact ih6 (j + 1) (by omega) (by omega) _ (lv_sub hl [0, 1, 2, 3, 4] rfl)
                        · refine lv_aload_n hx hb dX11_nearest_124 rfl (lv_at hl 3 rfl) ?_
                          refine hk_get (ref := "LightcurveHouseModel") (v := .ref (am 40)) X K hM.1 rfl iX11_nearest_X11 40 (by decide) (by decide +kernel) (fun _ h => h) rfl dX11_nearest_125 ?_
                          refine lv_iload hx hb dX11_nearest_128 (lv_at hl 0 rfl) ?_
                          refine hk_ild (f := (mup 40)) X K hM.a40 (vp_in_nI (by omega) (by omega)) dX11_nearest_130 ?_
                          rw [show (mup 40) (nI j).toNatClampNeg = mup 40 j from by rw [nI_clamp (show j < 2 ^ 31 by omega)]]
                          refine lv_aload_n hx hb dX11_nearest_131 rfl (lv_at hl 3 rfl) ?_
                          refine hk_get (ref := "LightcurveHouseModel") (v := .ref (am 40)) X K hM.1 rfl iX11_nearest_X11 40 (by decide) (by decide +kernel) (fun _ h => h) rfl dX11_nearest_132 ?_
                          refine lv_iload_n hx hb dX11_nearest_135 rfl (lv_at hl 2 rfl) ?_
                          refine hk_ild (f := (mup 40)) X K hM.a40 (vp_in_nI (by omega) (by omega)) dX11_nearest_136 ?_
                          rw [show (mup 40) (nI i).toNatClampNeg = mup 40 i from by rw [nI_clamp (show i < 2 ^ 31 by omega)]]
                          refine lv_icmp_lt (tgt := 162) hx hb dX11_nearest_137 (by decide) (fun c_137 => ?_) (fun c_137 => ?_)
                          · refine lv_iconst (v := 1) hx hb dX11_nearest_162 (by decide) ?_
                            refine lv_goto (tgt := 167) hx hb dX11_nearest_163 (by decide) ?_
                            refine lv_iadd hx hb dX11_nearest_167 ?_
                            refine lv_topi (fun s1 es1 => ?_)
                            have es1 : s1 = cntN (mup 41) (mup 40) i (j + 1) := es1.trans (by rw [cntN, if_pos ⟨c_121, Or.inl c_137⟩])
                            subst es1
                            refine lv_istore_n (lv' := [(3, .int (cntN (mup 41) (mup 40) i (j + 1))), (4, .int (nI j)), (2, .int (nI i)), (0, .ref mo), (1, .int p0)]) hx hb dX11_nearest_168 rfl hl (by decide) rfl (fun ls hl => ?_)
                            obtain ⟨j1, ej1⟩ : ∃ y : Int32, y = (nI j) + 1 := ⟨_, rfl⟩
                            refine lv_iinc (v := j1) (lv' := [(4, .int j1), (3, .int (cntN (mup 41) (mup 40) i (j + 1))), (2, .int (nI i)), (0, .ref mo), (1, .int p0)]) hx hb dX11_nearest_169 hl (k := 1) rfl (by rw [ej1]; rfl) (by decide) rfl (fun ls hl => ?_)
                            rw [nI_1] at ej1
                            subst ej1
                            refine lv_goto (tgt := 104) hx hb dX11_nearest_172 (by decide) ?_
                            exact ih6 (j + 1) (by omega) (by omega) _ (lv_sub hl [0, 1, 2, 3, 4] rfl)
                          · refine lv_aload_n hx hb dX11_nearest_140 rfl (lv_at hl 3 rfl) ?_
                            refine hk_get (ref := "LightcurveHouseModel") (v := .ref (am 40)) X K hM.1 rfl iX11_nearest_X11 40 (by decide) (by decide +kernel) (fun _ h => h) rfl dX11_nearest_141 ?_
                            refine lv_iload hx hb dX11_nearest_144 (lv_at hl 0 rfl) ?_
                            refine hk_ild (f := (mup 40)) X K hM.a40 (vp_in_nI (by omega) (by omega)) dX11_nearest_146 ?_
                            rw [show (mup 40) (nI j).toNatClampNeg = mup 40 j from by rw [nI_clamp (show j < 2 ^ 31 by omega)]]
                            refine lv_aload_n hx hb dX11_nearest_147 rfl (lv_at hl 3 rfl) ?_
                            refine hk_get (ref := "LightcurveHouseModel") (v := .ref (am 40)) X K hM.1 rfl iX11_nearest_X11 40 (by decide) (by decide +kernel) (fun _ h => h) rfl dX11_nearest_148 ?_
                            refine lv_iload_n hx hb dX11_nearest_151 rfl (lv_at hl 2 rfl) ?_
                            refine hk_ild (f := (mup 40)) X K hM.a40 (vp_in_nI (by omega) (by omega)) dX11_nearest_152 ?_
                            rw [show (mup 40) (nI i).toNatClampNeg = mup 40 i from by rw [nI_clamp (show i < 2 ^ 31 by omega)]]
                            refine lv_icmp_ne (tgt := 166) hx hb dX11_nearest_153 (by decide) (fun c_153 => ?_) (fun c_153 => ?_)
                            · refine lv_iconst (v := 0) hx hb dX11_nearest_166 (by decide) ?_
                              refine lv_iadd hx hb dX11_nearest_167 ?_
                              refine lv_topi (fun s1 es1 => ?_)
                              have es1 : s1 = cntN (mup 41) (mup 40) i (j + 1) := es1.trans (by rw [cntN, if_neg (fun g => g.2.elim c_137 (fun g => c_153 g.1))])
                              subst es1
                              refine lv_istore_n (lv' := [(3, .int (cntN (mup 41) (mup 40) i (j + 1))), (4, .int (nI j)), (2, .int (nI i)), (0, .ref mo), (1, .int p0)]) hx hb dX11_nearest_168 rfl hl (by decide) rfl (fun ls hl => ?_)
                              obtain ⟨j1, ej1⟩ : ∃ y : Int32, y = (nI j) + 1 := ⟨_, rfl⟩
                              refine lv_iinc (v := j1) (lv' := [(4, .int j1), (3, .int (cntN (mup 41) (mup 40) i (j + 1))), (2, .int (nI i)), (0, .ref mo), (1, .int p0)]) hx hb dX11_nearest_169 hl (k := 1) rfl (by rw [ej1]; rfl) (by decide) rfl (fun ls hl => ?_)
                              rw [nI_1] at ej1
                              subst ej1
                              refine lv_goto (tgt := 104) hx hb dX11_nearest_172 (by decide) ?_
                              exact ih6 (j + 1) (by omega) (by omega) _ (lv_sub hl [0, 1, 2, 3, 4] rfl)
                            · refine lv_iload hx hb dX11_nearest_156 (lv_at hl 0 rfl) ?_
                              refine lv_iload_n hx hb dX11_nearest_158 rfl (lv_at hl 2 rfl) ?_
                              refine lv_icmp_ge (tgt := 166) hx hb dX11_nearest_159 (by decide) (fun c_159 => ?_) (fun c_159 => ?_)
                              · refine lv_iconst (v := 0) hx hb dX11_nearest_166 (by decide) ?_
                                refine lv_iadd hx hb dX11_nearest_167 ?_
                                refine lv_topi (fun s1 es1 => ?_)
                                have es1 : s1 = cntN (mup 41) (mup 40) i (j + 1) := es1.trans (by rw [cntN, if_neg (fun g => g.2.elim c_137 (fun g => absurd g.2 (Int32.not_lt.mpr c_159)))])
                                subst es1
                                refine lv_istore_n (lv' := [(3, .int (cntN (mup 41) (mup 40) i (j + 1))), (4, .int (nI j)), (2, .int (nI i)), (0, .ref mo), (1, .int p0)]) hx hb dX11_nearest_168 rfl hl (by decide) rfl (fun ls hl => ?_)
                                obtain ⟨j1, ej1⟩ : ∃ y : Int32, y = (nI j) + 1 := ⟨_, rfl⟩
                                refine lv_iinc (v := j1) (lv' := [(4, .int j1), (3, .int (cntN (mup 41) (mup 40) i (j + 1))), (2, .int (nI i)), (0, .ref mo), (1, .int p0)]) hx hb dX11_nearest_169 hl (k := 1) rfl (by rw [ej1]; rfl) (by decide) rfl (fun ls hl => ?_)
                                rw [nI_1] at ej1
                                subst ej1
                                refine lv_goto (tgt := 104) hx hb dX11_nearest_172 (by decide) ?_
                                exact ih6 (j + 1) (by omega) (by omega) _ (lv_sub hl [0, 1, 2, 3, 4] rfl)
                              · refine lv_iconst (v := 1) hx hb dX11_nearest_162 (by decide) ?_
                                refine lv_goto (tgt := 167) hx hb dX11_nearest_163 (by decide) ?_
                                refine lv_iadd hx hb dX11_nearest_167 ?_
                                refine lv_topi (fun s1 es1 => ?_)
                                have es1 : s1 = cntN (mup 41) (mup 40) i (j + 1) := es1.trans (by rw [cntN, if_pos ⟨c_121, Or.inr ⟨c_153, Int32.not_le.mp c_159⟩⟩])
                                subst es1
                                refine lv_istore_n (lv' := [(3, .int (cntN (mup 41) (mup 40) i (j + 1))), (4, .int (nI j)), (2, .int (nI i)), (0, .ref mo), (1, .int p0)]) hx hb dX11_nearest_168 rfl hl (by decide) rfl (fun ls hl => ?_)
                                obtain ⟨j1, ej1⟩ : ∃ y : Int32, y = (nI j) + 1 := ⟨_, rfl⟩
                                refine lv_iinc (v := j1) (lv' := [(4, .int j1), (3, .int (cntN (mup 41) (mup 40) i (j + 1))), (2, .int (nI i)), (0, .ref mo), (1, .int p0)]) hx hb dX11_nearest_169 hl (k := 1) rfl (by rw [ej1]; rfl) (by decide) rfl (fun ls hl => ?_)
                                rw [nI_1] at ej1
                                subst ej1
                                refine lv_goto (tgt := 104) hx hb dX11_nearest_172 (by decide) ?_
                                exact ih6 (j + 1) (by omega) (by omega) _ (lv_sub hl [0, 1, 2, 3, 4] rfl)
                  exact L104 (cn 1 + 1) 0 (by omega) (Nat.zero_le _) _ (lv_sub hl [0, 1, 2, 3, 4] rfl)
          exact L84 (cn 1 + 1) 0 (by omega) ⟨Nat.zero_le _, by rw [Nat.sub_zero]⟩ _ (lv_sub hl [0, 1, 2] rfl)
        · have hkk : k < cn 1 := Nat.lt_of_not_le (fun h => c_20 (nI_le h (by omega)))
          refine lv_aload_n hx hb dX11_nearest_23 rfl (lv_at hl 1 rfl) ?_
          refine hk_get (ref := "LightcurveHouseModel") (v := .ref (am 41)) X K hM.1 rfl iX11_nearest_X11 41 (by decide) (by decide +kernel) (fun _ h => h) rfl dX11_nearest_24 ?_
          refine lv_iload_n hx hb dX11_nearest_27 rfl (lv_at hl 0 rfl) ?_
          refine lv_aload_n hx hb dX11_nearest_28 rfl (lv_at hl 1 rfl) ?_
          refine hk_get (ref := "LightcurveHouseModel") (v := .ref (am 3)) X K hM.1 rfl iX11_nearest_X11 3 (by decide) (by decide +kernel) (fun _ h => h) rfl dX11_nearest_29 ?_
          refine lv_iload_n hx hb dX11_nearest_32 rfl (lv_at hl 0 rfl) ?_
          refine hk_ild (f := (mup 3)) X K hM.a3 (vp_in_nI (by omega) (by omega)) dX11_nearest_33 ?_
          rw [show (mup 3) (nI k).toNatClampNeg = mup 3 k from by rw [nI_clamp (show k < 2 ^ 31 by omega)]]
          refine lv_iload_n hx hb dX11_nearest_34 rfl (lv_at hl 0 rfl) ?_
          refine lv_icmp_ne (tgt := 50) hx hb dX11_nearest_35 (by decide) (fun c_35 => ?_) (fun c_35 => ?_)
          · refine lv_iconst (v := 0) hx hb dX11_nearest_50 (by decide) ?_
            refine hk_zst (f := (mup 41)) X K hM.a41 hS (hM.2.2.2.2.2 41 (by decide)) (vp_in_nI (by omega) (by omega)) (Or.inl rfl) dX11_nearest_51 (fun H4 locsH4 hIH4 hzH4 hqH4 hS => ?_)
            rw [show (nI k).toNatClampNeg = k from nI_clamp (by omega)] at hIH4
            have hM := MW.set hM 41 (by decide) hIH4 hqH4
            refine lv_aload_n hx hb dX11_nearest_52 rfl (lv_at hl 1 rfl) ?_
            refine hk_get (ref := "LightcurveHouseModel") (v := .ref (am 40)) X K hM.1 rfl iX11_nearest_X11 40 (by decide) (by decide +kernel) (fun _ h => h) rfl dX11_nearest_53 ?_
            refine lv_iload_n hx hb dX11_nearest_56 rfl (lv_at hl 0 rfl) ?_
            refine lv_aload_n hx hb dX11_nearest_57 rfl (lv_at hl 1 rfl) ?_
            refine hk_get (ref := "LightcurveHouseModel") (v := .ref (am 41)) X K hM.1 rfl iX11_nearest_X11 41 (by decide) (by decide +kernel) (fun _ h => h) rfl dX11_nearest_58 ?_
            refine lv_iload_n hx hb dX11_nearest_61 rfl (lv_at hl 0 rfl) ?_
            refine hk_zld (f := (upd (mup 41) k 0)) X K hM.a41 (vp_in_nI (by omega) (by omega)) dX11_nearest_62 ?_
            rw [show (upd (mup 41) k 0) (nI k).toNatClampNeg = 0 from by rw [nI_clamp (show k < 2 ^ 31 by omega)]; exact if_pos rfl]
            refine lv_if_eq (tgt := 74) hx hb dX11_nearest_63 (by decide) (fun c_63 => ?_) (fun c_63 => ?_)
            · refine lv_iconst (v := 0) hx hb dX11_nearest_74 (by decide) ?_
              refine hk_ist (f := (mup 40)) X K hM.a40 hS (hM.2.2.2.2.2 40 (by decide)) (vp_in_nI (by omega) (by omega)) dX11_nearest_75 (fun H5 locsH5 hIH5 hzH5 hqH5 hS => ?_)
              rw [show (nI k).toNatClampNeg = k from nI_clamp (by omega)] at hIH5
              have hM := MW.set hM 40 (by decide) hIH5 hqH5
              obtain ⟨k1, ek1⟩ : ∃ y : Int32, y = (nI k) + 1 := ⟨_, rfl⟩
              refine lv_iinc (v := k1) (lv' := [(2, .int k1), (0, .ref mo), (1, .int p0)]) hx hb dX11_nearest_76 hl (k := 0) rfl (by rw [ek1]; rfl) (by decide) rfl (fun ls hl => ?_)
              rw [nI_1] at ek1
              subst ek1
              refine lv_goto (tgt := 15) hx hb dX11_nearest_79 (by decide) ?_
              exact ih (k + 1) mm _ H5 locsH5 (by omega) ⟨by omega, hM, agr.mu_up 40 (agr.mu_up 41 hag (by decide)) (by decide), nr_step hall (show 0 = laidS (cn, sc, μ) k from (if_neg (fun g => c_35 (hmk3.symm.trans g.1))).symm) (show 0 = modS (cn, sc, μ) k from by unfold modS; rw [← (show 0 = laidS (cn, sc, μ) k from (if_neg (fun g => c_35 (hmk3.symm.trans g.1))).symm)]; rfl), hS⟩ _ (lv_sub hl [0, 1, 2] rfl)
            · exact absurd (by decide) c_63
          · refine lv_aload_n hx hb dX11_nearest_38 rfl (lv_at hl 1 rfl) ?_
            refine lv_iload_n hx hb dX11_nearest_39 rfl (lv_at hl 0 rfl) ?_
            refine hk_callV 1 (As := [.int (nI k)]) (rest := [.int (nI k), .ref (am 41)]) X K hAE hS hl.1 hM.1 rfl (c_X11_hasFeatures E l H hM hZ (hI.agr hag) (e1 := nI k)) (fun _ h => h) gX11_nearest_X11_hasFeatures rfl ⟨rfl, hd_X11_hasFeatures⟩ rfl ⟨⟨(Nat.le_of_ble_eq_true rfl), (Nat.le_of_ble_eq_true rfl)⟩, (Nat.le_of_ble_eq_true rfl), (Nat.le_of_ble_eq_true rfl)⟩ rfl (Nat.le_of_ble_eq_true rfl) dX11_nearest_40 (fun v9 H6 locsH6 hp hS hzH6 hkH6 => ?_)
            obtain ⟨hv, fL, fT, hg, hM⟩ := hp
            rw [va_up2] at hM
            have hv := hv.trans (hf_agr2 hag)
            subst hv
            refine lv_if_eq (tgt := 50) hx hb dX11_nearest_43 (by decide) (fun c_43 => ?_) (fun c_43 => ?_)
            · refine lv_iconst (v := 0) hx hb dX11_nearest_50 (by decide) ?_
              refine hk_zst (f := (mup 41)) X K hM.a41 hS (hM.2.2.2.2.2 41 (by decide)) (vp_in_nI (by omega) (by omega)) (Or.inl rfl) dX11_nearest_51 (fun H7 locsH7 hIH7 hzH7 hqH7 hS => ?_)
              rw [show (nI k).toNatClampNeg = k from nI_clamp (by omega)] at hIH7
              have hM := MW.set hM 41 (by decide) hIH7 hqH7
              refine lv_aload_n hx hb dX11_nearest_52 rfl (lv_at hl 1 rfl) ?_
              refine hk_get (ref := "LightcurveHouseModel") (v := .ref (am 40)) X K hM.1 rfl iX11_nearest_X11 40 (by decide) (by decide +kernel) (fun _ h => h) rfl dX11_nearest_53 ?_
              refine lv_iload_n hx hb dX11_nearest_56 rfl (lv_at hl 0 rfl) ?_
              refine lv_aload_n hx hb dX11_nearest_57 rfl (lv_at hl 1 rfl) ?_
              refine hk_get (ref := "LightcurveHouseModel") (v := .ref (am 41)) X K hM.1 rfl iX11_nearest_X11 41 (by decide) (by decide +kernel) (fun _ h => h) rfl dX11_nearest_58 ?_
              refine lv_iload_n hx hb dX11_nearest_61 rfl (lv_at hl 0 rfl) ?_
              refine hk_zld (f := (upd (mup 41) k 0)) X K hM.a41 (vp_in_nI (by omega) (by omega)) dX11_nearest_62 ?_
              rw [show (upd (mup 41) k 0) (nI k).toNatClampNeg = 0 from by rw [nI_clamp (show k < 2 ^ 31 by omega)]; exact if_pos rfl]
              refine lv_if_eq (tgt := 74) hx hb dX11_nearest_63 (by decide) (fun c_63 => ?_) (fun c_63 => ?_)
              · refine lv_iconst (v := 0) hx hb dX11_nearest_74 (by decide) ?_
                refine hk_ist (f := (mup 40)) X K hM.a40 hS (hM.2.2.2.2.2 40 (by decide)) (vp_in_nI (by omega) (by omega)) dX11_nearest_75 (fun H8 locsH8 hIH8 hzH8 hqH8 hS => ?_)
                rw [show (nI k).toNatClampNeg = k from nI_clamp (by omega)] at hIH8
                have hM := MW.set hM 40 (by decide) hIH8 hqH8
                obtain ⟨k1, ek1⟩ : ∃ y : Int32, y = (nI k) + 1 := ⟨_, rfl⟩
                refine lv_iinc (v := k1) (lv' := [(2, .int k1), (0, .ref mo), (1, .int p0)]) hx hb dX11_nearest_76 hl (k := 0) rfl (by rw [ek1]; rfl) (by decide) rfl (fun ls hl => ?_)
                rw [nI_1] at ek1
                subst ek1
                refine lv_goto (tgt := 15) hx hb dX11_nearest_79 (by decide) ?_
                exact ih (k + 1) (sp_sel mup (nI k) (-1) (cn 12)).length _ H8 locsH8 (by omega) ⟨by omega, hM, agr.mu_up 40 (agr.mu_up 41 (agr.mu_up 36 (agr.mu_up 35 hag.cn34 (by decide)) (by decide)) (by decide)) (by decide), nr_step hall (show 0 = laidS (cn, sc, μ) k from (if_neg (fun g => g.2 c_43)).symm) (show 0 = modS (cn, sc, μ) k from by unfold modS; rw [← (show 0 = laidS (cn, sc, μ) k from (if_neg (fun g => g.2 c_43)).symm)]; rfl), hS⟩ _ (lv_sub hl [0, 1, 2] rfl)
              · exact absurd (by decide) c_63
            · have hhf : ¬ sp_hf (va_up cn 34 mm, va_up sc 33 0, mup) (nI k) = 0 := by rw [← hf_agr hag]; exact c_43
              refine lv_iconst (v := 1) hx hb dX11_nearest_46 (by decide) ?_
              refine lv_goto (tgt := 51) hx hb dX11_nearest_47 (by decide) ?_
              refine hk_zst (f := (mup 41)) X K hM.a41 hS (hM.2.2.2.2.2 41 (by decide)) (vp_in_nI (by omega) (by omega)) (Or.inr rfl) dX11_nearest_51 (fun H9 locsH9 hIH9 hzH9 hqH9 hS => ?_)
              rw [show (nI k).toNatClampNeg = k from nI_clamp (by omega)] at hIH9
              have hM := MW.set hM 41 (by decide) hIH9 hqH9
              refine lv_aload_n hx hb dX11_nearest_52 rfl (lv_at hl 1 rfl) ?_
              refine hk_get (ref := "LightcurveHouseModel") (v := .ref (am 40)) X K hM.1 rfl iX11_nearest_X11 40 (by decide) (by decide +kernel) (fun _ h => h) rfl dX11_nearest_53 ?_
              refine lv_iload_n hx hb dX11_nearest_56 rfl (lv_at hl 0 rfl) ?_
              refine lv_aload_n hx hb dX11_nearest_57 rfl (lv_at hl 1 rfl) ?_
              refine hk_get (ref := "LightcurveHouseModel") (v := .ref (am 41)) X K hM.1 rfl iX11_nearest_X11 41 (by decide) (by decide +kernel) (fun _ h => h) rfl dX11_nearest_58 ?_
              refine lv_iload_n hx hb dX11_nearest_61 rfl (lv_at hl 0 rfl) ?_
              refine hk_zld (f := (upd (mup 41) k 1)) X K hM.a41 (vp_in_nI (by omega) (by omega)) dX11_nearest_62 ?_
              rw [show (upd (mup 41) k 1) (nI k).toNatClampNeg = 1 from by rw [nI_clamp (show k < 2 ^ 31 by omega)]; exact if_pos rfl]
              refine lv_if_eq (tgt := 74) hx hb dX11_nearest_63 (by decide) (fun c_63 => ?_) (fun c_63 => ?_)
              · exact absurd c_63 (by decide)
              · refine lv_aload_n hx hb dX11_nearest_66 rfl (lv_at hl 1 rfl) ?_
                refine lv_iload_n hx hb dX11_nearest_67 rfl (lv_at hl 0 rfl) ?_
                refine hk_callV 1 (As := [.int (nI k)]) (rest := [.int (nI k), .ref (am 40)]) X K hAE hS hl.1 hM.1 rfl (c_X11_modulusOf E l H9 hM hns (show _ ≤ 80 from sel80 hnl) (sp_hf_1 hhf).1 (e1 := nI k) (vp_in_nI (by omega) (by decide)) (sp_hf_1 hhf).2) (fun _ h => h.elim) gX11_nearest_X11_modulusOf rfl ⟨rfl, hd_X11_modulusOf⟩ rfl ⟨⟨(Nat.le_of_ble_eq_true rfl), (Nat.le_of_ble_eq_true rfl)⟩, (Nat.le_of_ble_eq_true rfl), (Nat.le_of_ble_eq_true rfl)⟩ rfl (Nat.le_of_ble_eq_true rfl) dX11_nearest_68 (fun v9 H10 locsH10 hp hS hzH10 hkH10 => ?_)
                obtain ⟨hv, hh⟩ := hp
                have hv := hv.trans ((md_eq2 (cn := va_up cn 34 mm) (sc := va_up sc 33 0) hg rfl).trans (md_agr2 hag))
                subst hv; subst hh
                refine lv_goto (tgt := 75) hx hb dX11_nearest_71 (by decide) ?_
                refine hk_ist (f := (mup 40)) X K hM.a40 hS (hM.2.2.2.2.2 40 (by decide)) (vp_in_nI (by omega) (by omega)) dX11_nearest_75 (fun H11 locsH11 hIH11 hzH11 hqH11 hS => ?_)
                rw [show (nI k).toNatClampNeg = k from nI_clamp (by omega)] at hIH11
                have hM := MW.set hM 40 (by decide) hIH11 hqH11
                obtain ⟨k1, ek1⟩ : ∃ y : Int32, y = (nI k) + 1 := ⟨_, rfl⟩
                refine lv_iinc (v := k1) (lv' := [(2, .int k1), (0, .ref mo), (1, .int p0)]) hx hb dX11_nearest_76 hl (k := 0) rfl (by rw [ek1]; rfl) (by decide) rfl (fun ls hl => ?_)
                rw [nI_1] at ek1
                subst ek1
                refine lv_goto (tgt := 15) hx hb dX11_nearest_79 (by decide) ?_
                exact ih (k + 1) (sp_sel mup (nI k) (-1) (cn 12)).length _ H11 locsH11 (by omega) ⟨by omega, hM, agr.mu_up 40 (agr.mu_up 41 (agr.mu_up 36 (agr.mu_up 35 hag.cn34 (by decide)) (by decide)) (by decide)) (by decide), nr_step hall (show 1 = laidS (cn, sc, μ) k from (if_pos ⟨hmk3.trans c_35, c_43⟩).symm) (show mdS (cn, sc, μ) (nI k) = modS (cn, sc, μ) k from by unfold modS; rw [← (show 1 = laidS (cn, sc, μ) k from (if_pos ⟨hmk3.trans c_35, c_43⟩).symm)]; rfl), hS⟩ _ (lv_sub hl [0, 1, 2] rfl)
    exact L15 (cn 1 + 1) 0 (cn 34) μ H1 locsH1 (by omega) ⟨Nat.zero_le _, by rw [va_same]; exact hM, (agr_thr (v := 0)).cn_up 34 (by decide), fun j hj => absurd hj (Nat.not_lt_zero _), hS⟩ _ (lv_sub hl [0, 1, 2] rfl)
  · refine lv_iconst (v := 1) hx hb dX11_nearest_5 (by decide) ?_
    refine lv_goto (tgt := 10) hx hb dX11_nearest_6 (by decide) ?_
    refine hk_put (ref := "LightcurveHouseModel") X K hM.1 rfl iX11_nearest_X11 tyX11 tyX11_ok nmX11 hS hM.2.2.2.2.1 33 (by decide) (by decide +kernel) (fun _ h => h) (by decide +kernel) rfl rfl (Nat.le_of_ble_eq_true rfl) dX11_nearest_10 (fun H12 locsH12 hOH12 hzH12 hqH12 hS => ?_)
    rw [mf_33] at hOH12
    have hM := MW.obj hM hOH12 hqH12
    refine lv_iconst (v := 0) hx hb dX11_nearest_13 (by decide) ?_
    refine lv_topi (fun z_13 ez_13 => ?_)
    have ez_13 : z_13 = nI 0 := ez_13
    subst ez_13
    refine lv_istore_n (lv' := [(2, .int (nI 0)), (0, .ref mo), (1, .int p0)]) hx hb dX11_nearest_14 rfl hl (by decide) rfl (fun ls hl => ?_)
    have L15 : ∀ (n9 : Nat) (k mm : Nat) (mup : Nat → Nat → Int32) (H : Heap) (locs : List Loc), cn 1 + 1 ≤ k + n9 → (k ≤ cn 1 ∧ MW E mo am Z (va_up cn 34 mm) (va_up sc 33 1) mup H ∧ agr (cn, sc, μ) (va_up cn 34 mm, va_up sc 33 1, mup) ∧ (∀ j, j < k → mup 41 j = laidS (cn, sc, μ) j ∧ mup 40 j = modS (cn, sc, μ) j) ∧ va_S Z s.heap H locs) → ∀ (ls : Array Slot), lv_has ls 5 [(2, .int (nI k)), (0, .ref mo), (1, .int p0)] → W p l e rmX11_nearest s m args below meth c H locs 0 0 Q (F0 m 15 ls []) := by
      intro n9
      induction n9 with
      | zero =>
        intro k mm mup H locs hm hinv ls hl
        obtain ⟨hi1, hM, hag, hall, hS⟩ := hinv
        have hmk3 : μ 3 k = mup 3 k := congrFun (hag 3 (by decide)).2.2 k
        exact absurd hm (by omega)
      | succ n9 ih =>
        intro k mm mup H locs hm hinv ls hl
        obtain ⟨hi1, hM, hag, hall, hS⟩ := hinv
        have hmk3 : μ 3 k = mup 3 k := congrFun (hag 3 (by decide)).2.2 k
        refine lv_iload_n hx hb dX11_nearest_15 rfl (lv_at hl 0 rfl) ?_
        refine lv_aload_n hx hb dX11_nearest_16 rfl (lv_at hl 1 rfl) ?_
        refine hk_get (ref := "LightcurveHouseModel") (v := .int (nI (cn 1))) X K hM.1 rfl iX11_nearest_X11 1 (by decide) (by decide +kernel) (fun _ h => h) rfl dX11_nearest_17 ?_
        refine lv_icmp_ge (tgt := 82) hx hb dX11_nearest_20 (by decide) (fun c_20 => ?_) (fun c_20 => ?_)
        · have hkk : cn 1 ≤ k := (nI_leI (by omega) (by omega)).mp c_20
          have hall1 : ∀ j, j < cn 1 → mup 41 j = laidS (cn, sc, μ) j ∧ mup 40 j = modS (cn, sc, μ) j := fun j hj => hall j (by omega)
          refine lv_iconst (v := 0) hx hb dX11_nearest_82 (by decide) ?_
          refine lv_topi (fun z_14 ez_14 => ?_)
          have ez_14 : z_14 = nI 0 := ez_14
          subst ez_14
          refine lv_istore_n (lv' := [(2, .int (nI 0)), (0, .ref mo), (1, .int p0)]) hx hb dX11_nearest_83 rfl hl (by decide) rfl (fun ls hl => ?_)
          have L84 : ∀ (n7 : Nat) (i : Nat), cn 1 + 1 ≤ i + n7 → (i ≤ cn 1 ∧ nrA (mup 41) (mup 40) (cn 1) p0 (cn 1) 0 = nrA (mup 41) (mup 40) (cn 1) p0 (cn 1 - i) i) → ∀ (ls : Array Slot), lv_has ls 5 [(2, .int (nI i)), (0, .ref mo), (1, .int p0)] → W p l e rmX11_nearest s m args below meth c H locs 0 0 Q (F0 m 84 ls []) := by
            intro n7
            induction n7 with
            | zero =>
              intro i hm7 hinr ls hl
              have hi7 := hinr.1
              exact absurd hm7 (by omega)
            | succ n7 ih7 =>
              intro i hm7 hinr ls hl
              have hi7 := hinr.1
              refine lv_iload_n hx hb dX11_nearest_84 rfl (lv_at hl 0 rfl) ?_
              refine lv_aload_n hx hb dX11_nearest_85 rfl (lv_at hl 1 rfl) ?_
              refine hk_get (ref := "LightcurveHouseModel") (v := .int (nI (cn 1))) X K hM.1 rfl iX11_nearest_X11 1 (by decide) (by decide +kernel) (fun _ h => h) rfl dX11_nearest_86 ?_
              refine lv_icmp_ge (tgt := 197) hx hb dX11_nearest_89 (by decide) (fun c_89 => ?_) (fun c_89 => ?_)
              · have hkk : cn 1 ≤ i := (nI_leI (by omega) (by omega)).mp c_89
                refine lv_aload_n hx hb dX11_nearest_197 rfl (lv_at hl 1 rfl) ?_
                refine hk_get (ref := "LightcurveHouseModel") (v := .int 1) X K hM.1 rfl iX11_nearest_X11 33 (by decide) (by decide +kernel) (fun _ h => h) rfl dX11_nearest_198 ?_
                refine lv_if_ne (tgt := 208) hx hb dX11_nearest_201 (by decide) (fun c_201 => ?_) (fun c_201 => ?_)
                · refine lv_iconst (v := 0) hx hb dX11_nearest_208 (by decide) ?_
                  exact hk_iret X hr hlk hQ hS (Nat.le_of_ble_eq_true rfl) (Nat.le_of_ble_eq_true rfl) dX11_nearest_209 (mfin1 (v := 1) hM (by unfold cd_nearest; rw [if_neg c_2]) (by decide) rfl rfl hag)
                · exact absurd c_201 (by decide)
              · have hkk : i < cn 1 := Nat.lt_of_not_le (fun h => c_89 (nI_le h (by omega)))
                refine lv_aload_n hx hb dX11_nearest_92 rfl (lv_at hl 1 rfl) ?_
                refine hk_get (ref := "LightcurveHouseModel") (v := .int 1) X K hM.1 rfl iX11_nearest_X11 33 (by decide) (by decide +kernel) (fun _ h => h) rfl dX11_nearest_93 ?_
                refine lv_if_ne (tgt := 197) hx hb dX11_nearest_96 (by decide) (fun c_96 => ?_) (fun c_96 => ?_)
                · refine lv_aload_n hx hb dX11_nearest_197 rfl (lv_at hl 1 rfl) ?_
                  refine hk_get (ref := "LightcurveHouseModel") (v := .int 1) X K hM.1 rfl iX11_nearest_X11 33 (by decide) (by decide +kernel) (fun _ h => h) rfl dX11_nearest_198 ?_
                  refine lv_if_ne (tgt := 208) hx hb dX11_nearest_201 (by decide) (fun c_201 => ?_) (fun c_201 => ?_)
                  · refine lv_iconst (v := 0) hx hb dX11_nearest_208 (by decide) ?_
                    exact hk_iret X hr hlk hQ hS (Nat.le_of_ble_eq_true rfl) (Nat.le_of_ble_eq_true rfl) dX11_nearest_209 (mfin1 (v := 1) hM (by unfold cd_nearest; rw [if_neg c_2]) (by decide) rfl rfl hag)
                  · exact absurd c_201 (by decide)
                · exact absurd c_96 (by decide)
          exact L84 (cn 1 + 1) 0 (by omega) ⟨Nat.zero_le _, by rw [Nat.sub_zero]⟩ _ (lv_sub hl [0, 1, 2] rfl)
        · have hkk : k < cn 1 := Nat.lt_of_not_le (fun h => c_20 (nI_le h (by omega)))
          refine lv_aload_n hx hb dX11_nearest_23 rfl (lv_at hl 1 rfl) ?_
          refine hk_get (ref := "LightcurveHouseModel") (v := .ref (am 41)) X K hM.1 rfl iX11_nearest_X11 41 (by decide) (by decide +kernel) (fun _ h => h) rfl dX11_nearest_24 ?_
          refine lv_iload_n hx hb dX11_nearest_27 rfl (lv_at hl 0 rfl) ?_
          refine lv_aload_n hx hb dX11_nearest_28 rfl (lv_at hl 1 rfl) ?_
          refine hk_get (ref := "LightcurveHouseModel") (v := .ref (am 3)) X K hM.1 rfl iX11_nearest_X11 3 (by decide) (by decide +kernel) (fun _ h => h) rfl dX11_nearest_29 ?_
          refine lv_iload_n hx hb dX11_nearest_32 rfl (lv_at hl 0 rfl) ?_
          refine hk_ild (f := (mup 3)) X K hM.a3 (vp_in_nI (by omega) (by omega)) dX11_nearest_33 ?_
          rw [show (mup 3) (nI k).toNatClampNeg = mup 3 k from by rw [nI_clamp (show k < 2 ^ 31 by omega)]]
          refine lv_iload_n hx hb dX11_nearest_34 rfl (lv_at hl 0 rfl) ?_
          refine lv_icmp_ne (tgt := 50) hx hb dX11_nearest_35 (by decide) (fun c_35 => ?_) (fun c_35 => ?_)
          · refine lv_iconst (v := 0) hx hb dX11_nearest_50 (by decide) ?_
            refine hk_zst (f := (mup 41)) X K hM.a41 hS (hM.2.2.2.2.2 41 (by decide)) (vp_in_nI (by omega) (by omega)) (Or.inl rfl) dX11_nearest_51 (fun H15 locsH15 hIH15 hzH15 hqH15 hS => ?_)
            rw [show (nI k).toNatClampNeg = k from nI_clamp (by omega)] at hIH15
            have hM := MW.set hM 41 (by decide) hIH15 hqH15
            refine lv_aload_n hx hb dX11_nearest_52 rfl (lv_at hl 1 rfl) ?_
            refine hk_get (ref := "LightcurveHouseModel") (v := .ref (am 40)) X K hM.1 rfl iX11_nearest_X11 40 (by decide) (by decide +kernel) (fun _ h => h) rfl dX11_nearest_53 ?_
            refine lv_iload_n hx hb dX11_nearest_56 rfl (lv_at hl 0 rfl) ?_
            refine lv_aload_n hx hb dX11_nearest_57 rfl (lv_at hl 1 rfl) ?_
            refine hk_get (ref := "LightcurveHouseModel") (v := .ref (am 41)) X K hM.1 rfl iX11_nearest_X11 41 (by decide) (by decide +kernel) (fun _ h => h) rfl dX11_nearest_58 ?_
            refine lv_iload_n hx hb dX11_nearest_61 rfl (lv_at hl 0 rfl) ?_
            refine hk_zld (f := (upd (mup 41) k 0)) X K hM.a41 (vp_in_nI (by omega) (by omega)) dX11_nearest_62 ?_
            rw [show (upd (mup 41) k 0) (nI k).toNatClampNeg = 0 from by rw [nI_clamp (show k < 2 ^ 31 by omega)]; exact if_pos rfl]
            refine lv_if_eq (tgt := 74) hx hb dX11_nearest_63 (by decide) (fun c_63 => ?_) (fun c_63 => ?_)
            · refine lv_iconst (v := 0) hx hb dX11_nearest_74 (by decide) ?_
              refine hk_ist (f := (mup 40)) X K hM.a40 hS (hM.2.2.2.2.2 40 (by decide)) (vp_in_nI (by omega) (by omega)) dX11_nearest_75 (fun H16 locsH16 hIH16 hzH16 hqH16 hS => ?_)
              rw [show (nI k).toNatClampNeg = k from nI_clamp (by omega)] at hIH16
              have hM := MW.set hM 40 (by decide) hIH16 hqH16
              obtain ⟨k1, ek1⟩ : ∃ y : Int32, y = (nI k) + 1 := ⟨_, rfl⟩
              refine lv_iinc (v := k1) (lv' := [(2, .int k1), (0, .ref mo), (1, .int p0)]) hx hb dX11_nearest_76 hl (k := 0) rfl (by rw [ek1]; rfl) (by decide) rfl (fun ls hl => ?_)
              rw [nI_1] at ek1
              subst ek1
              refine lv_goto (tgt := 15) hx hb dX11_nearest_79 (by decide) ?_
              exact ih (k + 1) mm _ H16 locsH16 (by omega) ⟨by omega, hM, agr.mu_up 40 (agr.mu_up 41 hag (by decide)) (by decide), nr_step hall (show 0 = laidS (cn, sc, μ) k from (if_neg (fun g => c_35 (hmk3.symm.trans g.1))).symm) (show 0 = modS (cn, sc, μ) k from by unfold modS; rw [← (show 0 = laidS (cn, sc, μ) k from (if_neg (fun g => c_35 (hmk3.symm.trans g.1))).symm)]; rfl), hS⟩ _ (lv_sub hl [0, 1, 2] rfl)
            · exact absurd (by decide) c_63
          · refine lv_aload_n hx hb dX11_nearest_38 rfl (lv_at hl 1 rfl) ?_
            refine lv_iload_n hx hb dX11_nearest_39 rfl (lv_at hl 0 rfl) ?_
            refine hk_callV 1 (As := [.int (nI k)]) (rest := [.int (nI k), .ref (am 41)]) X K hAE hS hl.1 hM.1 rfl (c_X11_hasFeatures E l H hM hZ (hI.agr hag) (e1 := nI k)) (fun _ h => h) gX11_nearest_X11_hasFeatures rfl ⟨rfl, hd_X11_hasFeatures⟩ rfl ⟨⟨(Nat.le_of_ble_eq_true rfl), (Nat.le_of_ble_eq_true rfl)⟩, (Nat.le_of_ble_eq_true rfl), (Nat.le_of_ble_eq_true rfl)⟩ rfl (Nat.le_of_ble_eq_true rfl) dX11_nearest_40 (fun v9 H17 locsH17 hp hS hzH17 hkH17 => ?_)
            obtain ⟨hv, fL, fT, hg, hM⟩ := hp
            rw [va_up2] at hM
            have hv := hv.trans (hf_agr2 hag)
            subst hv
            refine lv_if_eq (tgt := 50) hx hb dX11_nearest_43 (by decide) (fun c_43 => ?_) (fun c_43 => ?_)
            · refine lv_iconst (v := 0) hx hb dX11_nearest_50 (by decide) ?_
              refine hk_zst (f := (mup 41)) X K hM.a41 hS (hM.2.2.2.2.2 41 (by decide)) (vp_in_nI (by omega) (by omega)) (Or.inl rfl) dX11_nearest_51 (fun H18 locsH18 hIH18 hzH18 hqH18 hS => ?_)
              rw [show (nI k).toNatClampNeg = k from nI_clamp (by omega)] at hIH18
              have hM := MW.set hM 41 (by decide) hIH18 hqH18
              refine lv_aload_n hx hb dX11_nearest_52 rfl (lv_at hl 1 rfl) ?_
              refine hk_get (ref := "LightcurveHouseModel") (v := .ref (am 40)) X K hM.1 rfl iX11_nearest_X11 40 (by decide) (by decide +kernel) (fun _ h => h) rfl dX11_nearest_53 ?_
              refine lv_iload_n hx hb dX11_nearest_56 rfl (lv_at hl 0 rfl) ?_
              refine lv_aload_n hx hb dX11_nearest_57 rfl (lv_at hl 1 rfl) ?_
              refine hk_get (ref := "LightcurveHouseModel") (v := .ref (am 41)) X K hM.1 rfl iX11_nearest_X11 41 (by decide) (by decide +kernel) (fun _ h => h) rfl dX11_nearest_58 ?_
              refine lv_iload_n hx hb dX11_nearest_61 rfl (lv_at hl 0 rfl) ?_
              refine hk_zld (f := (upd (mup 41) k 0)) X K hM.a41 (vp_in_nI (by omega) (by omega)) dX11_nearest_62 ?_
              rw [show (upd (mup 41) k 0) (nI k).toNatClampNeg = 0 from by rw [nI_clamp (show k < 2 ^ 31 by omega)]; exact if_pos rfl]
              refine lv_if_eq (tgt := 74) hx hb dX11_nearest_63 (by decide) (fun c_63 => ?_) (fun c_63 => ?_)
              · refine lv_iconst (v := 0) hx hb dX11_nearest_74 (by decide) ?_
                refine hk_ist (f := (mup 40)) X K hM.a40 hS (hM.2.2.2.2.2 40 (by decide)) (vp_in_nI (by omega) (by omega)) dX11_nearest_75 (fun H19 locsH19 hIH19 hzH19 hqH19 hS => ?_)
                rw [show (nI k).toNatClampNeg = k from nI_clamp (by omega)] at hIH19
                have hM := MW.set hM 40 (by decide) hIH19 hqH19
                obtain ⟨k1, ek1⟩ : ∃ y : Int32, y = (nI k) + 1 := ⟨_, rfl⟩
                refine lv_iinc (v := k1) (lv' := [(2, .int k1), (0, .ref mo), (1, .int p0)]) hx hb dX11_nearest_76 hl (k := 0) rfl (by rw [ek1]; rfl) (by decide) rfl (fun ls hl => ?_)
                rw [nI_1] at ek1
                subst ek1
                refine lv_goto (tgt := 15) hx hb dX11_nearest_79 (by decide) ?_
                exact ih (k + 1) (sp_sel mup (nI k) (-1) (cn 12)).length _ H19 locsH19 (by omega) ⟨by omega, hM, agr.mu_up 40 (agr.mu_up 41 (agr.mu_up 36 (agr.mu_up 35 hag.cn34 (by decide)) (by decide)) (by decide)) (by decide), nr_step hall (show 0 = laidS (cn, sc, μ) k from (if_neg (fun g => g.2 c_43)).symm) (show 0 = modS (cn, sc, μ) k from by unfold modS; rw [← (show 0 = laidS (cn, sc, μ) k from (if_neg (fun g => g.2 c_43)).symm)]; rfl), hS⟩ _ (lv_sub hl [0, 1, 2] rfl)
              · exact absurd (by decide) c_63
            · have hhf : ¬ sp_hf (va_up cn 34 mm, va_up sc 33 1, mup) (nI k) = 0 := by rw [← hf_agr hag]; exact c_43
              refine lv_iconst (v := 1) hx hb dX11_nearest_46 (by decide) ?_
              refine lv_goto (tgt := 51) hx hb dX11_nearest_47 (by decide) ?_
              refine hk_zst (f := (mup 41)) X K hM.a41 hS (hM.2.2.2.2.2 41 (by decide)) (vp_in_nI (by omega) (by omega)) (Or.inr rfl) dX11_nearest_51 (fun H20 locsH20 hIH20 hzH20 hqH20 hS => ?_)
              rw [show (nI k).toNatClampNeg = k from nI_clamp (by omega)] at hIH20
              have hM := MW.set hM 41 (by decide) hIH20 hqH20
              refine lv_aload_n hx hb dX11_nearest_52 rfl (lv_at hl 1 rfl) ?_
              refine hk_get (ref := "LightcurveHouseModel") (v := .ref (am 40)) X K hM.1 rfl iX11_nearest_X11 40 (by decide) (by decide +kernel) (fun _ h => h) rfl dX11_nearest_53 ?_
              refine lv_iload_n hx hb dX11_nearest_56 rfl (lv_at hl 0 rfl) ?_
              refine lv_aload_n hx hb dX11_nearest_57 rfl (lv_at hl 1 rfl) ?_
              refine hk_get (ref := "LightcurveHouseModel") (v := .ref (am 41)) X K hM.1 rfl iX11_nearest_X11 41 (by decide) (by decide +kernel) (fun _ h => h) rfl dX11_nearest_58 ?_
              refine lv_iload_n hx hb dX11_nearest_61 rfl (lv_at hl 0 rfl) ?_
              refine hk_zld (f := (upd (mup 41) k 1)) X K hM.a41 (vp_in_nI (by omega) (by omega)) dX11_nearest_62 ?_
              rw [show (upd (mup 41) k 1) (nI k).toNatClampNeg = 1 from by rw [nI_clamp (show k < 2 ^ 31 by omega)]; exact if_pos rfl]
              refine lv_if_eq (tgt := 74) hx hb dX11_nearest_63 (by decide) (fun c_63 => ?_) (fun c_63 => ?_)
              · exact absurd c_63 (by decide)
              · refine lv_aload_n hx hb dX11_nearest_66 rfl (lv_at hl 1 rfl) ?_
                refine lv_iload_n hx hb dX11_nearest_67 rfl (lv_at hl 0 rfl) ?_
                refine hk_callV 1 (As := [.int (nI k)]) (rest := [.int (nI k), .ref (am 40)]) X K hAE hS hl.1 hM.1 rfl (c_X11_modulusOf E l H20 hM hns (show _ ≤ 80 from sel80 hnl) (sp_hf_1 hhf).1 (e1 := nI k) (vp_in_nI (by omega) (by decide)) (sp_hf_1 hhf).2) (fun _ h => h.elim) gX11_nearest_X11_modulusOf rfl ⟨rfl, hd_X11_modulusOf⟩ rfl ⟨⟨(Nat.le_of_ble_eq_true rfl), (Nat.le_of_ble_eq_true rfl)⟩, (Nat.le_of_ble_eq_true rfl), (Nat.le_of_ble_eq_true rfl)⟩ rfl (Nat.le_of_ble_eq_true rfl) dX11_nearest_68 (fun v9 H21 locsH21 hp hS hzH21 hkH21 => ?_)
                obtain ⟨hv, hh⟩ := hp
                have hv := hv.trans ((md_eq2 (cn := va_up cn 34 mm) (sc := va_up sc 33 1) hg rfl).trans (md_agr2 hag))
                subst hv; subst hh
                refine lv_goto (tgt := 75) hx hb dX11_nearest_71 (by decide) ?_
                refine hk_ist (f := (mup 40)) X K hM.a40 hS (hM.2.2.2.2.2 40 (by decide)) (vp_in_nI (by omega) (by omega)) dX11_nearest_75 (fun H22 locsH22 hIH22 hzH22 hqH22 hS => ?_)
                rw [show (nI k).toNatClampNeg = k from nI_clamp (by omega)] at hIH22
                have hM := MW.set hM 40 (by decide) hIH22 hqH22
                obtain ⟨k1, ek1⟩ : ∃ y : Int32, y = (nI k) + 1 := ⟨_, rfl⟩
                refine lv_iinc (v := k1) (lv' := [(2, .int k1), (0, .ref mo), (1, .int p0)]) hx hb dX11_nearest_76 hl (k := 0) rfl (by rw [ek1]; rfl) (by decide) rfl (fun ls hl => ?_)
                rw [nI_1] at ek1
                subst ek1
                refine lv_goto (tgt := 15) hx hb dX11_nearest_79 (by decide) ?_
                exact ih (k + 1) (sp_sel mup (nI k) (-1) (cn 12)).length _ H22 locsH22 (by omega) ⟨by omega, hM, agr.mu_up 40 (agr.mu_up 41 (agr.mu_up 36 (agr.mu_up 35 hag.cn34 (by decide)) (by decide)) (by decide)) (by decide), nr_step hall (show 1 = laidS (cn, sc, μ) k from (if_pos ⟨hmk3.trans c_35, c_43⟩).symm) (show mdS (cn, sc, μ) (nI k) = modS (cn, sc, μ) k from by unfold modS; rw [← (show 1 = laidS (cn, sc, μ) k from (if_pos ⟨hmk3.trans c_35, c_43⟩).symm)]; rfl), hS⟩ _ (lv_sub hl [0, 1, 2] rfl)
    exact L15 (cn 1 + 1) 0 (cn 34) μ H12 locsH12 (by omega) ⟨Nat.zero_le _, by rw [va_same]; exact hM, (agr_thr (v := 1)).cn_up 34 (by decide), fun j hj => absurd hj (Nat.not_lt_zero _), hS⟩ _ (lv_sub hl [0, 1, 2] rfl)

