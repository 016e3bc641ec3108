theorem sel_ar {μ μ' : Nat → Nat → Int32} (h : ∀ k, k < 33 → μ k = μ' k) {e1 e2 : Int32} (n : Nat) : sp_sel μ e1 e2 n = sp_sel μ' e1 e2 n := by
  induction n with
  | zero => rfl
  | succ n ih =>
    rw [sp_sel, sp_sel, ih]
    unfold selp
    rw [h 21 (by decide), h 3 (by decide), h 14 (by decide)]
theorem late_ar {μ μ' : Nat → Nat → Int32} (h : ∀ k, k < 33 → μ k = μ' k) {a : Int32} {j : Nat} : sp_late μ a j = sp_late μ' a j := by
  unfold sp_late sp_k
  rw [h 2 (by decide)]
theorem raw_ar {μ μ' : Nat → Nat → Int32} (h : ∀ k, k < 33 → μ k = μ' k) {k : Nat} : sp_raw μ k = sp_raw μ' k := by
  unfold sp_raw
  rw [h 13 (by decide), h 0 (by decide), h 17 (by decide), h 20 (by decide), h 18 (by decide), h 19 (by decide), h 10 (by decide), h 15 (by decide), h 16 (by decide), h 11 (by decide)]
theorem light_ar {μ μ' : Nat → Nat → Int32} (h : ∀ k, k < 33 → μ k = μ' k) {k : Nat} : sp_light μ k = sp_light μ' k := by
  unfold sp_light
  rw [raw_ar h, h 13 (by decide), h 6 (by decide), h 15 (by decide)]
theorem time_ar {μ μ' : Nat → Nat → Int32} (h : ∀ k, k < 33 → μ k = μ' k) {k : Nat} : sp_time μ k = sp_time μ' k := by
  unfold sp_time
  rw [late_ar h, late_ar h (a := μ 9 (ix (μ 15 k))), h 13 (by decide), h 16 (by decide), h 7 (by decide), h 15 (by decide), h 14 (by decide), h 9 (by decide)]
theorem str_ar {μ μ' : Nat → Nat → Int32} (h : ∀ k, k < 33 → μ k = μ' k) {L : List Nat} {P : Int32} : sp_str μ L P = sp_str μ' L P := by
  have e1 : (fun i => sp_light μ (L.getD i 0)) = fun i => sp_light μ' (L.getD i 0) := funext fun i => light_ar h
  have e2 : (fun i => sp_time μ (L.getD i 0)) = fun i => sp_time μ' (L.getD i 0) := funext fun i => time_ar h
  unfold sp_str
  rw [e1, e2]
theorem ft_ar {μ μ' : Nat → Nat → Int32} (h : ∀ k, k < 33 → μ k = μ' k) {L : List Nat} {c w : Int32} : sp_ft μ L c w = sp_ft μ' L c w := by
  have e1 : (fun i => sp_light μ (L.getD i 0)) = fun i => sp_light μ' (L.getD i 0) := funext fun i => light_ar h
  have e2 : (fun i => sp_time μ (L.getD i 0)) = fun i => sp_time μ' (L.getD i 0) := funext fun i => time_ar h
  unfold sp_ft
  rw [e1, e2]
theorem mn_ar {μ μ' : Nat → Nat → Int32} (h : ∀ k, k < 33 → μ k = μ' k) {L : List Nat} : sp_mn μ L = sp_mn μ' L := by
  have e1 : (fun i => sp_light μ (L.getD i 0)) = fun i => sp_light μ' (L.getD i 0) := funext fun i => light_ar h
  unfold sp_mn
  rw [e1]
theorem vt_ar {μ μ' : Nat → Nat → Int32} (h : ∀ k, k < 33 → μ k = μ' k) {F : Int32 → Int32} {kd : Int32} (n : Nat) : sp_vt μ F kd n = sp_vt μ' F kd n := by
  induction n with
  | zero => rfl
  | succ n ih => rw [sp_vt, sp_vt, ih, h 23 (by decide), h 28 (by decide), h 24 (by decide), h 25 (by decide), h 26 (by decide), h 27 (by decide)]
theorem mt_ar {μ μ' : Nat → Nat → Int32} (h : ∀ k, k < 33 → μ k = μ' k) {i : Nat} : sp_mt μ i = sp_mt μ' i := by
  unfold sp_mt
  rw [late_ar h, h 31 (by decide), h 30 (by decide)]
theorem lay_ar {μ μ' : Nat → Nat → Int32} (h : ∀ k, k < 33 → μ k = μ' k) {e : Int32} {g : Nat → Int32} (n : Nat) : layA μ e g n = layA μ' e g n := by
  induction n with
  | zero => rfl
  | succ n ih => rw [layA, layA, ih, mt_ar h, h 3 (by decide), h 30 (by decide)]
theorem agr.mu {S T : mS} (h : agr S T) : ∀ k, k < 33 → S.2.2 k = T.2.2 k := fun k hk => (h k hk).2.2
theorem clmS_agr {S T : mS} (h : agr S T) {e : Int32} : clmS S e = clmS T e := by
  unfold clmS
  rw [(h 1 (by decide)).1, (h 3 (by decide)).2.2, (h 4 (by decide)).2.2]
theorem selS_agr {S T : mS} (h : agr S T) {e : Int32} : selS S e = selS T e := by
  unfold selS
  rw [(h 12 (by decide)).1, sel_ar h.mu]
theorem sel2_agr {S T : mS} (h : agr S T) {e1 e2 : Int32} : sp_sel S.2.2 e1 e2 (S.1 12) = sp_sel T.2.2 e1 e2 (T.1 12) := by rw [(h 12 (by decide)).1, sel_ar h.mu]
theorem hf_agr {S T : mS} (h : agr S T) {e : Int32} : sp_hf S e = sp_hf T e := by
  unfold sp_hf
  rw [sel2_agr h, (h 1 (by decide)).1, (h 3 (by decide)).2.2, (h 4 (by decide)).2.2]
theorem ftS_agr {S T : mS} (h : agr S T) {e w : Int32} : ftS S e w = ftS T e w := by
  unfold ftS
  rw [selS_agr h, clmS_agr h, ft_ar h.mu]
theorem vtS_agr {S T : mS} (h : agr S T) {e kd : Int32} : vtS S e kd = vtS T e kd := by
  unfold vtS
  rw [show (fun w => ftS S e w) = fun w => ftS T e w from funext fun w => ftS_agr h, (h 22 (by decide)).1, vt_ar h.mu]
theorem mdS_agr {S T : mS} (h : agr S T) {e : Int32} : mdS S e = mdS T e := by
  unfold mdS
  rw [selS_agr h, clmS_agr h, mn_ar h.mu, (h 5 (by decide)).2.2, (h 32 (by decide)).2.1]
theorem layS_agr {S T : mS} (h : agr S T) {e : Int32} : layS S e = layS T e := by
  unfold layS
  rw [lay_ar h.mu, (h 29 (by decide)).1]
theorem tr_agr {S T : mS} (h : agr S T) {si fr to st ok : Int32} : sp_tr S si fr to st ok = sp_tr T si fr to st ok := by
  unfold sp_tr
  rw [sel2_agr h, (h 1 (by decide)).1, (h 3 (by decide)).2.2]
theorem agr.symm {S T : mS} (h : agr S T) : agr T S := fun k hk => ⟨(h k hk).1.symm, (h k hk).2.1.symm, (h k hk).2.2.symm⟩
theorem agr.trans {S T U : mS} (h : agr S T) (g : agr T U) : agr S U := fun k hk => ⟨(h k hk).1.trans (g k hk).1, (h k hk).2.1.trans (g k hk).2.1, (h k hk).2.2.trans (g k hk).2.2⟩
