theorem law_fl {l : Launch} (h : l.flags = flags0) : l.stackTraces = false := by
  unfold Launch.stackTraces
  rw [h]
  decide +kernel
theorem lv_S0 {V : Nat → Nat → Int32} (h0 : ∀ i, i < 10 → V 0 i = 1000) (hz : ∀ k, k ≠ 0 → V k = fun _ => 0) : LV S0 V := by
  have z : ∀ k, k ≠ 0 → ∀ i, V k i = 0 := fun k hk i => by rw [hz k hk]
  refine ⟨⟨Nat.zero_le _, Nat.zero_le _, Nat.zero_le _, Nat.zero_le _, Nat.zero_le _⟩, ⟨z 10 (by decide) 0, z 10 (by decide) 1, z 10 (by decide) 2, z 10 (by decide) 3, z 10 (by decide) 4, z 10 (by decide) 5⟩, fun j hj => ?_, fun j _ => ⟨z 1 (by decide) j, z 2 (by decide) j⟩, fun j hj => absurd hj (Nat.not_lt_zero _), fun j _ => ⟨z 3 (by decide) _, z 3 (by decide) _⟩, fun j hj => absurd hj (Nat.not_lt_zero _), fun j hj => absurd hj (Nat.not_lt_zero _), fun j hj => absurd hj (Nat.not_lt_zero _), fun j _ => z 8 (by decide) _, fun j hj => absurd hj (Nat.not_lt_zero _)⟩
  rw [h0 j hj]
  exact (if_pos hj).symm
set_option maxHeartbeats 4000000 in
set_option maxRecDepth 100000 in
/-- THE LAW, from its entry -/
theorem law_start2 {p : Program} {e : Env} {s : State} {m : MethodId} {below : List Frame} {meth : Method} {c : Code} (l : Launch) (hl9 : l.stackTraces = false) {b L : Nat} {xs : Nat → Int32} (hL : L ≤ 260) (C0 : lw_At p s m meth c b L xs) : W p l e room_1 s m #[Value.ref b] below meth c s.heap [] 0 0 (lw_Z below #[Value.ref b] s) (entryFrame m ([Value.ref b] : List Value).toArray 26) := by
  obtain ⟨E, hE, K⟩ := law_start C0
  obtain ⟨hx, hb, hr, hml, hown, hts, hX, hbl, hlocks, hgv⟩ := id C0
  have X : CallFix p m c cL_law 26 s #[Value.ref b] wsL_law RL := ⟨hx, hb, hml, hown, fun w h => hts w (wsL_law_in w h)⟩
  have hS : va_S (hk_A E) s.heap s.heap [] := va_S.rf
  have hAE : ∀ q, hk_A E q → hk_A E q := fun _ h => h
  have hl := lv_entry ([.ref b]) (n := 26) (Nat.le_of_ble_eq_true rfl)
  rw [lg_entry_eq]
  generalize (lg_sl ([.ref b]) ++ List.replicate (26 - (lg_sl ([.ref b])).length) Slot.unset).toArray = ls at hl ⊢
  have hl : lv_has ls 26 [(0, .ref b)] := hl
  refine hk_new (ci := 10) (fs := [.null, .null, .null, .null, .null, .null, .null, .int 0, .null, .null, .null, .null, .null]) X K rfl inlX10 tyX10 tyX10_ok (by decide +kernel) (by decide +kernel) (by decide +kernel) hS (fun j hj => by rcases (show j = 0 ∨ j = 1 ∨ j = 2 ∨ j = 3 ∨ j = 4 ∨ j = 5 ∨ j = 6 ∨ j = 7 ∨ j = 8 ∨ j = 9 ∨ j = 10 ∨ j = 11 ∨ j = 12 by omega) with rfl | rfl | rfl | rfl | rfl | rfl | rfl | rfl | rfl | rfl | rfl | rfl | rfl <;> rfl) (Nat.le_of_ble_eq_true rfl) (Nat.le_of_ble_eq_true rfl) dL_law_0 (fun H1 hO1 hz1 hq1 hS => ?_)
  obtain ⟨ho, eho⟩ : ∃ z : Nat, z = s.heap.size := ⟨_, rfl⟩
  rw [← eho] at hO1 hz1 ⊢
  refine lv_dup hx hb dL_law_3 rfl ?_
  refine hk_callI 0 (As := []) (rest := [.ref ho]) X K hAE hS hl.1 (c_X10_init E l H1 (Z := hk_A E) hO1 (by show E.2.2.1 ≤ ho; omega) (fun q h => by show E.2.2.1 ≤ q; omega) (fun _ h => h)) (fun _ h => h) gL_law_X10_init rfl (by decide +kernel) (by decide +kernel) (by decide +kernel) rfl hd_X10_init rfl ⟨⟨(Nat.le_of_ble_eq_true rfl), (Nat.le_of_ble_eq_true rfl)⟩, (Nat.le_of_ble_eq_true rfl), (Nat.le_of_ble_eq_true rfl)⟩ rfl (Nat.le_of_ble_eq_true rfl) dL_law_4 (fun v9 H2 locs2 hp hS hz2 hk2 => ?_)
  obtain ⟨hv, li, rr, ts, G, R, hW⟩ := hp
  subst hv
  refine lv_astore_n (lv' := [(1, .ref ho), (0, .ref b)]) hx hb dL_law_7 rfl hl (by decide) rfl (fun ls hl => ?_)
  obtain ⟨o, eo⟩ : ∃ z : Nat, z = H2.size := ⟨_, rfl⟩
  refine lv_bipush (v := 10) hx hb dL_law_8 (by decide) ?_
  refine hk_newi (N := 10) X K (by decide +kernel) hS (by decide) (by decide) (Nat.le_of_ble_eq_true rfl) (Nat.le_of_ble_eq_true rfl) (Nat.le_of_ble_eq_true rfl) dL_law_10 (fun HA0 hI0 hzHA0 hqHA0 hS => ?_)
  rw [show H2.size = o + 0 by omega] at hI0 ⊢
  have hzHA0 : HA0.size = o + 1 := by omega
  refine lv_astore_n (lv' := [(2, .ref (o + 0)), (1, .ref ho), (0, .ref b)]) hx hb dL_law_12 rfl hl (by decide) rfl (fun ls hl => ?_)
  refine lv_bipush (v := 8) hx hb dL_law_13 (by decide) ?_
  refine hk_newi (N := 8) X K (by decide +kernel) hS (by decide) (by decide) (Nat.le_of_ble_eq_true rfl) (Nat.le_of_ble_eq_true rfl) (Nat.le_of_ble_eq_true rfl) dL_law_15 (fun HA1 hI1 hzHA1 hqHA1 hS => ?_)
  rw [show HA0.size = o + 1 by omega] at hI1 ⊢
  have hzHA1 : HA1.size = o + 2 := by omega
  have hI0 := (hqHA1 _ (show o + 0 < HA0.size by omega)).trans hI0
  refine lv_astore_n (lv' := [(3, .ref (o + 1)), (2, .ref (o + 0)), (1, .ref ho), (0, .ref b)]) hx hb dL_law_17 rfl hl (by decide) rfl (fun ls hl => ?_)
  refine lv_bipush (v := 8) hx hb dL_law_18 (by decide) ?_
  refine hk_newi (N := 8) X K (by decide +kernel) hS (by decide) (by decide) (Nat.le_of_ble_eq_true rfl) (Nat.le_of_ble_eq_true rfl) (Nat.le_of_ble_eq_true rfl) dL_law_20 (fun HA2 hI2 hzHA2 hqHA2 hS => ?_)
  rw [show HA1.size = o + 2 by omega] at hI2 ⊢
  have hzHA2 : HA2.size = o + 3 := by omega
  have hI0 := (hqHA2 _ (show o + 0 < HA1.size by omega)).trans hI0
  have hI1 := (hqHA2 _ (show o + 1 < HA1.size by omega)).trans hI1
  refine lv_astore (lv' := [(4, .ref (o + 2)), (3, .ref (o + 1)), (2, .ref (o + 0)), (1, .ref ho), (0, .ref b)]) hx hb dL_law_22 hl (by decide) rfl (fun ls hl => ?_)
  refine lv_bipush (v := 16) hx hb dL_law_24 (by decide) ?_
  refine hk_newi (N := 16) X K (by decide +kernel) hS (by decide) (by decide) (Nat.le_of_ble_eq_true rfl) (Nat.le_of_ble_eq_true rfl) (Nat.le_of_ble_eq_true rfl) dL_law_26 (fun HA3 hI3 hzHA3 hqHA3 hS => ?_)
  rw [show HA2.size = o + 3 by omega] at hI3 ⊢
  have hzHA3 : HA3.size = o + 4 := by omega
  have hI0 := (hqHA3 _ (show o + 0 < HA2.size by omega)).trans hI0
  have hI1 := (hqHA3 _ (show o + 1 < HA2.size by omega)).trans hI1
  have hI2 := (hqHA3 _ (show o + 2 < HA2.size by omega)).trans hI2
  refine lv_astore (lv' := [(5, .ref (o + 3)), (4, .ref (o + 2)), (3, .ref (o + 1)), (2, .ref (o + 0)), (1, .ref ho), (0, .ref b)]) hx hb dL_law_28 hl (by decide) rfl (fun ls hl => ?_)
  refine lv_bipush (v := 9) hx hb dL_law_30 (by decide) ?_
  refine hk_newi (N := 9) X K (by decide +kernel) hS (by decide) (by decide) (Nat.le_of_ble_eq_true rfl) (Nat.le_of_ble_eq_true rfl) (Nat.le_of_ble_eq_true rfl) dL_law_32 (fun HA4 hI4 hzHA4 hqHA4 hS => ?_)
  rw [show HA3.size = o + 4 by omega] at hI4 ⊢
  have hzHA4 : HA4.size = o + 5 := by omega
  have hI0 := (hqHA4 _ (show o + 0 < HA3.size by omega)).trans hI0
  have hI1 := (hqHA4 _ (show o + 1 < HA3.size by omega)).trans hI1
  have hI2 := (hqHA4 _ (show o + 2 < HA3.size by omega)).trans hI2
  have hI3 := (hqHA4 _ (show o + 3 < HA3.size by omega)).trans hI3
  refine lv_astore (lv' := [(6, .ref (o + 4)), (5, .ref (o + 3)), (4, .ref (o + 2)), (3, .ref (o + 1)), (2, .ref (o + 0)), (1, .ref ho), (0, .ref b)]) hx hb dL_law_34 hl (by decide) rfl (fun ls hl => ?_)
  refine lv_bipush (v := 24) hx hb dL_law_36 (by decide) ?_
  refine hk_newi (N := 24) X K (by decide +kernel) hS (by decide) (by decide) (Nat.le_of_ble_eq_true rfl) (Nat.le_of_ble_eq_true rfl) (Nat.le_of_ble_eq_true rfl) dL_law_38 (fun HA5 hI5 hzHA5 hqHA5 hS => ?_)
  rw [show HA4.size = o + 5 by omega] at hI5 ⊢
  have hzHA5 : HA5.size = o + 6 := by omega
  have hI0 := (hqHA5 _ (show o + 0 < HA4.size by omega)).trans hI0
  have hI1 := (hqHA5 _ (show o + 1 < HA4.size by omega)).trans hI1
  have hI2 := (hqHA5 _ (show o + 2 < HA4.size by omega)).trans hI2
  have hI3 := (hqHA5 _ (show o + 3 < HA4.size by omega)).trans hI3
  have hI4 := (hqHA5 _ (show o + 4 < HA4.size by omega)).trans hI4
  refine lv_astore (lv' := [(7, .ref (o + 5)), (6, .ref (o + 4)), (5, .ref (o + 3)), (4, .ref (o + 2)), (3, .ref (o + 1)), (2, .ref (o + 0)), (1, .ref ho), (0, .ref b)]) hx hb dL_law_40 hl (by decide) rfl (fun ls hl => ?_)
  refine lv_bipush (v := 24) hx hb dL_law_42 (by decide) ?_
  refine hk_newi (N := 24) X K (by decide +kernel) hS (by decide) (by decide) (Nat.le_of_ble_eq_true rfl) (Nat.le_of_ble_eq_true rfl) (Nat.le_of_ble_eq_true rfl) dL_law_44 (fun HA6 hI6 hzHA6 hqHA6 hS => ?_)
  rw [show HA5.size = o + 6 by omega] at hI6 ⊢
  have hzHA6 : HA6.size = o + 7 := by omega
  have hI0 := (hqHA6 _ (show o + 0 < HA5.size by omega)).trans hI0
  have hI1 := (hqHA6 _ (show o + 1 < HA5.size by omega)).trans hI1
  have hI2 := (hqHA6 _ (show o + 2 < HA5.size by omega)).trans hI2
  have hI3 := (hqHA6 _ (show o + 3 < HA5.size by omega)).trans hI3
  have hI4 := (hqHA6 _ (show o + 4 < HA5.size by omega)).trans hI4
  have hI5 := (hqHA6 _ (show o + 5 < HA5.size by omega)).trans hI5
  refine lv_astore (lv' := [(8, .ref (o + 6)), (7, .ref (o + 5)), (6, .ref (o + 4)), (5, .ref (o + 3)), (4, .ref (o + 2)), (3, .ref (o + 1)), (2, .ref (o + 0)), (1, .ref ho), (0, .ref b)]) hx hb dL_law_46 hl (by decide) rfl (fun ls hl => ?_)
  refine lv_bipush (v := 24) hx hb dL_law_48 (by decide) ?_
  refine hk_newi (N := 24) X K (by decide +kernel) hS (by decide) (by decide) (Nat.le_of_ble_eq_true rfl) (Nat.le_of_ble_eq_true rfl) (Nat.le_of_ble_eq_true rfl) dL_law_50 (fun HA7 hI7 hzHA7 hqHA7 hS => ?_)
  rw [show HA6.size = o + 7 by omega] at hI7 ⊢
  have hzHA7 : HA7.size = o + 8 := by omega
  have hI0 := (hqHA7 _ (show o + 0 < HA6.size by omega)).trans hI0
  have hI1 := (hqHA7 _ (show o + 1 < HA6.size by omega)).trans hI1
  have hI2 := (hqHA7 _ (show o + 2 < HA6.size by omega)).trans hI2
  have hI3 := (hqHA7 _ (show o + 3 < HA6.size by omega)).trans hI3
  have hI4 := (hqHA7 _ (show o + 4 < HA6.size by omega)).trans hI4
  have hI5 := (hqHA7 _ (show o + 5 < HA6.size by omega)).trans hI5
  have hI6 := (hqHA7 _ (show o + 6 < HA6.size by omega)).trans hI6
  refine lv_astore (lv' := [(9, .ref (o + 7)), (8, .ref (o + 6)), (7, .ref (o + 5)), (6, .ref (o + 4)), (5, .ref (o + 3)), (4, .ref (o + 2)), (3, .ref (o + 1)), (2, .ref (o + 0)), (1, .ref ho), (0, .ref b)]) hx hb dL_law_52 hl (by decide) rfl (fun ls hl => ?_)
  refine lv_bipush (v := 24) hx hb dL_law_54 (by decide) ?_
  refine hk_newi (N := 24) X K (by decide +kernel) hS (by decide) (by decide) (Nat.le_of_ble_eq_true rfl) (Nat.le_of_ble_eq_true rfl) (Nat.le_of_ble_eq_true rfl) dL_law_56 (fun HA8 hI8 hzHA8 hqHA8 hS => ?_)
  rw [show HA7.size = o + 8 by omega] at hI8 ⊢
  have hzHA8 : HA8.size = o + 9 := by omega
  have hI0 := (hqHA8 _ (show o + 0 < HA7.size by omega)).trans hI0
  have hI1 := (hqHA8 _ (show o + 1 < HA7.size by omega)).trans hI1
  have hI2 := (hqHA8 _ (show o + 2 < HA7.size by omega)).trans hI2
  have hI3 := (hqHA8 _ (show o + 3 < HA7.size by omega)).trans hI3
  have hI4 := (hqHA8 _ (show o + 4 < HA7.size by omega)).trans hI4
  have hI5 := (hqHA8 _ (show o + 5 < HA7.size by omega)).trans hI5
  have hI6 := (hqHA8 _ (show o + 6 < HA7.size by omega)).trans hI6
  have hI7 := (hqHA8 _ (show o + 7 < HA7.size by omega)).trans hI7
  refine lv_astore (lv' := [(10, .ref (o + 8)), (9, .ref (o + 7)), (8, .ref (o + 6)), (7, .ref (o + 5)), (6, .ref (o + 4)), (5, .ref (o + 3)), (4, .ref (o + 2)), (3, .ref (o + 1)), (2, .ref (o + 0)), (1, .ref ho), (0, .ref b)]) hx hb dL_law_58 hl (by decide) rfl (fun ls hl => ?_)
  refine lv_bipush (v := 16) hx hb dL_law_60 (by decide) ?_
  refine hk_newi (N := 16) X K (by decide +kernel) hS (by decide) (by decide) (Nat.le_of_ble_eq_true rfl) (Nat.le_of_ble_eq_true rfl) (Nat.le_of_ble_eq_true rfl) dL_law_62 (fun HA9 hI9 hzHA9 hqHA9 hS => ?_)
  rw [show HA8.size = o + 9 by omega] at hI9 ⊢
  have hzHA9 : HA9.size = o + 10 := by omega
  have hI0 := (hqHA9 _ (show o + 0 < HA8.size by omega)).trans hI0
  have hI1 := (hqHA9 _ (show o + 1 < HA8.size by omega)).trans hI1
  have hI2 := (hqHA9 _ (show o + 2 < HA8.size by omega)).trans hI2
  have hI3 := (hqHA9 _ (show o + 3 < HA8.size by omega)).trans hI3
  have hI4 := (hqHA9 _ (show o + 4 < HA8.size by omega)).trans hI4
  have hI5 := (hqHA9 _ (show o + 5 < HA8.size by omega)).trans hI5
  have hI6 := (hqHA9 _ (show o + 6 < HA8.size by omega)).trans hI6
  have hI7 := (hqHA9 _ (show o + 7 < HA8.size by omega)).trans hI7
  have hI8 := (hqHA9 _ (show o + 8 < HA8.size by omega)).trans hI8
  refine lv_astore (lv' := [(11, .ref (o + 9)), (10, .ref (o + 8)), (9, .ref (o + 7)), (8, .ref (o + 6)), (7, .ref (o + 5)), (6, .ref (o + 4)), (5, .ref (o + 3)), (4, .ref (o + 2)), (3, .ref (o + 1)), (2, .ref (o + 0)), (1, .ref ho), (0, .ref b)]) hx hb dL_law_64 hl (by decide) rfl (fun ls hl => ?_)
  refine lv_bipush (v := 6) hx hb dL_law_66 (by decide) ?_
  refine hk_newi (N := 6) X K (by decide +kernel) hS (by decide) (by decide) (Nat.le_of_ble_eq_true rfl) (Nat.le_of_ble_eq_true rfl) (Nat.le_of_ble_eq_true rfl) dL_law_68 (fun HA10 hI10 hzHA10 hqHA10 hS => ?_)
  rw [show HA9.size = o + 10 by omega] at hI10 ⊢
  have hzHA10 : HA10.size = o + 11 := by omega
  have hI0 := (hqHA10 _ (show o + 0 < HA9.size by omega)).trans hI0
  have hI1 := (hqHA10 _ (show o + 1 < HA9.size by omega)).trans hI1
  have hI2 := (hqHA10 _ (show o + 2 < HA9.size by omega)).trans hI2
  have hI3 := (hqHA10 _ (show o + 3 < HA9.size by omega)).trans hI3
  have hI4 := (hqHA10 _ (show o + 4 < HA9.size by omega)).trans hI4
  have hI5 := (hqHA10 _ (show o + 5 < HA9.size by omega)).trans hI5
  have hI6 := (hqHA10 _ (show o + 6 < HA9.size by omega)).trans hI6
  have hI7 := (hqHA10 _ (show o + 7 < HA9.size by omega)).trans hI7
  have hI8 := (hqHA10 _ (show o + 8 < HA9.size by omega)).trans hI8
  have hI9 := (hqHA10 _ (show o + 9 < HA9.size by omega)).trans hI9
  refine lv_astore (lv' := [(12, .ref (o + 10)), (11, .ref (o + 9)), (10, .ref (o + 8)), (9, .ref (o + 7)), (8, .ref (o + 6)), (7, .ref (o + 5)), (6, .ref (o + 4)), (5, .ref (o + 3)), (4, .ref (o + 2)), (3, .ref (o + 1)), (2, .ref (o + 0)), (1, .ref ho), (0, .ref b)]) hx hb dL_law_70 hl (by decide) rfl (fun ls hl => ?_)
  refine lv_bipush (v := 24) hx hb dL_law_72 (by decide) ?_
  refine hk_newi (N := 24) X K (by decide +kernel) hS (by decide) (by decide) (Nat.le_of_ble_eq_true rfl) (Nat.le_of_ble_eq_true rfl) (Nat.le_of_ble_eq_true rfl) dL_law_74 (fun HA11 hI11 hzHA11 hqHA11 hS => ?_)
  rw [show HA10.size = o + 11 by omega] at hI11 ⊢
  have hzHA11 : HA11.size = o + 12 := by omega
  have hI0 := (hqHA11 _ (show o + 0 < HA10.size by omega)).trans hI0
  have hI1 := (hqHA11 _ (show o + 1 < HA10.size by omega)).trans hI1
  have hI2 := (hqHA11 _ (show o + 2 < HA10.size by omega)).trans hI2
  have hI3 := (hqHA11 _ (show o + 3 < HA10.size by omega)).trans hI3
  have hI4 := (hqHA11 _ (show o + 4 < HA10.size by omega)).trans hI4
  have hI5 := (hqHA11 _ (show o + 5 < HA10.size by omega)).trans hI5
  have hI6 := (hqHA11 _ (show o + 6 < HA10.size by omega)).trans hI6
  have hI7 := (hqHA11 _ (show o + 7 < HA10.size by omega)).trans hI7
  have hI8 := (hqHA11 _ (show o + 8 < HA10.size by omega)).trans hI8
  have hI9 := (hqHA11 _ (show o + 9 < HA10.size by omega)).trans hI9
  have hI10 := (hqHA11 _ (show o + 10 < HA10.size by omega)).trans hI10
  refine lv_astore (lv' := [(13, .ref (o + 11)), (12, .ref (o + 10)), (11, .ref (o + 9)), (10, .ref (o + 8)), (9, .ref (o + 7)), (8, .ref (o + 6)), (7, .ref (o + 5)), (6, .ref (o + 4)), (5, .ref (o + 3)), (4, .ref (o + 2)), (3, .ref (o + 1)), (2, .ref (o + 0)), (1, .ref ho), (0, .ref b)]) hx hb dL_law_76 hl (by decide) rfl (fun ls hl => ?_)
  refine lv_bipush (v := 24) hx hb dL_law_78 (by decide) ?_
  refine hk_newi (N := 24) X K (by decide +kernel) hS (by decide) (by decide) (Nat.le_of_ble_eq_true rfl) (Nat.le_of_ble_eq_true rfl) (Nat.le_of_ble_eq_true rfl) dL_law_80 (fun HA12 hI12 hzHA12 hqHA12 hS => ?_)
  rw [show HA11.size = o + 12 by omega] at hI12 ⊢
  have hzHA12 : HA12.size = o + 13 := by omega
  have hI0 := (hqHA12 _ (show o + 0 < HA11.size by omega)).trans hI0
  have hI1 := (hqHA12 _ (show o + 1 < HA11.size by omega)).trans hI1
  have hI2 := (hqHA12 _ (show o + 2 < HA11.size by omega)).trans hI2
  have hI3 := (hqHA12 _ (show o + 3 < HA11.size by omega)).trans hI3
  have hI4 := (hqHA12 _ (show o + 4 < HA11.size by omega)).trans hI4
  have hI5 := (hqHA12 _ (show o + 5 < HA11.size by omega)).trans hI5
  have hI6 := (hqHA12 _ (show o + 6 < HA11.size by omega)).trans hI6
  have hI7 := (hqHA12 _ (show o + 7 < HA11.size by omega)).trans hI7
  have hI8 := (hqHA12 _ (show o + 8 < HA11.size by omega)).trans hI8
  have hI9 := (hqHA12 _ (show o + 9 < HA11.size by omega)).trans hI9
  have hI10 := (hqHA12 _ (show o + 10 < HA11.size by omega)).trans hI10
  have hI11 := (hqHA12 _ (show o + 11 < HA11.size by omega)).trans hI11
  refine lv_astore (lv' := [(14, .ref (o + 12)), (13, .ref (o + 11)), (12, .ref (o + 10)), (11, .ref (o + 9)), (10, .ref (o + 8)), (9, .ref (o + 7)), (8, .ref (o + 6)), (7, .ref (o + 5)), (6, .ref (o + 4)), (5, .ref (o + 3)), (4, .ref (o + 2)), (3, .ref (o + 1)), (2, .ref (o + 0)), (1, .ref ho), (0, .ref b)]) hx hb dL_law_82 hl (by decide) rfl (fun ls hl => ?_)
  refine lv_iconst (v := 1) hx hb dL_law_84 (by decide) ?_
  refine lv_istore (lv' := [(15, .int 1), (14, .ref (o + 12)), (13, .ref (o + 11)), (12, .ref (o + 10)), (11, .ref (o + 9)), (10, .ref (o + 8)), (9, .ref (o + 7)), (8, .ref (o + 6)), (7, .ref (o + 5)), (6, .ref (o + 4)), (5, .ref (o + 3)), (4, .ref (o + 2)), (3, .ref (o + 1)), (2, .ref (o + 0)), (1, .ref ho), (0, .ref b)]) hx hb dL_law_85 hl (by decide) rfl (fun ls hl => ?_)
  refine lv_iconst (v := 0) hx hb dL_law_87 (by decide) ?_
  refine lv_istore (lv' := [(16, .int 0), (15, .int 1), (14, .ref (o + 12)), (13, .ref (o + 11)), (12, .ref (o + 10)), (11, .ref (o + 9)), (10, .ref (o + 8)), (9, .ref (o + 7)), (8, .ref (o + 6)), (7, .ref (o + 5)), (6, .ref (o + 4)), (5, .ref (o + 3)), (4, .ref (o + 2)), (3, .ref (o + 1)), (2, .ref (o + 0)), (1, .ref ho), (0, .ref b)]) hx hb dL_law_88 hl (by decide) rfl (fun ls hl => ?_)
  have hq13 : ∀ q : Nat, q < H2.size → HA12[q]? = H2[q]? := fun q h => (hqHA12 q (by omega)).trans ((hqHA11 q (by omega)).trans ((hqHA10 q (by omega)).trans ((hqHA9 q (by omega)).trans ((hqHA8 q (by omega)).trans ((hqHA7 q (by omega)).trans ((hqHA6 q (by omega)).trans ((hqHA5 q (by omega)).trans ((hqHA4 q (by omega)).trans ((hqHA3 q (by omega)).trans ((hqHA2 q (by omega)).trans ((hqHA1 q (by omega)).trans (hqHA0 q h))))))))))))
  obtain ⟨la, ela⟩ : ∃ la : Nat → Nat, la = fun k => o + k := ⟨_, rfl⟩
  have hlk : ∀ k, la k = o + k := fun k => by rw [ela]
  have hW : HW E (fun q => hk_A E q ∧ (q < o ∨ o + 13 ≤ q)) (ho, li, rr, ts) G R S0 HA12 := (hW.zone (fun q h1 h2 => ⟨h2, Or.inl (by omega)⟩) (fun q h => h.1)).kept (fun q h _ => hq13 q h)
  have hA0 : ∀ k, hk_A E (la k) := fun k => by rw [hlk]; show E.2.2.1 ≤ o + k; omega
  have hLa : LW E la (fun _ _ => 0) HA12 := LW.mk13 (by rw [hlk]; exact hI0) (by rw [hlk]; exact hI1) (by rw [hlk]; exact hI2) (by rw [hlk]; exact hI3) (by rw [hlk]; exact hI4) (by rw [hlk]; exact hI5) (by rw [hlk]; exact hI6) (by rw [hlk]; exact hI7) (by rw [hlk]; exact hI8) (by rw [hlk]; exact hI9) (by rw [hlk]; exact hI10) (by rw [hlk]; exact hI11) (by rw [hlk]; exact hI12)
  have hb4 : o + 13 ≤ HA12.size := by omega
  have hnz : ∀ k, k < 13 → ¬ (hk_A E (la k) ∧ (la k < o ∨ o + 13 ≤ la k)) := fun k hk h => by
    have h2 := h.2
    rw [hlk] at h2
    omega
  have hinj : ∀ a, a < 13 → ∀ b, b < 13 → la a = la b → a = b := fun a _ b _ h => by rw [hlk, hlk] at h; omega
  have G0 : lw_G p l s m meth c b L xs E (fun q => hk_A E q ∧ (q < o ∨ o + 13 ≤ q)) la (o + 13) := ⟨hl9, hL, C0, X, K, hE, fun q h => ⟨by show E.2.2.1 ≤ q; omega, Or.inr h⟩, hnz, hinj, fun k _ => hA0 k⟩
  have L90 : ∀ (n9 j9 : Nat) (H : Heap) (locs : List Loc) (Cf : Nat → Int32), 11 ≤ j9 + n9 → (va_S (hk_A E) s.heap H locs ∧ HW E (fun q => hk_A E q ∧ (q < o ∨ o + 13 ≤ q)) (ho, li, rr, ts) G R S0 H ∧ LW E la (va_up (fun _ _ => 0) 0 Cf) H ∧ o + 13 ≤ H.size ∧ j9 ≤ 10 ∧ ∀ i, i < j9 → Cf i = 1000) → ∀ (ls : Array Slot), lv_has ls 26 [(16, .int (nI j9)), (15, .int 1), (2, .ref (la 0)), (3, .ref (la 1)), (4, .ref (la 2)), (5, .ref (la 3)), (6, .ref (la 4)), (7, .ref (la 5)), (8, .ref (la 6)), (9, .ref (la 7)), (10, .ref (la 8)), (11, .ref (la 9)), (12, .ref (la 10)), (13, .ref (la 11)), (14, .ref (la 12)), (1, .ref ho), (0, .ref b)] → W p l e room_1 s m #[Value.ref b] below meth c H locs (200 + 40 * 0 + 3100 * (0 / 5)) (8000 + 2000 * 0 + 155000 * (0 / 5)) (lw_Z below #[Value.ref b] s) (F0 m 90 ls []) := by
    intro n9
    induction n9 with
    | zero =>
      intro j9 H locs Cf hm9 ⟨hS, hW, hLa, hb4, hj, hC⟩ ls hl
      exact absurd hm9 (by omega)
    | succ n9 ih =>
      intro j9 H locs Cf hm9 ⟨hS, hW, hLa, hb4, hj, hC⟩ ls hl
      refine lv_iload hx hb dL_law_90 (lv_at hl 0 rfl) ?_
      refine lv_bipush (v := 10) hx hb dL_law_92 (by decide) ?_
      refine lv_icmp_ge (tgt := 110) hx hb dL_law_94 (by decide) (fun c_94 => ?_) (fun c_94 => ?_)
      · have hj9 : j9 = 10 := by
          have := (nI_leI (a := 10) (by omega) (by omega)).mp c_94
          omega
        refine lv_iconst (v := 0) hx hb dL_law_110 (by decide) ?_
        refine lv_istore (lv' := [(16, .int 0), (15, .int 1), (2, .ref (la 0)), (3, .ref (la 1)), (4, .ref (la 2)), (5, .ref (la 3)), (6, .ref (la 4)), (7, .ref (la 5)), (8, .ref (la 6)), (9, .ref (la 7)), (10, .ref (la 8)), (11, .ref (la 9)), (12, .ref (la 10)), (13, .ref (la 11)), (14, .ref (la 12)), (1, .ref ho), (0, .ref b)]) hx hb dL_law_111 hl (by decide) rfl (fun ls hl => ?_)
        exact law_loop G0 111 0 (by omega) (by omega) H locs ⟨G, R, va_up (fun _ _ => 0) 0 Cf, S0, invF_S0, lv_S0 (V := va_up (fun _ _ => 0) 0 Cf) (fun i hi => hC i (by omega)) (fun k hk => vu_ne hk), hW, hLa, hS, hb4, ⟨fun _ => rfl, fun h => by omega⟩⟩ ls (lv_sub hl [0, 1, 2, 3, 4, 5, 6, 7, 8, 9, 10, 11, 12, 13, 14, 15, 16] rfl)
      · have hj9 : j9 < 10 := Nat.lt_of_not_le (fun h => c_94 (nI_le (a := 10) h (by omega)))
        refine lv_aload_n hx hb dL_law_97 rfl (lv_at hl 2 rfl) ?_
        refine lv_iload hx hb dL_law_98 (lv_at hl 0 rfl) ?_
        refine lv_sipush (v := 1000) hx hb dL_law_100 (by decide) ?_
        refine hk_ist (f := Cf) X K hLa.c0 hS (hA0 0) (vp_in_nI (by omega) (by omega)) dL_law_103 (fun H3 locs3 hI3 hz3 hq3 hS => ?_)
        rw [nI_clamp (show j9 < 2 ^ 31 by omega)] at hI3
        have hLb : LW E la (va_up (fun _ _ => 0) 0 (upd Cf j9 1000)) H3 := by
          have h := hLa.set hinj (j := 0) (by decide) hI3 hq3
          rw [va_up2] at h
          exact h
        have hW := hW.kept (fun q h1 h2 => hq3 q (fun g => h2.elim (fun h => hnz 0 (by decide) (by rw [← g]; exact h)) (fun h => h (by rw [g]; exact hA0 0))))
        obtain ⟨x2, ex2⟩ : ∃ y : Int32, y = nI j9 + 1 := ⟨_, rfl⟩
        refine lv_iinc (v := x2) (lv' := [(16, .int x2), (15, .int 1), (2, .ref (la 0)), (3, .ref (la 1)), (4, .ref (la 2)), (5, .ref (la 3)), (6, .ref (la 4)), (7, .ref (la 5)), (8, .ref (la 6)), (9, .ref (la 7)), (10, .ref (la 8)), (11, .ref (la 9)), (12, .ref (la 10)), (13, .ref (la 11)), (14, .ref (la 12)), (1, .ref ho), (0, .ref b)]) hx hb dL_law_104 hl (k := 0) rfl (by rw [ex2]; rfl) (by decide) rfl (fun ls hl => ?_)
        rw [nI_1] at ex2
        subst ex2
        refine lv_goto (tgt := 90) hx hb dL_law_107 (by decide) ?_
        exact ih (j9 + 1) H3 locs3 _ (by omega) ⟨hS, hW, hLb, by omega, by omega, fun i hi => by
          by_cases g : i = j9
          · rw [g, upd_at]
          · rw [upd_ne g]; exact hC i (by omega)⟩ ls (lv_sub hl [0, 1, 2, 3, 4, 5, 6, 7, 8, 9, 10, 11, 12, 13, 14, 15, 16] rfl)
  refine W.widen (k := 200 + 40 * 0 + 3100 * (0 / 5)) (n := 8000 + 2000 * 0 + 155000 * (0 / 5)) (Nat.le_of_ble_eq_true rfl) (Nat.le_of_ble_eq_true rfl) ?_
  exact L90 11 0 HA12 _ (fun _ => 0) (by omega) ⟨hS, hW, by rw [show va_up (fun _ _ => 0) 0 (fun _ => 0) = (fun _ _ => (0 : Int32)) from va_same (f := fun _ _ => (0 : Int32)) (k := 0)]; exact hLa, hb4, by omega, fun i h => absurd h (Nat.not_lt_zero _)⟩ ls (by
    have h := lv_sub hl [0, 1, 14, 13, 12, 11, 10, 9, 8, 7, 6, 5, 4, 3, 2, 15, 16] rfl
    rw [ela]
    exact h)
