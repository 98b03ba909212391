/-! The law, from its entry. -/
set_option maxRecDepth 100000 in
set_option maxHeartbeats 4000000 in
theorem whole_start {p : Program} {e : Env} {s : State} {m : MethodId} {below : List Frame} {meth : Method} {c : Code} (l : Launch) {b L : Nat} {xs : Nat → Int32} (hL : L ≤ 2050) (C0 : lw_At p s m meth c b L xs) : W p l e room_1 s m #[Value.ref b] below meth c s.heap [] 0 0 (lw_Z below #[Value.ref b] s) (entryFrame m ([Value.ref b] : List Value).toArray 4) := by
  obtain ⟨hx, hb, hr, hml, hown, hts0, hX, hbl, hlocks, hgv⟩ := id C0
  have hown : s.vm.findClass RL = some m.cls := hown
  have hts : ∀ w ∈ wsL_law, w.before #[Value.ref b] s = true := fun w h => hts0 w (law_in w h)
  have hbA : ¬ lwA s b := Nat.not_le.mpr hbl
  have hZ : zN s := law_zN hts0
  obtain ⟨E, rfl, hK⟩ := law_E l hts0
  have C : lwC p s m meth c b L xs E := ⟨C0, hK, hL⟩
  have hS : wS E.2.1 vwCl (lwA s) s.heap (fun _ => none) s.heap [] := ⟨fun a e h => (by cases h), fun q hq => absurd rfl hq, va_S.rf, fun q h => h⟩
  have hl := lv_entry ([.ref b]) (n := 4) (Nat.le_of_ble_eq_true rfl)
  rw [lg_entry_eq]
  generalize (lg_sl ([.ref b]) ++ List.replicate (4 - (lg_sl ([.ref b])).length) Slot.unset).toArray = ls at hl ⊢
  have hl : lv_has ls 4 [(0, .ref b)] := hl
  refine fw_new hx hb hts0 lz_4 tyX4 tyX4_ok hown lx_1_0 lx_1_1 lx_1_2 hK hS (ci := 4) rfl [.int 0, .null, .null, .null, .null, .null, .null, .null, .null, .null, .null, .null, .null, .null] (fun j hj => by match j, hj with | 0, _ => rfl | 1, _ => rfl | 2, _ => rfl | 3, _ => rfl | 4, _ => rfl | 5, _ => rfl | 6, _ => rfl | 7, _ => rfl | 8, _ => rfl | 9, _ => rfl | 10, _ => rfl | 11, _ => rfl | 12, _ => rfl | 13, _ => rfl) (Nat.le_of_ble_eq_true rfl) (Nat.le_of_ble_eq_true rfl) dL_law_0 (fun q1 H hq1 hS => ?_)
  refine W.widen (k := 1) (n := 14) (Nat.le_of_ble_eq_true rfl) (Nat.le_of_ble_eq_true rfl) ?_
  refine lv_dup hx hb dL_law_3 rfl ?_
  refine lv_aload_n hx hb dL_law_4 rfl (lv_at hl 0 rfl) ?_
  refine lv_iconst (v := 0) hx hb dL_law_5 (by decide) ?_
  refine fw_cell (k := 0) hx hb hml hown hts gL_law_L_cell hX hbl hbA hS (by omega) (by decide) [.ref q1, .ref q1] ⟨Nat.le_of_ble_eq_true rfl, Nat.le_of_ble_eq_true rfl⟩ hl.1 rfl (Nat.le_of_ble_eq_true rfl) dL_law_6 ⟨Nat.le_of_ble_eq_true rfl, Nat.le_of_ble_eq_true rfl⟩ (fun H locs hS => ?_)
  refine lv_aload_n hx hb dL_law_9 rfl (lv_at hl 0 rfl) ?_
  refine lv_iconst (v := 1) hx hb dL_law_10 (by decide) ?_
  refine fw_cell (k := 1) hx hb hml hown hts gL_law_L_cell hX hbl hbA hS (by omega) (by decide) [.int (cellv L xs 0), .ref q1, .ref q1] ⟨Nat.le_of_ble_eq_true rfl, Nat.le_of_ble_eq_true rfl⟩ hl.1 rfl (Nat.le_of_ble_eq_true rfl) dL_law_11 ⟨Nat.le_of_ble_eq_true rfl, Nat.le_of_ble_eq_true rfl⟩ (fun H locs hS => ?_)
  obtain ⟨a0, ha0⟩ : ∃ a0, cellv L xs 0 = a0 := ⟨_, rfl⟩
  obtain ⟨a1, ha1⟩ : ∃ a1, cellv L xs 1 = a1 := ⟨_, rfl⟩
  rw [ha0, ha1]
  refine fw_callI hx hb hml hown hts hK hZ hS [.int a0, .int a1] [.ref q1] (D4_init (E := E) (p1 := a0) (p2 := a1) (hp_self _ _ _)) gL_law_X4_init rfl 2 lm_10 lm_2 lm_11 rfl (by decide +kernel) ⟨Nat.le_of_ble_eq_true rfl, Nat.le_of_ble_eq_true rfl⟩ rfl hl.1 rfl (Nat.le_of_ble_eq_true rfl) dL_law_14 ⟨Nat.le_of_ble_eq_true rfl, Nat.le_of_ble_eq_true rfl⟩ (fun f2 H locs hv hS => ?_)
  obtain ⟨ad, had, Q⟩ := hv
  refine W.widen (k := 95) (n := 949) (Nat.le_of_ble_eq_true rfl) (Nat.le_of_ble_eq_true rfl) ?_
  refine lv_astore_n (lv' := [(1, .ref q1), (0, .ref b)]) hx hb dL_law_17 rfl hl (by decide) rfl (fun ls hl => ?_)
  refine fw_new hx hb hts0 lz_5 tyX5 tyX5_ok hown lx_1_3 lx_1_4 lx_1_5 hK hS (ci := 5) rfl [.int 0, .int 0, .null, .null, .int 0, .int 0, .int 0] (fun j hj => by match j, hj with | 0, _ => rfl | 1, _ => rfl | 2, _ => rfl | 3, _ => rfl | 4, _ => rfl | 5, _ => rfl | 6, _ => rfl) (Nat.le_of_ble_eq_true rfl) (Nat.le_of_ble_eq_true rfl) dL_law_18 (fun q2 H hq2 hS => ?_)
  refine W.widen (k := 96) (n := 956) (Nat.le_of_ble_eq_true rfl) (Nat.le_of_ble_eq_true rfl) ?_
  refine lv_dup hx hb dL_law_21 rfl ?_
  refine lv_aload_n hx hb dL_law_22 rfl (lv_at hl 1 rfl) ?_
  refine lv_iconst (v := 0) hx hb dL_law_23 (by decide) ?_
  refine fw_cell (k := 0) hx hb hml hown hts gL_law_L_cell hX hbl hbA hS (by omega) (by decide) [.ref q2, .ref q2] ⟨Nat.le_of_ble_eq_true rfl, Nat.le_of_ble_eq_true rfl⟩ hl.1 rfl (Nat.le_of_ble_eq_true rfl) dL_law_24 ⟨Nat.le_of_ble_eq_true rfl, Nat.le_of_ble_eq_true rfl⟩ (fun H locs hS => ?_)
  refine lv_aload_n hx hb dL_law_27 rfl (lv_at hl 1 rfl) ?_
  refine lv_iconst (v := 1) hx hb dL_law_28 (by decide) ?_
  refine fw_cell (k := 1) hx hb hml hown hts gL_law_L_cell hX hbl hbA hS (by omega) (by decide) [.int (cellv L xs 0), .ref q2, .ref q2] ⟨Nat.le_of_ble_eq_true rfl, Nat.le_of_ble_eq_true rfl⟩ hl.1 rfl (Nat.le_of_ble_eq_true rfl) dL_law_29 ⟨Nat.le_of_ble_eq_true rfl, Nat.le_of_ble_eq_true rfl⟩ (fun H locs hS => ?_)
  rw [ha0, ha1]
  refine fw_callI hx hb hml hown hts hK hZ hS [.int a0, .int a1] [.ref q2] (D5_init (E := E) (p1 := a0) (p2 := a1) (hp_self _ _ _)) gL_law_X5_init rfl 2 lm_93 lm_5 lm_94 rfl (by decide +kernel) ⟨Nat.le_of_ble_eq_true rfl, Nat.le_of_ble_eq_true rfl⟩ rfl hl.1 rfl (Nat.le_of_ble_eq_true rfl) dL_law_32 ⟨Nat.le_of_ble_eq_true rfl, Nat.le_of_ble_eq_true rfl⟩ (fun f4 H locs hv hS => ?_)
  obtain ⟨ab, as, h1, h2, P⟩ := hv
  refine W.widen (k := 98) (n := 1936) (Nat.le_of_ble_eq_true rfl) (Nat.le_of_ble_eq_true rfl) ?_
  refine lv_astore_n (lv' := [(2, .ref q2), (1, .ref q1), (0, .ref b)]) hx hb dL_law_35 rfl hl (by decide) rfl (fun ls hl => ?_)
  refine lv_iconst (v := 2) hx hb dL_law_36 (by decide) ?_
  refine lv_istore_n (lv' := [(3, .int 2), (2, .ref q2), (1, .ref q1), (0, .ref b)]) hx hb dL_law_37 rfl hl (by decide) rfl (fun ls hl => ?_)
  rw [← had] at hl
  exact law_loop C L 2 (by omega) (by omega) A0 (0, 0) f4 ls H locs (law_begin (szN_ok a0) (szN_ok a1) Q hq2 h1 h2 P) hl hS
