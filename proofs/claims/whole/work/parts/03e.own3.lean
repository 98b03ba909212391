/-! By program (wip/whole/gen.py), out of the printed names: do not edit. -/
/-! ContinuedRatios.set(III)I -/
def S_X4_set (E : cx) (h : Nat) (p1 : Int32) (p2 : Int32) (p3 : Int32) (f : hm) (K : Int32 → hm → Prop) : Prop := MI E.1 E.2.1 vwCl (eT E) yX4_set wsX4_set ({ frames := 5, cells := 0, slots := 0, locals := 138 }) [.ref h, .int p1, .int p2, .int p3] f K
theorem mm_X4_set_0 : Cond.fieldLink RX4 20 "ContinuedRatios" "result" "LContinuedRatios$Fraction;" ∈ wsX4_set := by decide +kernel
theorem mm_X4_set_1 : Cond.fieldLink RX4 88 "ContinuedRatios$Fraction" "upper" "LContinuedRatios$Natural;" ∈ wsX4_set := by decide +kernel
theorem mm_X4_set_2 : Cond.methodLink RX4 91 Lib.MathLoose.abs_long.x ∈ wsX4_set := by decide +kernel
theorem mm_X4_set_3 : Cond.static Lib.MathLoose.abs_long.x ∈ wsX4_set := by decide +kernel
theorem mm_X4_set_4 : Cond.initialized "java/lang/Math" ∈ wsX4_set := by decide +kernel
theorem mm_X4_set_5 : Cond.code Lib.MathLoose.abs_long.x Lib.MathLoose.abs_long.code 2 (some .long) ∈ wsX4_set := by decide +kernel
theorem mm_X4_set_6 : Cond.fieldLink RX4 77 "ContinuedRatios$Fraction" "lower" "LContinuedRatios$Natural;" ∈ wsX4_set := by decide +kernel
theorem mm_X4_set_7 : Cond.fieldLink RX4 101 "ContinuedRatios$Fraction" "signum" "I" ∈ wsX4_set := by decide +kernel
theorem mm_X4_set_8 : Cond.fieldLink RX4 26 "ContinuedRatios" "reducer" "LContinuedRatios$Reducer;" ∈ wsX4_set := by decide +kernel
theorem ii_X4_set_X4 : ∀ w ∈ u_ws RX4 TX4 14, w ∈ wsX4_set := by decide +kernel
theorem ii_X4_set_X0 : ∀ w ∈ u_ws RX0 TX0 3, w ∈ wsX4_set := by decide +kernel
def X_X4_set_0 (E : cx) (h : Nat) (p1 : Int32) (p2 : Int32) (p3 : Int32) (f : hm)  (K : Int32 → hm → Prop) : Prop :=
  (isO f h 4 ∧ S_X4_isRegister E h p1 f (fun (r3 : Int32) (f2 : hm) => ((¬ r3 = 0 → ((¬ p3 = 0 → (∃ v6 : Nat, rdV f2 h 4 3 = some (.ref v6) ∧ (∃ v7 : Nat, rdV f2 v6 0 1 = some (.ref v7) ∧ (isO f2 v7 1 ∧ S_X1_become E v7 (if 0 < p2.toInt64 then p2.toInt64 else -p2.toInt64) f2 (fun (f9 : hm) => (∃ v10 : Nat, rdV f9 h 4 3 = some (.ref v10) ∧ (∃ v11 : Nat, rdV f9 v10 0 2 = some (.ref v11) ∧ (isO f9 v11 1 ∧ S_X1_become E v11 (if 0 < p3.toInt64 then p3.toInt64 else -p3.toInt64) f9 (fun (f13 : hm) => (∃ v14 : Nat, rdV f13 h 4 3 = some (.ref v14) ∧ S_J6_signum_0f7a4 E p2 f13 (fun (r16 : Int32) (f15 : hm) => S_J6_signum_0f7a4 E p3 f15 (fun (r18 : Int32) (f17 : hm) => (∃ f19 : hm, wrV f17 v14 0 0 (.int (r16 * r18)) = some f19 ∧ (∃ v20 : Nat, rdV f19 h 4 4 = some (.ref v20) ∧ (∃ v21 : Nat, rdV f19 h 4 3 = some (.ref v21) ∧ (∃ v22 : Nat, rdV f19 v21 0 1 = some (.ref v22) ∧ (∃ v23 : Nat, rdV f19 h 4 3 = some (.ref v23) ∧ (∃ v24 : Nat, rdV f19 v23 0 2 = some (.ref v24) ∧ (isO f19 v20 3 ∧ S_X3_reduce E v20 v22 v24 f19 (fun (f26 : hm) => (isO f26 h 4 ∧ S_X4_keepResult E h p1 f26 (fun (r29 : Int32) (f28 : hm) => K r29 f28)))))))))))))))))))))) ∧ (p3 = 0 → K (2 : Int32) f2))) ∧ (r3 = 0 → K (3 : Int32) f2))))
set_option maxRecDepth 100000 in
set_option maxHeartbeats 4000000 in
theorem R_X4_set_0 {E : cx} {p : Program} {e : Env} {s : State} {m : MethodId} {below : List Frame} {meth : Method} {c : Code} {f0 : hm} {zh : Nat} {zp1 : Int32} {zp2 : Int32} {zp3 : Int32} (C : wB E.2.1 vwCl (eT E) yX4_set cX4_set 4 (some .int) wsX4_set [.ref zh, .int zp1, .int zp2, .int zp3] f0 p s m meth c) (h : Nat) (p1 : Int32) (p2 : Int32) (p3 : Int32) (f : hm)  {K : Int32 → hm → Prop} (hv : X_X4_set_0 E h p1 p2 p3 f  K) {ls : Array Slot} {H : Heap} {locs : List Loc} (hl : lv_has ls 4 [(0, .ref h), (1, .int p1), (2, .int p2), (3, .int p3)]) (hS : wS E.2.1 vwCl (wA f0 s.heap.size) s.heap f H locs)  : W p E.1 e ({ frames := 5, cells := 0, slots := 0, locals := 138 }) s m ([.ref zh, .int zp1, .int zp2, .int zp3] : List Value).toArray below meth c H locs 0 0 (MQ below (wQi f0 E.2.1 vwCl K s) ([.ref zh, .int zp1, .int zp2, .int zp3] : List Value).toArray s 0 0 (wA f0 s.heap.size)) (F0 m 0 ls []) := by
  obtain ⟨hx, hb, hml, hown, hts, hr, hlk, hnm, hK, -⟩ := C
  unfold X_X4_set_0 at hv
  refine lv_aload_n hx hb dX4_set_0 rfl (lv_at hl 0 rfl) ?_
  refine lv_iload_n hx hb dX4_set_1 rfl (lv_at hl 1 rfl) ?_
  obtain ⟨ho1, hv⟩ := hv
  refine fw_callVi hx hb hml hown hts hK hS [.int p1] [] hv gX4_set_X4_isRegister rfl rfl rfl 1 (by decide +kernel) ⟨Nat.le_of_ble_eq_true rfl, Nat.le_of_ble_eq_true rfl⟩ rfl rfl ho1 rfl hl.1 rfl (Nat.le_of_ble_eq_true rfl) dX4_set_2 ⟨Nat.zero_le _, Nat.zero_le _⟩ (fun r3 f2 H locs hv hS => ?_)
  refine lv_if_ne (tgt := 10) hx hb dX4_set_5 (by decide) (fun c4 => ?_) (fun c4 => ?_)
  · have hv := hv.1 c4
    refine lv_iload_n hx hb dX4_set_10 rfl (lv_at hl 3 rfl) ?_
    refine lv_if_ne (tgt := 16) hx hb dX4_set_11 (by decide) (fun c5 => ?_) (fun c5 => ?_)
    · have hv := hv.1 c5
      refine lv_aload_n hx hb dX4_set_16 rfl (lv_at hl 0 rfl) ?_
      obtain ⟨v6, ev6, hv⟩ := hv
      refine fw_get hx hb hts ii_X4_set_X4 hown hK hS 3 ev6 rfl (by decide) mm_X4_set_0 rfl dX4_set_17 ?_
      obtain ⟨v7, ev7, hv⟩ := hv
      refine fw_get hx hb hts ii_X4_set_X0 hown hK hS 1 ev7 rfl (by decide) mm_X4_set_1 rfl dX4_set_20 ?_
      refine lv_iload_n hx hb dX4_set_23 rfl (lv_at hl 2 rfl) ?_
      refine lv_i2l hx hb dX4_set_24 rfl ?_
      refine va_mabs_long hx hb (hml.trans hl.1.symm) hown (hts _ mm_X4_set_2) (hts _ mm_X4_set_3) (hts _ mm_X4_set_4) (hts _ mm_X4_set_5) (by decide) (Nat.le_of_ble_eq_true rfl) (Nat.zero_le _) (Nat.zero_le _) dX4_set_25 ?_
      obtain ⟨ho8, hv⟩ := hv
      refine fw_callVv hx hb hml hown hts hK hS [.long (if 0 < p2.toInt64 then p2.toInt64 else -p2.toInt64)] [] hv gX4_set_X1_become rfl rfl rfl 1 (by decide +kernel) ⟨Nat.le_of_ble_eq_true rfl, Nat.le_of_ble_eq_true rfl⟩ rfl rfl ho8 rfl hl.1 rfl (Nat.le_of_ble_eq_true rfl) dX4_set_28 ⟨Nat.zero_le _, Nat.zero_le _⟩ (fun f9 H locs hv hS => ?_)
      refine lv_aload_n hx hb dX4_set_31 rfl (lv_at hl 0 rfl) ?_
      obtain ⟨v10, ev10, hv⟩ := hv
      refine fw_get hx hb hts ii_X4_set_X4 hown hK hS 3 ev10 rfl (by decide) mm_X4_set_0 rfl dX4_set_32 ?_
      obtain ⟨v11, ev11, hv⟩ := hv
      refine fw_get hx hb hts ii_X4_set_X0 hown hK hS 2 ev11 rfl (by decide) mm_X4_set_6 rfl dX4_set_35 ?_
      refine lv_iload_n hx hb dX4_set_38 rfl (lv_at hl 3 rfl) ?_
      refine lv_i2l hx hb dX4_set_39 rfl ?_
      refine va_mabs_long hx hb (hml.trans hl.1.symm) hown (hts _ mm_X4_set_2) (hts _ mm_X4_set_3) (hts _ mm_X4_set_4) (hts _ mm_X4_set_5) (by decide) (Nat.le_of_ble_eq_true rfl) (Nat.zero_le _) (Nat.zero_le _) dX4_set_40 ?_
      obtain ⟨ho12, hv⟩ := hv
      refine fw_callVv hx hb hml hown hts hK hS [.long (if 0 < p3.toInt64 then p3.toInt64 else -p3.toInt64)] [] hv gX4_set_X1_become rfl rfl rfl 1 (by decide +kernel) ⟨Nat.le_of_ble_eq_true rfl, Nat.le_of_ble_eq_true rfl⟩ rfl rfl ho12 rfl hl.1 rfl (Nat.le_of_ble_eq_true rfl) dX4_set_43 ⟨Nat.zero_le _, Nat.zero_le _⟩ (fun f13 H locs hv hS => ?_)
      refine lv_aload_n hx hb dX4_set_46 rfl (lv_at hl 0 rfl) ?_
      obtain ⟨v14, ev14, hv⟩ := hv
      refine fw_get hx hb hts ii_X4_set_X4 hown hK hS 3 ev14 rfl (by decide) mm_X4_set_0 rfl dX4_set_47 ?_
      refine lv_iload_n hx hb dX4_set_50 rfl (lv_at hl 2 rfl) ?_
      refine fw_callSi hx hb hml hown hts hK hS [.int p2] [.ref v14] hv gX4_set_J6_signum_0f7a4 rfl rfl rfl 1 (by decide +kernel) ⟨Nat.le_of_ble_eq_true rfl, Nat.le_of_ble_eq_true rfl⟩ rfl hl.1 rfl (Nat.le_of_ble_eq_true rfl) dX4_set_51 ⟨Nat.zero_le _, Nat.zero_le _⟩ (fun r16 f15 H locs hv hS => ?_)
      refine lv_iload_n hx hb dX4_set_54 rfl (lv_at hl 3 rfl) ?_
      refine fw_callSi hx hb hml hown hts hK hS [.int p3] [.int r16, .ref v14] hv gX4_set_J6_signum_0f7a4 rfl rfl rfl 1 (by decide +kernel) ⟨Nat.le_of_ble_eq_true rfl, Nat.le_of_ble_eq_true rfl⟩ rfl hl.1 rfl (Nat.le_of_ble_eq_true rfl) dX4_set_55 ⟨Nat.zero_le _, Nat.zero_le _⟩ (fun r18 f17 H locs hv hS => ?_)
      refine lv_imul hx hb dX4_set_58 ?_
      obtain ⟨f19, ef19, hv⟩ := hv
      refine fw_put hx hb hts ii_X4_set_X0 tyX0 tyX0_ok nmX0 hown hK hS 0 ef19 rfl (by decide) mm_X4_set_7 rfl rfl rfl rfl dX4_set_59 (fun H locs hS => ?_)
      refine lv_aload_n hx hb dX4_set_62 rfl (lv_at hl 0 rfl) ?_
      obtain ⟨v20, ev20, hv⟩ := hv
      refine fw_get hx hb hts ii_X4_set_X4 hown hK hS 4 ev20 rfl (by decide) mm_X4_set_8 rfl dX4_set_63 ?_
      refine lv_aload_n hx hb dX4_set_66 rfl (lv_at hl 0 rfl) ?_
      obtain ⟨v21, ev21, hv⟩ := hv
      refine fw_get hx hb hts ii_X4_set_X4 hown hK hS 3 ev21 rfl (by decide) mm_X4_set_0 rfl dX4_set_67 ?_
      obtain ⟨v22, ev22, hv⟩ := hv
      refine fw_get hx hb hts ii_X4_set_X0 hown hK hS 1 ev22 rfl (by decide) mm_X4_set_1 rfl dX4_set_70 ?_
      refine lv_aload_n hx hb dX4_set_73 rfl (lv_at hl 0 rfl) ?_
      obtain ⟨v23, ev23, hv⟩ := hv
      refine fw_get hx hb hts ii_X4_set_X4 hown hK hS 3 ev23 rfl (by decide) mm_X4_set_0 rfl dX4_set_74 ?_
      obtain ⟨v24, ev24, hv⟩ := hv
      refine fw_get hx hb hts ii_X4_set_X0 hown hK hS 2 ev24 rfl (by decide) mm_X4_set_6 rfl dX4_set_77 ?_
      obtain ⟨ho25, hv⟩ := hv
      refine fw_callVv hx hb hml hown hts hK hS [.ref v22, .ref v24] [] hv gX4_set_X3_reduce rfl rfl rfl 2 (by decide +kernel) ⟨Nat.le_of_ble_eq_true rfl, Nat.le_of_ble_eq_true rfl⟩ rfl rfl ho25 rfl hl.1 rfl (Nat.le_of_ble_eq_true rfl) dX4_set_80 ⟨Nat.zero_le _, Nat.zero_le _⟩ (fun f26 H locs hv hS => ?_)
      refine lv_aload_n hx hb dX4_set_83 rfl (lv_at hl 0 rfl) ?_
      refine lv_iload_n hx hb dX4_set_84 rfl (lv_at hl 1 rfl) ?_
      obtain ⟨ho27, hv⟩ := hv
      refine fw_callVi hx hb hml hown hts hK hS [.int p1] [] hv gX4_set_X4_keepResult rfl rfl rfl 1 (by decide +kernel) ⟨Nat.le_of_ble_eq_true rfl, Nat.le_of_ble_eq_true rfl⟩ rfl rfl ho27 rfl hl.1 rfl (Nat.le_of_ble_eq_true rfl) dX4_set_85 ⟨Nat.zero_le _, Nat.zero_le _⟩ (fun r29 f28 H locs hv hS => ?_)
      exact fw_iret hx hb hr hlk hS hv dX4_set_88
    · have hv := hv.2 c5
      refine lv_iconst (v := 2) hx hb dX4_set_14 (by decide) ?_
      exact fw_iret hx hb hr hlk hS hv dX4_set_15
  · have hv := hv.2 c4
    refine lv_iconst (v := 3) hx hb dX4_set_8 (by decide) ?_
    exact fw_iret hx hb hr hlk hS hv dX4_set_9
set_option maxRecDepth 100000 in
set_option maxHeartbeats 4000000 in
theorem T_X4_set {E : cx} {h : Nat} {p1 : Int32} {p2 : Int32} {p3 : Int32} {f : hm} {K : Int32 → hm → Prop}  (h0 : X_X4_set_0 E h p1 p2 p3 f  K) : S_X4_set E h p1 p2 p3 f K := by
  refine MI_of (cc := cX4_set) (maxL := 4) (ret := (some .int)) (by decide) rfl ?_
  intro p e s m below meth c C
  have hl := lv_entry ([.ref h, .int p1, .int p2, .int p3]) (n := 4) (Nat.le_of_ble_eq_true rfl)
  rw [lg_entry_eq]
  generalize (lg_sl ([.ref h, .int p1, .int p2, .int p3]) ++ List.replicate (4 - (lg_sl ([.ref h, .int p1, .int p2, .int p3])).length) Slot.unset).toArray = ls at hl ⊢
  have hl : lv_has ls 4 [(0, .ref h), (1, .int p1), (2, .int p2), (3, .int p3)] := hl
  have hS := C.2.2.2.2.2.2.2.2.2
  exact R_X4_set_0 C h p1 p2 p3 f h0 hl hS
/-! ContinuedRatios.add(III)I -/
def S_X4_add (E : cx) (h : Nat) (p1 : Int32) (p2 : Int32) (p3 : Int32) (f : hm) (K : Int32 → hm → Prop) : Prop := MI E.1 E.2.1 vwCl (eT E) yX4_add wsX4_add ({ frames := 6, cells := 0, slots := 0, locals := 161 }) [.ref h, .int p1, .int p2, .int p3] f K
theorem mm_X4_add_0 : Cond.fieldLink RX4 73 "ContinuedRatios" "registers" "[LContinuedRatios$Fraction;" ∈ wsX4_add := by decide +kernel
theorem mm_X4_add_1 : Cond.fieldLink RX4 101 "ContinuedRatios$Fraction" "signum" "I" ∈ wsX4_add := by decide +kernel
theorem ii_X4_add_X4 : ∀ w ∈ u_ws RX4 TX4 14, w ∈ wsX4_add := by decide +kernel
theorem ii_X4_add_X0 : ∀ w ∈ u_ws RX0 TX0 3, w ∈ wsX4_add := by decide +kernel
def X_X4_add_0 (E : cx) (h : Nat) (p1 : Int32) (p2 : Int32) (p3 : Int32) (f : hm)  (K : Int32 → hm → Prop) : Prop :=
  (isO f h 4 ∧ S_X4_areRegisters E h p1 p2 p3 f (fun (r3 : Int32) (f2 : hm) => ((¬ r3 = 0 → (∃ v5 : Nat, rdV f2 h 4 1 = some (.ref v5) ∧ (∃ v6 : Nat, rdQ (eF E) f2 v5 p2 = some (some v6) ∧ (∃ v7 : Nat, rdV f2 h 4 1 = some (.ref v7) ∧ (∃ v8 : Nat, rdQ (eF E) f2 v7 p3 = some (some v8) ∧ (∃ v9 : Nat, rdV f2 h 4 1 = some (.ref v9) ∧ (∃ v10 : Nat, rdQ (eF E) f2 v9 p3 = some (some v10) ∧ (∃ v11 : Int32, rdV f2 v10 0 0 = some (.int v11) ∧ (isO f2 h 4 ∧ S_X4_addUp E h v6 v8 v11 f2 (fun (f13 : hm) => (isO f13 h 4 ∧ S_X4_keepResult E h p1 f13 (fun (r16 : Int32) (f15 : hm) => K r16 f15)))))))))))) ∧ (r3 = 0 → K (3 : Int32) f2))))
set_option maxRecDepth 100000 in
set_option maxHeartbeats 4000000 in
theorem R_X4_add_0 {E : cx} {p : Program} {e : Env} {s : State} {m : MethodId} {below : List Frame} {meth : Method} {c : Code} {f0 : hm} {zh : Nat} {zp1 : Int32} {zp2 : Int32} {zp3 : Int32} (C : wB E.2.1 vwCl (eT E) yX4_add cX4_add 4 (some .int) wsX4_add [.ref zh, .int zp1, .int zp2, .int zp3] f0 p s m meth c) (h : Nat) (p1 : Int32) (p2 : Int32) (p3 : Int32) (f : hm)  {K : Int32 → hm → Prop} (hv : X_X4_add_0 E h p1 p2 p3 f  K) {ls : Array Slot} {H : Heap} {locs : List Loc} (hl : lv_has ls 4 [(0, .ref h), (1, .int p1), (2, .int p2), (3, .int p3)]) (hS : wS E.2.1 vwCl (wA f0 s.heap.size) s.heap f H locs)  : W p E.1 e ({ frames := 6, cells := 0, slots := 0, locals := 161 }) s m ([.ref zh, .int zp1, .int zp2, .int zp3] : List Value).toArray below meth c H locs 0 0 (MQ below (wQi f0 E.2.1 vwCl K s) ([.ref zh, .int zp1, .int zp2, .int zp3] : List Value).toArray s 0 0 (wA f0 s.heap.size)) (F0 m 0 ls []) := by
  obtain ⟨hx, hb, hml, hown, hts, hr, hlk, hnm, hK, -⟩ := C
  unfold X_X4_add_0 at hv
  refine lv_aload_n hx hb dX4_add_0 rfl (lv_at hl 0 rfl) ?_
  refine lv_iload_n hx hb dX4_add_1 rfl (lv_at hl 1 rfl) ?_
  refine lv_iload_n hx hb dX4_add_2 rfl (lv_at hl 2 rfl) ?_
  refine lv_iload_n hx hb dX4_add_3 rfl (lv_at hl 3 rfl) ?_
  obtain ⟨ho1, hv⟩ := hv
  refine fw_callVi hx hb hml hown hts hK hS [.int p1, .int p2, .int p3] [] hv gX4_add_X4_areRegisters rfl rfl rfl 3 (by decide +kernel) ⟨Nat.le_of_ble_eq_true rfl, Nat.le_of_ble_eq_true rfl⟩ rfl rfl ho1 rfl hl.1 rfl (Nat.le_of_ble_eq_true rfl) dX4_add_4 ⟨Nat.zero_le _, Nat.zero_le _⟩ (fun r3 f2 H locs hv hS => ?_)
  refine lv_if_ne (tgt := 12) hx hb dX4_add_7 (by decide) (fun c4 => ?_) (fun c4 => ?_)
  · have hv := hv.1 c4
    refine lv_aload_n hx hb dX4_add_12 rfl (lv_at hl 0 rfl) ?_
    refine lv_aload_n hx hb dX4_add_13 rfl (lv_at hl 0 rfl) ?_
    obtain ⟨v5, ev5, hv⟩ := hv
    refine fw_get hx hb hts ii_X4_add_X4 hown hK hS 1 ev5 rfl (by decide) mm_X4_add_0 rfl dX4_add_14 ?_
    refine lv_iload_n hx hb dX4_add_17 rfl (lv_at hl 2 rfl) ?_
    obtain ⟨v6, ev6, hv⟩ := hv
    refine fw_aald hx hb hK hS 1 rfl ev6 dX4_add_18 ?_
    refine lv_aload_n hx hb dX4_add_19 rfl (lv_at hl 0 rfl) ?_
    obtain ⟨v7, ev7, hv⟩ := hv
    refine fw_get hx hb hts ii_X4_add_X4 hown hK hS 1 ev7 rfl (by decide) mm_X4_add_0 rfl dX4_add_20 ?_
    refine lv_iload_n hx hb dX4_add_23 rfl (lv_at hl 3 rfl) ?_
    obtain ⟨v8, ev8, hv⟩ := hv
    refine fw_aald hx hb hK hS 1 rfl ev8 dX4_add_24 ?_
    refine lv_aload_n hx hb dX4_add_25 rfl (lv_at hl 0 rfl) ?_
    obtain ⟨v9, ev9, hv⟩ := hv
    refine fw_get hx hb hts ii_X4_add_X4 hown hK hS 1 ev9 rfl (by decide) mm_X4_add_0 rfl dX4_add_26 ?_
    refine lv_iload_n hx hb dX4_add_29 rfl (lv_at hl 3 rfl) ?_
    obtain ⟨v10, ev10, hv⟩ := hv
    refine fw_aald hx hb hK hS 1 rfl ev10 dX4_add_30 ?_
    obtain ⟨v11, ev11, hv⟩ := hv
    refine fw_get hx hb hts ii_X4_add_X0 hown hK hS 0 ev11 rfl (by decide) mm_X4_add_1 rfl dX4_add_31 ?_
    obtain ⟨ho12, hv⟩ := hv
    refine fw_callVv hx hb hml hown hts hK hS [.ref v6, .ref v8, .int v11] [] hv gX4_add_X4_addUp rfl rfl rfl 3 (by decide +kernel) ⟨Nat.le_of_ble_eq_true rfl, Nat.le_of_ble_eq_true rfl⟩ rfl rfl ho12 rfl hl.1 rfl (Nat.le_of_ble_eq_true rfl) dX4_add_34 ⟨Nat.zero_le _, Nat.zero_le _⟩ (fun f13 H locs hv hS => ?_)
    refine lv_aload_n hx hb dX4_add_37 rfl (lv_at hl 0 rfl) ?_
    refine lv_iload_n hx hb dX4_add_38 rfl (lv_at hl 1 rfl) ?_
    obtain ⟨ho14, hv⟩ := hv
    refine fw_callVi hx hb hml hown hts hK hS [.int p1] [] hv gX4_add_X4_keepResult rfl rfl rfl 1 (by decide +kernel) ⟨Nat.le_of_ble_eq_true rfl, Nat.le_of_ble_eq_true rfl⟩ rfl rfl ho14 rfl hl.1 rfl (Nat.le_of_ble_eq_true rfl) dX4_add_39 ⟨Nat.zero_le _, Nat.zero_le _⟩ (fun r16 f15 H locs hv hS => ?_)
    exact fw_iret hx hb hr hlk hS hv dX4_add_42
  · have hv := hv.2 c4
    refine lv_iconst (v := 3) hx hb dX4_add_10 (by decide) ?_
    exact fw_iret hx hb hr hlk hS hv dX4_add_11
set_option maxRecDepth 100000 in
set_option maxHeartbeats 4000000 in
theorem T_X4_add {E : cx} {h : Nat} {p1 : Int32} {p2 : Int32} {p3 : Int32} {f : hm} {K : Int32 → hm → Prop}  (h0 : X_X4_add_0 E h p1 p2 p3 f  K) : S_X4_add E h p1 p2 p3 f K := by
  refine MI_of (cc := cX4_add) (maxL := 4) (ret := (some .int)) (by decide) rfl ?_
  intro p e s m below meth c C
  have hl := lv_entry ([.ref h, .int p1, .int p2, .int p3]) (n := 4) (Nat.le_of_ble_eq_true rfl)
  rw [lg_entry_eq]
  generalize (lg_sl ([.ref h, .int p1, .int p2, .int p3]) ++ List.replicate (4 - (lg_sl ([.ref h, .int p1, .int p2, .int p3])).length) Slot.unset).toArray = ls at hl ⊢
  have hl : lv_has ls 4 [(0, .ref h), (1, .int p1), (2, .int p2), (3, .int p3)] := hl
  have hS := C.2.2.2.2.2.2.2.2.2
  exact R_X4_add_0 C h p1 p2 p3 f h0 hl hS
/-! ContinuedRatios.sub(III)I -/
def S_X4_sub (E : cx) (h : Nat) (p1 : Int32) (p2 : Int32) (p3 : Int32) (f : hm) (K : Int32 → hm → Prop) : Prop := MI E.1 E.2.1 vwCl (eT E) yX4_sub wsX4_sub ({ frames := 6, cells := 0, slots := 0, locals := 161 }) [.ref h, .int p1, .int p2, .int p3] f K
theorem mm_X4_sub_0 : Cond.fieldLink RX4 73 "ContinuedRatios" "registers" "[LContinuedRatios$Fraction;" ∈ wsX4_sub := by decide +kernel
theorem mm_X4_sub_1 : Cond.fieldLink RX4 101 "ContinuedRatios$Fraction" "signum" "I" ∈ wsX4_sub := by decide +kernel
theorem ii_X4_sub_X4 : ∀ w ∈ u_ws RX4 TX4 14, w ∈ wsX4_sub := by decide +kernel
theorem ii_X4_sub_X0 : ∀ w ∈ u_ws RX0 TX0 3, w ∈ wsX4_sub := by decide +kernel
def X_X4_sub_0 (E : cx) (h : Nat) (p1 : Int32) (p2 : Int32) (p3 : Int32) (f : hm)  (K : Int32 → hm → Prop) : Prop :=
  (isO f h 4 ∧ S_X4_areRegisters E h p1 p2 p3 f (fun (r3 : Int32) (f2 : hm) => ((¬ r3 = 0 → (∃ v5 : Nat, rdV f2 h 4 1 = some (.ref v5) ∧ (∃ v6 : Nat, rdQ (eF E) f2 v5 p2 = some (some v6) ∧ (∃ v7 : Nat, rdV f2 h 4 1 = some (.ref v7) ∧ (∃ v8 : Nat, rdQ (eF E) f2 v7 p3 = some (some v8) ∧ (∃ v9 : Nat, rdV f2 h 4 1 = some (.ref v9) ∧ (∃ v10 : Nat, rdQ (eF E) f2 v9 p3 = some (some v10) ∧ (∃ v11 : Int32, rdV f2 v10 0 0 = some (.int v11) ∧ (isO f2 h 4 ∧ S_X4_addUp E h v6 v8 (-v11) f2 (fun (f13 : hm) => (isO f13 h 4 ∧ S_X4_keepResult E h p1 f13 (fun (r16 : Int32) (f15 : hm) => K r16 f15)))))))))))) ∧ (r3 = 0 → K (3 : Int32) f2))))
set_option maxRecDepth 100000 in
set_option maxHeartbeats 4000000 in
theorem R_X4_sub_0 {E : cx} {p : Program} {e : Env} {s : State} {m : MethodId} {below : List Frame} {meth : Method} {c : Code} {f0 : hm} {zh : Nat} {zp1 : Int32} {zp2 : Int32} {zp3 : Int32} (C : wB E.2.1 vwCl (eT E) yX4_sub cX4_sub 4 (some .int) wsX4_sub [.ref zh, .int zp1, .int zp2, .int zp3] f0 p s m meth c) (h : Nat) (p1 : Int32) (p2 : Int32) (p3 : Int32) (f : hm)  {K : Int32 → hm → Prop} (hv : X_X4_sub_0 E h p1 p2 p3 f  K) {ls : Array Slot} {H : Heap} {locs : List Loc} (hl : lv_has ls 4 [(0, .ref h), (1, .int p1), (2, .int p2), (3, .int p3)]) (hS : wS E.2.1 vwCl (wA f0 s.heap.size) s.heap f H locs)  : W p E.1 e ({ frames := 6, cells := 0, slots := 0, locals := 161 }) s m ([.ref zh, .int zp1, .int zp2, .int zp3] : List Value).toArray below meth c H locs 0 0 (MQ below (wQi f0 E.2.1 vwCl K s) ([.ref zh, .int zp1, .int zp2, .int zp3] : List Value).toArray s 0 0 (wA f0 s.heap.size)) (F0 m 0 ls []) := by
  obtain ⟨hx, hb, hml, hown, hts, hr, hlk, hnm, hK, -⟩ := C
  unfold X_X4_sub_0 at hv
  refine lv_aload_n hx hb dX4_sub_0 rfl (lv_at hl 0 rfl) ?_
  refine lv_iload_n hx hb dX4_sub_1 rfl (lv_at hl 1 rfl) ?_
  refine lv_iload_n hx hb dX4_sub_2 rfl (lv_at hl 2 rfl) ?_
  refine lv_iload_n hx hb dX4_sub_3 rfl (lv_at hl 3 rfl) ?_
  obtain ⟨ho1, hv⟩ := hv
  refine fw_callVi hx hb hml hown hts hK hS [.int p1, .int p2, .int p3] [] hv gX4_sub_X4_areRegisters rfl rfl rfl 3 (by decide +kernel) ⟨Nat.le_of_ble_eq_true rfl, Nat.le_of_ble_eq_true rfl⟩ rfl rfl ho1 rfl hl.1 rfl (Nat.le_of_ble_eq_true rfl) dX4_sub_4 ⟨Nat.zero_le _, Nat.zero_le _⟩ (fun r3 f2 H locs hv hS => ?_)
  refine lv_if_ne (tgt := 12) hx hb dX4_sub_7 (by decide) (fun c4 => ?_) (fun c4 => ?_)
  · have hv := hv.1 c4
    refine lv_aload_n hx hb dX4_sub_12 rfl (lv_at hl 0 rfl) ?_
    refine lv_aload_n hx hb dX4_sub_13 rfl (lv_at hl 0 rfl) ?_
    obtain ⟨v5, ev5, hv⟩ := hv
    refine fw_get hx hb hts ii_X4_sub_X4 hown hK hS 1 ev5 rfl (by decide) mm_X4_sub_0 rfl dX4_sub_14 ?_
    refine lv_iload_n hx hb dX4_sub_17 rfl (lv_at hl 2 rfl) ?_
    obtain ⟨v6, ev6, hv⟩ := hv
    refine fw_aald hx hb hK hS 1 rfl ev6 dX4_sub_18 ?_
    refine lv_aload_n hx hb dX4_sub_19 rfl (lv_at hl 0 rfl) ?_
    obtain ⟨v7, ev7, hv⟩ := hv
    refine fw_get hx hb hts ii_X4_sub_X4 hown hK hS 1 ev7 rfl (by decide) mm_X4_sub_0 rfl dX4_sub_20 ?_
    refine lv_iload_n hx hb dX4_sub_23 rfl (lv_at hl 3 rfl) ?_
    obtain ⟨v8, ev8, hv⟩ := hv
    refine fw_aald hx hb hK hS 1 rfl ev8 dX4_sub_24 ?_
    refine lv_aload_n hx hb dX4_sub_25 rfl (lv_at hl 0 rfl) ?_
    obtain ⟨v9, ev9, hv⟩ := hv
    refine fw_get hx hb hts ii_X4_sub_X4 hown hK hS 1 ev9 rfl (by decide) mm_X4_sub_0 rfl dX4_sub_26 ?_
    refine lv_iload_n hx hb dX4_sub_29 rfl (lv_at hl 3 rfl) ?_
    obtain ⟨v10, ev10, hv⟩ := hv
    refine fw_aald hx hb hK hS 1 rfl ev10 dX4_sub_30 ?_
    obtain ⟨v11, ev11, hv⟩ := hv
    refine fw_get hx hb hts ii_X4_sub_X0 hown hK hS 0 ev11 rfl (by decide) mm_X4_sub_1 rfl dX4_sub_31 ?_
    refine lv_ineg hx hb dX4_sub_34 ?_
    obtain ⟨ho12, hv⟩ := hv
    refine fw_callVv hx hb hml hown hts hK hS [.ref v6, .ref v8, .int (-v11)] [] hv gX4_sub_X4_addUp rfl rfl rfl 3 (by decide +kernel) ⟨Nat.le_of_ble_eq_true rfl, Nat.le_of_ble_eq_true rfl⟩ rfl rfl ho12 rfl hl.1 rfl (Nat.le_of_ble_eq_true rfl) dX4_sub_35 ⟨Nat.zero_le _, Nat.zero_le _⟩ (fun f13 H locs hv hS => ?_)
    refine lv_aload_n hx hb dX4_sub_38 rfl (lv_at hl 0 rfl) ?_
    refine lv_iload_n hx hb dX4_sub_39 rfl (lv_at hl 1 rfl) ?_
    obtain ⟨ho14, hv⟩ := hv
    refine fw_callVi hx hb hml hown hts hK hS [.int p1] [] hv gX4_sub_X4_keepResult rfl rfl rfl 1 (by decide +kernel) ⟨Nat.le_of_ble_eq_true rfl, Nat.le_of_ble_eq_true rfl⟩ rfl rfl ho14 rfl hl.1 rfl (Nat.le_of_ble_eq_true rfl) dX4_sub_40 ⟨Nat.zero_le _, Nat.zero_le _⟩ (fun r16 f15 H locs hv hS => ?_)
    exact fw_iret hx hb hr hlk hS hv dX4_sub_43
  · have hv := hv.2 c4
    refine lv_iconst (v := 3) hx hb dX4_sub_10 (by decide) ?_
    exact fw_iret hx hb hr hlk hS hv dX4_sub_11
set_option maxRecDepth 100000 in
set_option maxHeartbeats 4000000 in
theorem T_X4_sub {E : cx} {h : Nat} {p1 : Int32} {p2 : Int32} {p3 : Int32} {f : hm} {K : Int32 → hm → Prop}  (h0 : X_X4_sub_0 E h p1 p2 p3 f  K) : S_X4_sub E h p1 p2 p3 f K := by
  refine MI_of (cc := cX4_sub) (maxL := 4) (ret := (some .int)) (by decide) rfl ?_
  intro p e s m below meth c C
  have hl := lv_entry ([.ref h, .int p1, .int p2, .int p3]) (n := 4) (Nat.le_of_ble_eq_true rfl)
  rw [lg_entry_eq]
  generalize (lg_sl ([.ref h, .int p1, .int p2, .int p3]) ++ List.replicate (4 - (lg_sl ([.ref h, .int p1, .int p2, .int p3])).length) Slot.unset).toArray = ls at hl ⊢
  have hl : lv_has ls 4 [(0, .ref h), (1, .int p1), (2, .int p2), (3, .int p3)] := hl
  have hS := C.2.2.2.2.2.2.2.2.2
  exact R_X4_sub_0 C h p1 p2 p3 f h0 hl hS
/-! ContinuedRatios.mul(III)I -/
def S_X4_mul (E : cx) (h : Nat) (p1 : Int32) (p2 : Int32) (p3 : Int32) (f : hm) (K : Int32 → hm → Prop) : Prop := MI E.1 E.2.1 vwCl (eT E) yX4_mul wsX4_mul ({ frames := 6, cells := 0, slots := 0, locals := 162 }) [.ref h, .int p1, .int p2, .int p3] f K
theorem mm_X4_mul_0 : Cond.fieldLink RX4 73 "ContinuedRatios" "registers" "[LContinuedRatios$Fraction;" ∈ wsX4_mul := by decide +kernel
theorem mm_X4_mul_1 : Cond.fieldLink RX4 101 "ContinuedRatios$Fraction" "signum" "I" ∈ wsX4_mul := by decide +kernel
theorem mm_X4_mul_2 : Cond.fieldLink RX4 88 "ContinuedRatios$Fraction" "upper" "LContinuedRatios$Natural;" ∈ wsX4_mul := by decide +kernel
theorem mm_X4_mul_3 : Cond.fieldLink RX4 77 "ContinuedRatios$Fraction" "lower" "LContinuedRatios$Natural;" ∈ wsX4_mul := by decide +kernel
theorem ii_X4_mul_X4 : ∀ w ∈ u_ws RX4 TX4 14, w ∈ wsX4_mul := by decide +kernel
theorem ii_X4_mul_X0 : ∀ w ∈ u_ws RX0 TX0 3, w ∈ wsX4_mul := by decide +kernel
def X_X4_mul_0 (E : cx) (h : Nat) (p1 : Int32) (p2 : Int32) (p3 : Int32) (f : hm)  (K : Int32 → hm → Prop) : Prop :=
  (isO f h 4 ∧ S_X4_areRegisters E h p1 p2 p3 f (fun (r3 : Int32) (f2 : hm) => ((¬ r3 = 0 → (∃ v5 : Nat, rdV f2 h 4 1 = some (.ref v5) ∧ (∃ v6 : Nat, rdQ (eF E) f2 v5 p3 = some (some v6) ∧ (∃ v7 : Nat, rdV f2 h 4 1 = some (.ref v7) ∧ (∃ v8 : Nat, rdQ (eF E) f2 v7 p2 = some (some v8) ∧ (∃ v9 : Int32, rdV f2 v6 0 0 = some (.int v9) ∧ (∃ v10 : Nat, rdV f2 v6 0 1 = some (.ref v10) ∧ (∃ v11 : Nat, rdV f2 v6 0 2 = some (.ref v11) ∧ (isO f2 h 4 ∧ S_X4_multiply E h v8 v9 v10 v11 f2 (fun (f13 : hm) => (isO f13 h 4 ∧ S_X4_keepResult E h p1 f13 (fun (r16 : Int32) (f15 : hm) => K r16 f15)))))))))))) ∧ (r3 = 0 → K (3 : Int32) f2))))
set_option maxRecDepth 100000 in
set_option maxHeartbeats 4000000 in
theorem R_X4_mul_0 {E : cx} {p : Program} {e : Env} {s : State} {m : MethodId} {below : List Frame} {meth : Method} {c : Code} {f0 : hm} {zh : Nat} {zp1 : Int32} {zp2 : Int32} {zp3 : Int32} (C : wB E.2.1 vwCl (eT E) yX4_mul cX4_mul 5 (some .int) wsX4_mul [.ref zh, .int zp1, .int zp2, .int zp3] f0 p s m meth c) (h : Nat) (p1 : Int32) (p2 : Int32) (p3 : Int32) (f : hm)  {K : Int32 → hm → Prop} (hv : X_X4_mul_0 E h p1 p2 p3 f  K) {ls : Array Slot} {H : Heap} {locs : List Loc} (hl : lv_has ls 5 [(0, .ref h), (1, .int p1), (2, .int p2), (3, .int p3)]) (hS : wS E.2.1 vwCl (wA f0 s.heap.size) s.heap f H locs)  : W p E.1 e ({ frames := 6, cells := 0, slots := 0, locals := 162 }) s m ([.ref zh, .int zp1, .int zp2, .int zp3] : List Value).toArray below meth c H locs 0 0 (MQ below (wQi f0 E.2.1 vwCl K s) ([.ref zh, .int zp1, .int zp2, .int zp3] : List Value).toArray s 0 0 (wA f0 s.heap.size)) (F0 m 0 ls []) := by
  obtain ⟨hx, hb, hml, hown, hts, hr, hlk, hnm, hK, -⟩ := C
  unfold X_X4_mul_0 at hv
  refine lv_aload_n hx hb dX4_mul_0 rfl (lv_at hl 0 rfl) ?_
  refine lv_iload_n hx hb dX4_mul_1 rfl (lv_at hl 1 rfl) ?_
  refine lv_iload_n hx hb dX4_mul_2 rfl (lv_at hl 2 rfl) ?_
  refine lv_iload_n hx hb dX4_mul_3 rfl (lv_at hl 3 rfl) ?_
  obtain ⟨ho1, hv⟩ := hv
  refine fw_callVi hx hb hml hown hts hK hS [.int p1, .int p2, .int p3] [] hv gX4_mul_X4_areRegisters rfl rfl rfl 3 (by decide +kernel) ⟨Nat.le_of_ble_eq_true rfl, Nat.le_of_ble_eq_true rfl⟩ rfl rfl ho1 rfl hl.1 rfl (Nat.le_of_ble_eq_true rfl) dX4_mul_4 ⟨Nat.zero_le _, Nat.zero_le _⟩ (fun r3 f2 H locs hv hS => ?_)
  refine lv_if_ne (tgt := 12) hx hb dX4_mul_7 (by decide) (fun c4 => ?_) (fun c4 => ?_)
  · have hv := hv.1 c4
    refine lv_aload_n hx hb dX4_mul_12 rfl (lv_at hl 0 rfl) ?_
    obtain ⟨v5, ev5, hv⟩ := hv
    refine fw_get hx hb hts ii_X4_mul_X4 hown hK hS 1 ev5 rfl (by decide) mm_X4_mul_0 rfl dX4_mul_13 ?_
    refine lv_iload_n hx hb dX4_mul_16 rfl (lv_at hl 3 rfl) ?_
    obtain ⟨v6, ev6, hv⟩ := hv
    refine fw_aald hx hb hK hS 1 rfl ev6 dX4_mul_17 ?_
    refine lv_astore (lv' := [(4, .ref v6), (0, .ref h), (1, .int p1), (2, .int p2), (3, .int p3)]) hx hb dX4_mul_18 hl (by decide) rfl (fun ls hl => ?_)
    refine lv_aload_n hx hb dX4_mul_20 rfl (lv_at hl 1 rfl) ?_
    refine lv_aload_n hx hb dX4_mul_21 rfl (lv_at hl 1 rfl) ?_
    obtain ⟨v7, ev7, hv⟩ := hv
    refine fw_get hx hb hts ii_X4_mul_X4 hown hK hS 1 ev7 rfl (by decide) mm_X4_mul_0 rfl dX4_mul_22 ?_
    refine lv_iload_n hx hb dX4_mul_25 rfl (lv_at hl 3 rfl) ?_
    obtain ⟨v8, ev8, hv⟩ := hv
    refine fw_aald hx hb hK hS 1 rfl ev8 dX4_mul_26 ?_
    refine lv_aload hx hb dX4_mul_27 (lv_at hl 0 rfl) ?_
    obtain ⟨v9, ev9, hv⟩ := hv
    refine fw_get hx hb hts ii_X4_mul_X0 hown hK hS 0 ev9 rfl (by decide) mm_X4_mul_1 rfl dX4_mul_29 ?_
    refine lv_aload hx hb dX4_mul_32 (lv_at hl 0 rfl) ?_
    obtain ⟨v10, ev10, hv⟩ := hv
    refine fw_get hx hb hts ii_X4_mul_X0 hown hK hS 1 ev10 rfl (by decide) mm_X4_mul_2 rfl dX4_mul_34 ?_
    refine lv_aload hx hb dX4_mul_37 (lv_at hl 0 rfl) ?_
    obtain ⟨v11, ev11, hv⟩ := hv
    refine fw_get hx hb hts ii_X4_mul_X0 hown hK hS 2 ev11 rfl (by decide) mm_X4_mul_3 rfl dX4_mul_39 ?_
    obtain ⟨ho12, hv⟩ := hv
    refine fw_callVv hx hb hml hown hts hK hS [.ref v8, .int v9, .ref v10, .ref v11] [] hv gX4_mul_X4_multiply rfl rfl rfl 4 (by decide +kernel) ⟨Nat.le_of_ble_eq_true rfl, Nat.le_of_ble_eq_true rfl⟩ rfl rfl ho12 rfl hl.1 rfl (Nat.le_of_ble_eq_true rfl) dX4_mul_42 ⟨Nat.zero_le _, Nat.zero_le _⟩ (fun f13 H locs hv hS => ?_)
    refine lv_aload_n hx hb dX4_mul_45 rfl (lv_at hl 1 rfl) ?_
    refine lv_iload_n hx hb dX4_mul_46 rfl (lv_at hl 2 rfl) ?_
    obtain ⟨ho14, hv⟩ := hv
    refine fw_callVi hx hb hml hown hts hK hS [.int p1] [] hv gX4_mul_X4_keepResult rfl rfl rfl 1 (by decide +kernel) ⟨Nat.le_of_ble_eq_true rfl, Nat.le_of_ble_eq_true rfl⟩ rfl rfl ho14 rfl hl.1 rfl (Nat.le_of_ble_eq_true rfl) dX4_mul_47 ⟨Nat.zero_le _, Nat.zero_le _⟩ (fun r16 f15 H locs hv hS => ?_)
    exact fw_iret hx hb hr hlk hS hv dX4_mul_50
  · have hv := hv.2 c4
    refine lv_iconst (v := 3) hx hb dX4_mul_10 (by decide) ?_
    exact fw_iret hx hb hr hlk hS hv dX4_mul_11
set_option maxRecDepth 100000 in
set_option maxHeartbeats 4000000 in
theorem T_X4_mul {E : cx} {h : Nat} {p1 : Int32} {p2 : Int32} {p3 : Int32} {f : hm} {K : Int32 → hm → Prop}  (h0 : X_X4_mul_0 E h p1 p2 p3 f  K) : S_X4_mul E h p1 p2 p3 f K := by
  refine MI_of (cc := cX4_mul) (maxL := 5) (ret := (some .int)) (by decide) rfl ?_
  intro p e s m below meth c C
  have hl := lv_entry ([.ref h, .int p1, .int p2, .int p3]) (n := 5) (Nat.le_of_ble_eq_true rfl)
  rw [lg_entry_eq]
  generalize (lg_sl ([.ref h, .int p1, .int p2, .int p3]) ++ List.replicate (5 - (lg_sl ([.ref h, .int p1, .int p2, .int p3])).length) Slot.unset).toArray = ls at hl ⊢
  have hl : lv_has ls 5 [(0, .ref h), (1, .int p1), (2, .int p2), (3, .int p3)] := hl
  have hS := C.2.2.2.2.2.2.2.2.2
  exact R_X4_mul_0 C h p1 p2 p3 f h0 hl hS
/-! ContinuedRatios.div(III)I -/
def S_X4_div (E : cx) (h : Nat) (p1 : Int32) (p2 : Int32) (p3 : Int32) (f : hm) (K : Int32 → hm → Prop) : Prop := MI E.1 E.2.1 vwCl (eT E) yX4_div wsX4_div ({ frames := 6, cells := 0, slots := 0, locals := 162 }) [.ref h, .int p1, .int p2, .int p3] f K
theorem mm_X4_div_0 : Cond.fieldLink RX4 73 "ContinuedRatios" "registers" "[LContinuedRatios$Fraction;" ∈ wsX4_div := by decide +kernel
theorem mm_X4_div_1 : Cond.fieldLink RX4 101 "ContinuedRatios$Fraction" "signum" "I" ∈ wsX4_div := by decide +kernel
theorem mm_X4_div_2 : Cond.fieldLink RX4 77 "ContinuedRatios$Fraction" "lower" "LContinuedRatios$Natural;" ∈ wsX4_div := by decide +kernel
theorem mm_X4_div_3 : Cond.fieldLink RX4 88 "ContinuedRatios$Fraction" "upper" "LContinuedRatios$Natural;" ∈ wsX4_div := by decide +kernel
theorem ii_X4_div_X4 : ∀ w ∈ u_ws RX4 TX4 14, w ∈ wsX4_div := by decide +kernel
theorem ii_X4_div_X0 : ∀ w ∈ u_ws RX0 TX0 3, w ∈ wsX4_div := by decide +kernel
def X_X4_div_0 (E : cx) (h : Nat) (p1 : Int32) (p2 : Int32) (p3 : Int32) (f : hm)  (K : Int32 → hm → Prop) : Prop :=
  (isO f h 4 ∧ S_X4_areRegisters E h p1 p2 p3 f (fun (r3 : Int32) (f2 : hm) => ((¬ r3 = 0 → (∃ v5 : Nat, rdV f2 h 4 1 = some (.ref v5) ∧ (∃ v6 : Nat, rdQ (eF E) f2 v5 p3 = some (some v6) ∧ (∃ v7 : Int32, rdV f2 v6 0 0 = some (.int v7) ∧ ((¬ v7 = 0 → (∃ v9 : Nat, rdV f2 h 4 1 = some (.ref v9) ∧ (∃ v10 : Nat, rdQ (eF E) f2 v9 p2 = some (some v10) ∧ (∃ v11 : Int32, rdV f2 v6 0 0 = some (.int v11) ∧ (∃ v12 : Nat, rdV f2 v6 0 2 = some (.ref v12) ∧ (∃ v13 : Nat, rdV f2 v6 0 1 = some (.ref v13) ∧ (isO f2 h 4 ∧ S_X4_multiply E h v10 v11 v12 v13 f2 (fun (f15 : hm) => (isO f15 h 4 ∧ S_X4_keepResult E h p1 f15 (fun (r18 : Int32) (f17 : hm) => K r18 f17)))))))))) ∧ (v7 = 0 → K (2 : Int32) f2)))))) ∧ (r3 = 0 → K (3 : Int32) f2))))
set_option maxRecDepth 100000 in
set_option maxHeartbeats 4000000 in
theorem R_X4_div_0 {E : cx} {p : Program} {e : Env} {s : State} {m : MethodId} {below : List Frame} {meth : Method} {c : Code} {f0 : hm} {zh : Nat} {zp1 : Int32} {zp2 : Int32} {zp3 : Int32} (C : wB E.2.1 vwCl (eT E) yX4_div cX4_div 5 (some .int) wsX4_div [.ref zh, .int zp1, .int zp2, .int zp3] f0 p s m meth c) (h : Nat) (p1 : Int32) (p2 : Int32) (p3 : Int32) (f : hm)  {K : Int32 → hm → Prop} (hv : X_X4_div_0 E h p1 p2 p3 f  K) {ls : Array Slot} {H : Heap} {locs : List Loc} (hl : lv_has ls 5 [(0, .ref h), (1, .int p1), (2, .int p2), (3, .int p3)]) (hS : wS E.2.1 vwCl (wA f0 s.heap.size) s.heap f H locs)  : W p E.1 e ({ frames := 6, cells := 0, slots := 0, locals := 162 }) s m ([.ref zh, .int zp1, .int zp2, .int zp3] : List Value).toArray below meth c H locs 0 0 (MQ below (wQi f0 E.2.1 vwCl K s) ([.ref zh, .int zp1, .int zp2, .int zp3] : List Value).toArray s 0 0 (wA f0 s.heap.size)) (F0 m 0 ls []) := by
  obtain ⟨hx, hb, hml, hown, hts, hr, hlk, hnm, hK, -⟩ := C
  unfold X_X4_div_0 at hv
  refine lv_aload_n hx hb dX4_div_0 rfl (lv_at hl 0 rfl) ?_
  refine lv_iload_n hx hb dX4_div_1 rfl (lv_at hl 1 rfl) ?_
  refine lv_iload_n hx hb dX4_div_2 rfl (lv_at hl 2 rfl) ?_
  refine lv_iload_n hx hb dX4_div_3 rfl (lv_at hl 3 rfl) ?_
  obtain ⟨ho1, hv⟩ := hv
  refine fw_callVi hx hb hml hown hts hK hS [.int p1, .int p2, .int p3] [] hv gX4_div_X4_areRegisters rfl rfl rfl 3 (by decide +kernel) ⟨Nat.le_of_ble_eq_true rfl, Nat.le_of_ble_eq_true rfl⟩ rfl rfl ho1 rfl hl.1 rfl (Nat.le_of_ble_eq_true rfl) dX4_div_4 ⟨Nat.zero_le _, Nat.zero_le _⟩ (fun r3 f2 H locs hv hS => ?_)
  refine lv_if_ne (tgt := 12) hx hb dX4_div_7 (by decide) (fun c4 => ?_) (fun c4 => ?_)
  · have hv := hv.1 c4
    refine lv_aload_n hx hb dX4_div_12 rfl (lv_at hl 0 rfl) ?_
    obtain ⟨v5, ev5, hv⟩ := hv
    refine fw_get hx hb hts ii_X4_div_X4 hown hK hS 1 ev5 rfl (by decide) mm_X4_div_0 rfl dX4_div_13 ?_
    refine lv_iload_n hx hb dX4_div_16 rfl (lv_at hl 3 rfl) ?_
    obtain ⟨v6, ev6, hv⟩ := hv
    refine fw_aald hx hb hK hS 1 rfl ev6 dX4_div_17 ?_
    refine lv_astore (lv' := [(4, .ref v6), (0, .ref h), (1, .int p1), (2, .int p2), (3, .int p3)]) hx hb dX4_div_18 hl (by decide) rfl (fun ls hl => ?_)
    refine lv_aload hx hb dX4_div_20 (lv_at hl 0 rfl) ?_
    obtain ⟨v7, ev7, hv⟩ := hv
    refine fw_get hx hb hts ii_X4_div_X0 hown hK hS 0 ev7 rfl (by decide) mm_X4_div_1 rfl dX4_div_22 ?_
    refine lv_if_ne (tgt := 30) hx hb dX4_div_25 (by decide) (fun c8 => ?_) (fun c8 => ?_)
    · have hv := hv.1 c8
      refine lv_aload_n hx hb dX4_div_30 rfl (lv_at hl 1 rfl) ?_
      refine lv_aload_n hx hb dX4_div_31 rfl (lv_at hl 1 rfl) ?_
      obtain ⟨v9, ev9, hv⟩ := hv
      refine fw_get hx hb hts ii_X4_div_X4 hown hK hS 1 ev9 rfl (by decide) mm_X4_div_0 rfl dX4_div_32 ?_
      refine lv_iload_n hx hb dX4_div_35 rfl (lv_at hl 3 rfl) ?_
      obtain ⟨v10, ev10, hv⟩ := hv
      refine fw_aald hx hb hK hS 1 rfl ev10 dX4_div_36 ?_
      refine lv_aload hx hb dX4_div_37 (lv_at hl 0 rfl) ?_
      obtain ⟨v11, ev11, hv⟩ := hv
      refine fw_get hx hb hts ii_X4_div_X0 hown hK hS 0 ev11 rfl (by decide) mm_X4_div_1 rfl dX4_div_39 ?_
      refine lv_aload hx hb dX4_div_42 (lv_at hl 0 rfl) ?_
      obtain ⟨v12, ev12, hv⟩ := hv
      refine fw_get hx hb hts ii_X4_div_X0 hown hK hS 2 ev12 rfl (by decide) mm_X4_div_2 rfl dX4_div_44 ?_
      refine lv_aload hx hb dX4_div_47 (lv_at hl 0 rfl) ?_
      obtain ⟨v13, ev13, hv⟩ := hv
      refine fw_get hx hb hts ii_X4_div_X0 hown hK hS 1 ev13 rfl (by decide) mm_X4_div_3 rfl dX4_div_49 ?_
      obtain ⟨ho14, hv⟩ := hv
      refine fw_callVv hx hb hml hown hts hK hS [.ref v10, .int v11, .ref v12, .ref v13] [] hv gX4_div_X4_multiply rfl rfl rfl 4 (by decide +kernel) ⟨Nat.le_of_ble_eq_true rfl, Nat.le_of_ble_eq_true rfl⟩ rfl rfl ho14 rfl hl.1 rfl (Nat.le_of_ble_eq_true rfl) dX4_div_52 ⟨Nat.zero_le _, Nat.zero_le _⟩ (fun f15 H locs hv hS => ?_)
      refine lv_aload_n hx hb dX4_div_55 rfl (lv_at hl 1 rfl) ?_
      refine lv_iload_n hx hb dX4_div_56 rfl (lv_at hl 2 rfl) ?_
      obtain ⟨ho16, hv⟩ := hv
      refine fw_callVi hx hb hml hown hts hK hS [.int p1] [] hv gX4_div_X4_keepResult rfl rfl rfl 1 (by decide +kernel) ⟨Nat.le_of_ble_eq_true rfl, Nat.le_of_ble_eq_true rfl⟩ rfl rfl ho16 rfl hl.1 rfl (Nat.le_of_ble_eq_true rfl) dX4_div_57 ⟨Nat.zero_le _, Nat.zero_le _⟩ (fun r18 f17 H locs hv hS => ?_)
      exact fw_iret hx hb hr hlk hS hv dX4_div_60
    · have hv := hv.2 c8
      refine lv_iconst (v := 2) hx hb dX4_div_28 (by decide) ?_
      exact fw_iret hx hb hr hlk hS hv dX4_div_29
  · have hv := hv.2 c4
    refine lv_iconst (v := 3) hx hb dX4_div_10 (by decide) ?_
    exact fw_iret hx hb hr hlk hS hv dX4_div_11
set_option maxRecDepth 100000 in
set_option maxHeartbeats 4000000 in
theorem T_X4_div {E : cx} {h : Nat} {p1 : Int32} {p2 : Int32} {p3 : Int32} {f : hm} {K : Int32 → hm → Prop}  (h0 : X_X4_div_0 E h p1 p2 p3 f  K) : S_X4_div E h p1 p2 p3 f K := by
  refine MI_of (cc := cX4_div) (maxL := 5) (ret := (some .int)) (by decide) rfl ?_
  intro p e s m below meth c C
  have hl := lv_entry ([.ref h, .int p1, .int p2, .int p3]) (n := 5) (Nat.le_of_ble_eq_true rfl)
  rw [lg_entry_eq]
  generalize (lg_sl ([.ref h, .int p1, .int p2, .int p3]) ++ List.replicate (5 - (lg_sl ([.ref h, .int p1, .int p2, .int p3])).length) Slot.unset).toArray = ls at hl ⊢
  have hl : lv_has ls 5 [(0, .ref h), (1, .int p1), (2, .int p2), (3, .int p3)] := hl
  have hS := C.2.2.2.2.2.2.2.2.2
  exact R_X4_div_0 C h p1 p2 p3 f h0 hl hS
/-! ContinuedRatios.cmp(II)I -/
def S_X4_cmp (E : cx) (h : Nat) (p1 : Int32) (p2 : Int32) (f : hm) (K : Int32 → hm → Prop) : Prop := MI E.1 E.2.1 vwCl (eT E) yX4_cmp wsX4_cmp ({ frames := 3, cells := 0, slots := 0, locals := 74 }) [.ref h, .int p1, .int p2] f K
theorem mm_X4_cmp_0 : Cond.fieldLink RX4 73 "ContinuedRatios" "registers" "[LContinuedRatios$Fraction;" ∈ wsX4_cmp := by decide +kernel
theorem mm_X4_cmp_1 : Cond.fieldLink RX4 101 "ContinuedRatios$Fraction" "signum" "I" ∈ wsX4_cmp := by decide +kernel
theorem mm_X4_cmp_2 : Cond.fieldLink RX4 40 "ContinuedRatios" "leftUpper" "LContinuedRatios$Natural;" ∈ wsX4_cmp := by decide +kernel
theorem mm_X4_cmp_3 : Cond.fieldLink RX4 88 "ContinuedRatios$Fraction" "upper" "LContinuedRatios$Natural;" ∈ wsX4_cmp := by decide +kernel
theorem mm_X4_cmp_4 : Cond.fieldLink RX4 77 "ContinuedRatios$Fraction" "lower" "LContinuedRatios$Natural;" ∈ wsX4_cmp := by decide +kernel
theorem mm_X4_cmp_5 : Cond.fieldLink RX4 47 "ContinuedRatios" "rightUpper" "LContinuedRatios$Natural;" ∈ wsX4_cmp := by decide +kernel
theorem ii_X4_cmp_X4 : ∀ w ∈ u_ws RX4 TX4 14, w ∈ wsX4_cmp := by decide +kernel
theorem ii_X4_cmp_X0 : ∀ w ∈ u_ws RX0 TX0 3, w ∈ wsX4_cmp := by decide +kernel
def X_X4_cmp_0 (E : cx) (h : Nat) (p1 : Int32) (p2 : Int32) (f : hm)  (K : Int32 → hm → Prop) : Prop :=
  (isO f h 4 ∧ S_X4_isRegister E h p1 f (fun (r3 : Int32) (f2 : hm) => ((r3 = 0 → K (2 : Int32) f2) ∧ (¬ (r3 = 0) → (isO f2 h 4 ∧ S_X4_isRegister E h p2 f2 (fun (r7 : Int32) (f6 : hm) => ((¬ r7 = 0 → (∃ v9 : Nat, rdV f6 h 4 1 = some (.ref v9) ∧ (∃ v10 : Nat, rdQ (eF E) f6 v9 p1 = some (some v10) ∧ (∃ v11 : Nat, rdV f6 h 4 1 = some (.ref v11) ∧ (∃ v12 : Nat, rdQ (eF E) f6 v11 p2 = some (some v12) ∧ (∃ v13 : Int32, rdV f6 v10 0 0 = some (.int v13) ∧ (∃ v14 : Int32, rdV f6 v12 0 0 = some (.int v14) ∧ ((v13 = v14 → (∃ v16 : Nat, rdV f6 h 4 6 = some (.ref v16) ∧ (∃ v17 : Nat, rdV f6 v10 0 1 = some (.ref v17) ∧ (∃ v18 : Nat, rdV f6 v12 0 2 = some (.ref v18) ∧ (isO f6 v16 1 ∧ S_X1_becomeProduct E v16 v17 v18 f6 (fun (f20 : hm) => (∃ v21 : Nat, rdV f20 h 4 8 = some (.ref v21) ∧ (∃ v22 : Nat, rdV f20 v12 0 1 = some (.ref v22) ∧ (∃ v23 : Nat, rdV f20 v10 0 2 = some (.ref v23) ∧ (isO f20 v21 1 ∧ S_X1_becomeProduct E v21 v22 v23 f20 (fun (f25 : hm) => (∃ v26 : Int32, rdV f25 v10 0 0 = some (.int v26) ∧ (∃ v27 : Nat, rdV f25 h 4 6 = some (.ref v27) ∧ (∃ v28 : Nat, rdV f25 h 4 8 = some (.ref v28) ∧ (isO f25 v27 1 ∧ S_X1_compareWith E v27 v28 f25 (fun (r31 : Int32) (f30 : hm) => K (v26 * r31) f30)))))))))))))))) ∧ (¬ (v13 = v14) → (∃ v32 : Int32, rdV f6 v10 0 0 = some (.int v32) ∧ (∃ v33 : Int32, rdV f6 v12 0 0 = some (.int v33) ∧ ((v33 ≤ v32 → K (1 : Int32) f6) ∧ (¬ (v33 ≤ v32) → K (-1 : Int32) f6))))))))))))) ∧ (r7 = 0 → K (2 : Int32) f6))))))))
set_option maxRecDepth 100000 in
set_option maxHeartbeats 4000000 in
theorem R_X4_cmp_0 {E : cx} {p : Program} {e : Env} {s : State} {m : MethodId} {below : List Frame} {meth : Method} {c : Code} {f0 : hm} {zh : Nat} {zp1 : Int32} {zp2 : Int32} (C : wB E.2.1 vwCl (eT E) yX4_cmp cX4_cmp 5 (some .int) wsX4_cmp [.ref zh, .int zp1, .int zp2] f0 p s m meth c) (h : Nat) (p1 : Int32) (p2 : Int32) (f : hm)  {K : Int32 → hm → Prop} (hv : X_X4_cmp_0 E h p1 p2 f  K) {ls : Array Slot} {H : Heap} {locs : List Loc} (hl : lv_has ls 5 [(0, .ref h), (1, .int p1), (2, .int p2)]) (hS : wS E.2.1 vwCl (wA f0 s.heap.size) s.heap f H locs)  : W p E.1 e ({ frames := 3, cells := 0, slots := 0, locals := 74 }) s m ([.ref zh, .int zp1, .int zp2] : List Value).toArray below meth c H locs 0 0 (MQ below (wQi f0 E.2.1 vwCl K s) ([.ref zh, .int zp1, .int zp2] : List Value).toArray s 0 0 (wA f0 s.heap.size)) (F0 m 0 ls []) := by
  obtain ⟨hx, hb, hml, hown, hts, hr, hlk, hnm, hK, -⟩ := C
  unfold X_X4_cmp_0 at hv
  refine lv_aload_n hx hb dX4_cmp_0 rfl (lv_at hl 0 rfl) ?_
  refine lv_iload_n hx hb dX4_cmp_1 rfl (lv_at hl 1 rfl) ?_
  obtain ⟨ho1, hv⟩ := hv
  refine fw_callVi hx hb hml hown hts hK hS [.int p1] [] hv gX4_cmp_X4_isRegister rfl rfl rfl 1 (by decide +kernel) ⟨Nat.le_of_ble_eq_true rfl, Nat.le_of_ble_eq_true rfl⟩ rfl rfl ho1 rfl hl.1 rfl (Nat.le_of_ble_eq_true rfl) dX4_cmp_2 ⟨Nat.zero_le _, Nat.zero_le _⟩ (fun r3 f2 H locs hv hS => ?_)
  refine lv_if_eq (tgt := 16) hx hb dX4_cmp_5 (by decide) (fun c4 => ?_) (fun c4 => ?_)
  · have hv := hv.1 c4
    refine lv_iconst (v := 2) hx hb dX4_cmp_16 (by decide) ?_
    exact fw_iret hx hb hr hlk hS hv dX4_cmp_17
  · have hv := hv.2 c4
    refine lv_aload_n hx hb dX4_cmp_8 rfl (lv_at hl 0 rfl) ?_
    refine lv_iload_n hx hb dX4_cmp_9 rfl (lv_at hl 2 rfl) ?_
    obtain ⟨ho5, hv⟩ := hv
    refine fw_callVi hx hb hml hown hts hK hS [.int p2] [] hv gX4_cmp_X4_isRegister rfl rfl rfl 1 (by decide +kernel) ⟨Nat.le_of_ble_eq_true rfl, Nat.le_of_ble_eq_true rfl⟩ rfl rfl ho5 rfl hl.1 rfl (Nat.le_of_ble_eq_true rfl) dX4_cmp_10 ⟨Nat.zero_le _, Nat.zero_le _⟩ (fun r7 f6 H locs hv hS => ?_)
    refine lv_if_ne (tgt := 18) hx hb dX4_cmp_13 (by decide) (fun c8 => ?_) (fun c8 => ?_)
    · have hv := hv.1 c8
      refine lv_aload_n hx hb dX4_cmp_18 rfl (lv_at hl 0 rfl) ?_
      obtain ⟨v9, ev9, hv⟩ := hv
      refine fw_get hx hb hts ii_X4_cmp_X4 hown hK hS 1 ev9 rfl (by decide) mm_X4_cmp_0 rfl dX4_cmp_19 ?_
      refine lv_iload_n hx hb dX4_cmp_22 rfl (lv_at hl 1 rfl) ?_
      obtain ⟨v10, ev10, hv⟩ := hv
      refine fw_aald hx hb hK hS 1 rfl ev10 dX4_cmp_23 ?_
      refine lv_astore_n (lv' := [(3, .ref v10), (0, .ref h), (1, .int p1), (2, .int p2)]) hx hb dX4_cmp_24 rfl hl (by decide) rfl (fun ls hl => ?_)
      refine lv_aload_n hx hb dX4_cmp_25 rfl (lv_at hl 1 rfl) ?_
      obtain ⟨v11, ev11, hv⟩ := hv
      refine fw_get hx hb hts ii_X4_cmp_X4 hown hK hS 1 ev11 rfl (by decide) mm_X4_cmp_0 rfl dX4_cmp_26 ?_
      refine lv_iload_n hx hb dX4_cmp_29 rfl (lv_at hl 3 rfl) ?_
      obtain ⟨v12, ev12, hv⟩ := hv
      refine fw_aald hx hb hK hS 1 rfl ev12 dX4_cmp_30 ?_
      refine lv_astore (lv' := [(4, .ref v12), (3, .ref v10), (0, .ref h), (1, .int p1), (2, .int p2)]) hx hb dX4_cmp_31 hl (by decide) rfl (fun ls hl => ?_)
      refine lv_aload_n hx hb dX4_cmp_33 rfl (lv_at hl 1 rfl) ?_
      obtain ⟨v13, ev13, hv⟩ := hv
      refine fw_get hx hb hts ii_X4_cmp_X0 hown hK hS 0 ev13 rfl (by decide) mm_X4_cmp_1 rfl dX4_cmp_34 ?_
      refine lv_aload hx hb dX4_cmp_37 (lv_at hl 0 rfl) ?_
      obtain ⟨v14, ev14, hv⟩ := hv
      refine fw_get hx hb hts ii_X4_cmp_X0 hown hK hS 0 ev14 rfl (by decide) mm_X4_cmp_1 rfl dX4_cmp_39 ?_
      refine lv_icmp_eq (tgt := 63) hx hb dX4_cmp_42 (by decide) (fun c15 => ?_) (fun c15 => ?_)
      · have hv := hv.1 c15
        refine lv_aload_n hx hb dX4_cmp_63 rfl (lv_at hl 2 rfl) ?_
        obtain ⟨v16, ev16, hv⟩ := hv
        refine fw_get hx hb hts ii_X4_cmp_X4 hown hK hS 6 ev16 rfl (by decide) mm_X4_cmp_2 rfl dX4_cmp_64 ?_
        refine lv_aload_n hx hb dX4_cmp_67 rfl (lv_at hl 1 rfl) ?_
        obtain ⟨v17, ev17, hv⟩ := hv
        refine fw_get hx hb hts ii_X4_cmp_X0 hown hK hS 1 ev17 rfl (by decide) mm_X4_cmp_3 rfl dX4_cmp_68 ?_
        refine lv_aload hx hb dX4_cmp_71 (lv_at hl 0 rfl) ?_
        obtain ⟨v18, ev18, hv⟩ := hv
        refine fw_get hx hb hts ii_X4_cmp_X0 hown hK hS 2 ev18 rfl (by decide) mm_X4_cmp_4 rfl dX4_cmp_73 ?_
        obtain ⟨ho19, hv⟩ := hv
        refine fw_callVv hx hb hml hown hts hK hS [.ref v17, .ref v18] [] hv gX4_cmp_X1_becomeProduct rfl rfl rfl 2 (by decide +kernel) ⟨Nat.le_of_ble_eq_true rfl, Nat.le_of_ble_eq_true rfl⟩ rfl rfl ho19 rfl hl.1 rfl (Nat.le_of_ble_eq_true rfl) dX4_cmp_76 ⟨Nat.zero_le _, Nat.zero_le _⟩ (fun f20 H locs hv hS => ?_)
        refine lv_aload_n hx hb dX4_cmp_79 rfl (lv_at hl 2 rfl) ?_
        obtain ⟨v21, ev21, hv⟩ := hv
        refine fw_get hx hb hts ii_X4_cmp_X4 hown hK hS 8 ev21 rfl (by decide) mm_X4_cmp_5 rfl dX4_cmp_80 ?_
        refine lv_aload hx hb dX4_cmp_83 (lv_at hl 0 rfl) ?_
        obtain ⟨v22, ev22, hv⟩ := hv
        refine fw_get hx hb hts ii_X4_cmp_X0 hown hK hS 1 ev22 rfl (by decide) mm_X4_cmp_3 rfl dX4_cmp_85 ?_
        refine lv_aload_n hx hb dX4_cmp_88 rfl (lv_at hl 1 rfl) ?_
        obtain ⟨v23, ev23, hv⟩ := hv
        refine fw_get hx hb hts ii_X4_cmp_X0 hown hK hS 2 ev23 rfl (by decide) mm_X4_cmp_4 rfl dX4_cmp_89 ?_
        obtain ⟨ho24, hv⟩ := hv
        refine fw_callVv hx hb hml hown hts hK hS [.ref v22, .ref v23] [] hv gX4_cmp_X1_becomeProduct rfl rfl rfl 2 (by decide +kernel) ⟨Nat.le_of_ble_eq_true rfl, Nat.le_of_ble_eq_true rfl⟩ rfl rfl ho24 rfl hl.1 rfl (Nat.le_of_ble_eq_true rfl) dX4_cmp_92 ⟨Nat.zero_le _, Nat.zero_le _⟩ (fun f25 H locs hv hS => ?_)
        refine lv_aload_n hx hb dX4_cmp_95 rfl (lv_at hl 1 rfl) ?_
        obtain ⟨v26, ev26, hv⟩ := hv
        refine fw_get hx hb hts ii_X4_cmp_X0 hown hK hS 0 ev26 rfl (by decide) mm_X4_cmp_1 rfl dX4_cmp_96 ?_
        refine lv_aload_n hx hb dX4_cmp_99 rfl (lv_at hl 2 rfl) ?_
        obtain ⟨v27, ev27, hv⟩ := hv
        refine fw_get hx hb hts ii_X4_cmp_X4 hown hK hS 6 ev27 rfl (by decide) mm_X4_cmp_2 rfl dX4_cmp_100 ?_
        refine lv_aload_n hx hb dX4_cmp_103 rfl (lv_at hl 2 rfl) ?_
        obtain ⟨v28, ev28, hv⟩ := hv
        refine fw_get hx hb hts ii_X4_cmp_X4 hown hK hS 8 ev28 rfl (by decide) mm_X4_cmp_5 rfl dX4_cmp_104 ?_
        obtain ⟨ho29, hv⟩ := hv
        refine fw_callVi hx hb hml hown hts hK hS [.ref v28] [.int v26] hv gX4_cmp_X1_compareWith rfl rfl rfl 1 (by decide +kernel) ⟨Nat.le_of_ble_eq_true rfl, Nat.le_of_ble_eq_true rfl⟩ rfl rfl ho29 rfl hl.1 rfl (Nat.le_of_ble_eq_true rfl) dX4_cmp_107 ⟨Nat.zero_le _, Nat.zero_le _⟩ (fun r31 f30 H locs hv hS => ?_)
        refine lv_imul hx hb dX4_cmp_110 ?_
        exact fw_iret hx hb hr hlk hS hv dX4_cmp_111
      · have hv := hv.2 c15
        refine lv_aload_n hx hb dX4_cmp_45 rfl (lv_at hl 1 rfl) ?_
        obtain ⟨v32, ev32, hv⟩ := hv
        refine fw_get hx hb hts ii_X4_cmp_X0 hown hK hS 0 ev32 rfl (by decide) mm_X4_cmp_1 rfl dX4_cmp_46 ?_
        refine lv_aload hx hb dX4_cmp_49 (lv_at hl 0 rfl) ?_
        obtain ⟨v33, ev33, hv⟩ := hv
        refine fw_get hx hb hts ii_X4_cmp_X0 hown hK hS 0 ev33 rfl (by decide) mm_X4_cmp_1 rfl dX4_cmp_51 ?_
        refine lv_icmp_ge (tgt := 61) hx hb dX4_cmp_54 (by decide) (fun c34 => ?_) (fun c34 => ?_)
        · have hv := hv.1 c34
          refine lv_iconst (v := 1) hx hb dX4_cmp_61 (by decide) ?_
          exact fw_iret hx hb hr hlk hS hv dX4_cmp_62
        · have hv := hv.2 c34
          refine lv_iconst (v := (-1)) hx hb dX4_cmp_57 (by decide) ?_
          refine lv_goto (tgt := 62) hx hb dX4_cmp_58 (by decide) ?_
          exact fw_iret hx hb hr hlk hS hv dX4_cmp_62
    · have hv := hv.2 c8
      refine lv_iconst (v := 2) hx hb dX4_cmp_16 (by decide) ?_
      exact fw_iret hx hb hr hlk hS hv dX4_cmp_17
set_option maxRecDepth 100000 in
set_option maxHeartbeats 4000000 in
theorem T_X4_cmp {E : cx} {h : Nat} {p1 : Int32} {p2 : Int32} {f : hm} {K : Int32 → hm → Prop}  (h0 : X_X4_cmp_0 E h p1 p2 f  K) : S_X4_cmp E h p1 p2 f K := by
  refine MI_of (cc := cX4_cmp) (maxL := 5) (ret := (some .int)) (by decide) rfl ?_
  intro p e s m below meth c C
  have hl := lv_entry ([.ref h, .int p1, .int p2]) (n := 5) (Nat.le_of_ble_eq_true rfl)
  rw [lg_entry_eq]
  generalize (lg_sl ([.ref h, .int p1, .int p2]) ++ List.replicate (5 - (lg_sl ([.ref h, .int p1, .int p2])).length) Slot.unset).toArray = ls at hl ⊢
  have hl : lv_has ls 5 [(0, .ref h), (1, .int p1), (2, .int p2)] := hl
  have hS := C.2.2.2.2.2.2.2.2.2
  exact R_X4_cmp_0 C h p1 p2 f h0 hl hS
/-! ContinuedRatios.fits(I)Z -/
def S_X4_fits (E : cx) (h : Nat) (p1 : Int32) (f : hm) (K : Int32 → hm → Prop) : Prop := MI E.1 E.2.1 vwCl (eT E) yX4_fits wsX4_fits ({ frames := 5, cells := 0, slots := 0, locals := 137 }) [.ref h, .int p1] f K
theorem mm_X4_fits_0 : Cond.fieldLink RX4 73 "ContinuedRatios" "registers" "[LContinuedRatios$Fraction;" ∈ wsX4_fits := by decide +kernel
theorem ii_X4_fits_X4 : ∀ w ∈ u_ws RX4 TX4 14, w ∈ wsX4_fits := by decide +kernel
def X_X4_fits_0 (E : cx) (h : Nat) (p1 : Int32) (f : hm)  (K : Int32 → hm → Prop) : Prop :=
  (isO f h 4 ∧ S_X4_isRegister E h p1 f (fun (r3 : Int32) (f2 : hm) => ((r3 = 0 → (narrow .boolean (.int (0 : Int32)) = .int (0 : Int32) ∧ K (0 : Int32) f2)) ∧ (¬ (r3 = 0) → (∃ v5 : Nat, rdV f2 h 4 1 = some (.ref v5) ∧ (∃ v6 : Nat, rdQ (eF E) f2 v5 p1 = some (some v6) ∧ (isO f2 h 4 ∧ S_X4_divideDown E h v6 f2 (fun (r9 : Int64) (f8 : hm) => S_X4_isInt E r9 f8 (fun (r11 : Int32) (f10 : hm) => ((r11 = 0 → (narrow .boolean (.int (0 : Int32)) = .int (0 : Int32) ∧ K (0 : Int32) f10)) ∧ (¬ (r11 = 0) → (narrow .boolean (.int (1 : Int32)) = .int (1 : Int32) ∧ K (1 : Int32) f10))))))))))))
set_option maxRecDepth 100000 in
set_option maxHeartbeats 4000000 in
theorem R_X4_fits_0 {E : cx} {p : Program} {e : Env} {s : State} {m : MethodId} {below : List Frame} {meth : Method} {c : Code} {f0 : hm} {zh : Nat} {zp1 : Int32} (C : wB E.2.1 vwCl (eT E) yX4_fits cX4_fits 2 (some .boolean) wsX4_fits [.ref zh, .int zp1] f0 p s m meth c) (h : Nat) (p1 : Int32) (f : hm)  {K : Int32 → hm → Prop} (hv : X_X4_fits_0 E h p1 f  K) {ls : Array Slot} {H : Heap} {locs : List Loc} (hl : lv_has ls 2 [(0, .ref h), (1, .int p1)]) (hS : wS E.2.1 vwCl (wA f0 s.heap.size) s.heap f H locs)  : W p E.1 e ({ frames := 5, cells := 0, slots := 0, locals := 137 }) s m ([.ref zh, .int zp1] : List Value).toArray below meth c H locs 0 0 (MQ below (wQi f0 E.2.1 vwCl K s) ([.ref zh, .int zp1] : List Value).toArray s 0 0 (wA f0 s.heap.size)) (F0 m 0 ls []) := by
  obtain ⟨hx, hb, hml, hown, hts, hr, hlk, hnm, hK, -⟩ := C
  unfold X_X4_fits_0 at hv
  refine lv_aload_n hx hb dX4_fits_0 rfl (lv_at hl 0 rfl) ?_
  refine lv_iload_n hx hb dX4_fits_1 rfl (lv_at hl 1 rfl) ?_
  obtain ⟨ho1, hv⟩ := hv
  refine fw_callVi hx hb hml hown hts hK hS [.int p1] [] hv gX4_fits_X4_isRegister rfl rfl rfl 1 (by decide +kernel) ⟨Nat.le_of_ble_eq_true rfl, Nat.le_of_ble_eq_true rfl⟩ rfl rfl ho1 rfl hl.1 rfl (Nat.le_of_ble_eq_true rfl) dX4_fits_2 ⟨Nat.zero_le _, Nat.zero_le _⟩ (fun r3 f2 H locs hv hS => ?_)
  refine lv_if_eq (tgt := 28) hx hb dX4_fits_5 (by decide) (fun c4 => ?_) (fun c4 => ?_)
  · have hv := hv.1 c4
    refine lv_iconst (v := 0) hx hb dX4_fits_28 (by decide) ?_
    exact fw_zret hx hb hr hlk hS hv dX4_fits_29
  · have hv := hv.2 c4
    refine lv_aload_n hx hb dX4_fits_8 rfl (lv_at hl 0 rfl) ?_
    refine lv_aload_n hx hb dX4_fits_9 rfl (lv_at hl 0 rfl) ?_
    obtain ⟨v5, ev5, hv⟩ := hv
    refine fw_get hx hb hts ii_X4_fits_X4 hown hK hS 1 ev5 rfl (by decide) mm_X4_fits_0 rfl dX4_fits_10 ?_
    refine lv_iload_n hx hb dX4_fits_13 rfl (lv_at hl 1 rfl) ?_
    obtain ⟨v6, ev6, hv⟩ := hv
    refine fw_aald hx hb hK hS 1 rfl ev6 dX4_fits_14 ?_
    obtain ⟨ho7, hv⟩ := hv
    refine fw_callVl hx hb hml hown hts hK hS [.ref v6] [] hv gX4_fits_X4_divideDown rfl rfl rfl 1 (by decide +kernel) ⟨Nat.le_of_ble_eq_true rfl, Nat.le_of_ble_eq_true rfl⟩ rfl rfl ho7 rfl hl.1 rfl (Nat.le_of_ble_eq_true rfl) dX4_fits_15 ⟨Nat.zero_le _, Nat.zero_le _⟩ (fun r9 f8 H locs hv hS => ?_)
    refine fw_callSi hx hb hml hown hts hK hS [.long r9] [] hv gX4_fits_X4_isInt rfl rfl rfl 1 (by decide +kernel) ⟨Nat.le_of_ble_eq_true rfl, Nat.le_of_ble_eq_true rfl⟩ rfl hl.1 rfl (Nat.le_of_ble_eq_true rfl) dX4_fits_18 ⟨Nat.zero_le _, Nat.zero_le _⟩ (fun r11 f10 H locs hv hS => ?_)
    refine lv_if_eq (tgt := 28) hx hb dX4_fits_21 (by decide) (fun c12 => ?_) (fun c12 => ?_)
    · have hv := hv.1 c12
      refine lv_iconst (v := 0) hx hb dX4_fits_28 (by decide) ?_
      exact fw_zret hx hb hr hlk hS hv dX4_fits_29
    · have hv := hv.2 c12
      refine lv_iconst (v := 1) hx hb dX4_fits_24 (by decide) ?_
      refine lv_goto (tgt := 29) hx hb dX4_fits_25 (by decide) ?_
      exact fw_zret hx hb hr hlk hS hv dX4_fits_29
set_option maxRecDepth 100000 in
set_option maxHeartbeats 4000000 in
theorem T_X4_fits {E : cx} {h : Nat} {p1 : Int32} {f : hm} {K : Int32 → hm → Prop}  (h0 : X_X4_fits_0 E h p1 f  K) : S_X4_fits E h p1 f K := by
  refine MI_of (cc := cX4_fits) (maxL := 2) (ret := (some .boolean)) (by decide) rfl ?_
  intro p e s m below meth c C
  have hl := lv_entry ([.ref h, .int p1]) (n := 2) (Nat.le_of_ble_eq_true rfl)
  rw [lg_entry_eq]
  generalize (lg_sl ([.ref h, .int p1]) ++ List.replicate (2 - (lg_sl ([.ref h, .int p1])).length) Slot.unset).toArray = ls at hl ⊢
  have hl : lv_has ls 2 [(0, .ref h), (1, .int p1)] := hl
  have hS := C.2.2.2.2.2.2.2.2.2
  exact R_X4_fits_0 C h p1 f h0 hl hS
/-! ContinuedRatios.floorSmall(I)I -/
def S_X4_floorSmall (E : cx) (h : Nat) (p1 : Int32) (f : hm) (K : Int32 → hm → Prop) : Prop := MI E.1 E.2.1 vwCl (eT E) yX4_floorSmall wsX4_floorSmall ({ frames := 5, cells := 0, slots := 0, locals := 137 }) [.ref h, .int p1] f K
theorem mm_X4_floorSmall_0 : Cond.fieldLink RX4 73 "ContinuedRatios" "registers" "[LContinuedRatios$Fraction;" ∈ wsX4_floorSmall := by decide +kernel
theorem ii_X4_floorSmall_X4 : ∀ w ∈ u_ws RX4 TX4 14, w ∈ wsX4_floorSmall := by decide +kernel
def X_X4_floorSmall_0 (E : cx) (h : Nat) (p1 : Int32) (f : hm)  (K : Int32 → hm → Prop) : Prop :=
  (isO f h 4 ∧ S_X4_isRegister E h p1 f (fun (r3 : Int32) (f2 : hm) => ((¬ r3 = 0 → (∃ v5 : Nat, rdV f2 h 4 1 = some (.ref v5) ∧ (∃ v6 : Nat, rdQ (eF E) f2 v5 p1 = some (some v6) ∧ (isO f2 h 4 ∧ S_X4_divideDown E h v6 f2 (fun (r9 : Int64) (f8 : hm) => S_X4_isInt E r9 f8 (fun (r11 : Int32) (f10 : hm) => ((r11 = 0 → K (0 : Int32) f10) ∧ (¬ (r11 = 0) → K r9.toInt32 f10)))))))) ∧ (r3 = 0 → K (0 : Int32) f2))))
set_option maxRecDepth 100000 in
set_option maxHeartbeats 4000000 in
theorem R_X4_floorSmall_0 {E : cx} {p : Program} {e : Env} {s : State} {m : MethodId} {below : List Frame} {meth : Method} {c : Code} {f0 : hm} {zh : Nat} {zp1 : Int32} (C : wB E.2.1 vwCl (eT E) yX4_floorSmall cX4_floorSmall 4 (some .int) wsX4_floorSmall [.ref zh, .int zp1] f0 p s m meth c) (h : Nat) (p1 : Int32) (f : hm)  {K : Int32 → hm → Prop} (hv : X_X4_floorSmall_0 E h p1 f  K) {ls : Array Slot} {H : Heap} {locs : List Loc} (hl : lv_has ls 4 [(0, .ref h), (1, .int p1)]) (hS : wS E.2.1 vwCl (wA f0 s.heap.size) s.heap f H locs)  : W p E.1 e ({ frames := 5, cells := 0, slots := 0, locals := 137 }) s m ([.ref zh, .int zp1] : List Value).toArray below meth c H locs 0 0 (MQ below (wQi f0 E.2.1 vwCl K s) ([.ref zh, .int zp1] : List Value).toArray s 0 0 (wA f0 s.heap.size)) (F0 m 0 ls []) := by
  obtain ⟨hx, hb, hml, hown, hts, hr, hlk, hnm, hK, -⟩ := C
  unfold X_X4_floorSmall_0 at hv
  refine lv_aload_n hx hb dX4_floorSmall_0 rfl (lv_at hl 0 rfl) ?_
  refine lv_iload_n hx hb dX4_floorSmall_1 rfl (lv_at hl 1 rfl) ?_
  obtain ⟨ho1, hv⟩ := hv
  refine fw_callVi hx hb hml hown hts hK hS [.int p1] [] hv gX4_floorSmall_X4_isRegister rfl rfl rfl 1 (by decide +kernel) ⟨Nat.le_of_ble_eq_true rfl, Nat.le_of_ble_eq_true rfl⟩ rfl rfl ho1 rfl hl.1 rfl (Nat.le_of_ble_eq_true rfl) dX4_floorSmall_2 ⟨Nat.zero_le _, Nat.zero_le _⟩ (fun r3 f2 H locs hv hS => ?_)
  refine lv_if_ne (tgt := 10) hx hb dX4_floorSmall_5 (by decide) (fun c4 => ?_) (fun c4 => ?_)
  · have hv := hv.1 c4
    refine lv_aload_n hx hb dX4_floorSmall_10 rfl (lv_at hl 0 rfl) ?_
    refine lv_aload_n hx hb dX4_floorSmall_11 rfl (lv_at hl 0 rfl) ?_
    obtain ⟨v5, ev5, hv⟩ := hv
    refine fw_get hx hb hts ii_X4_floorSmall_X4 hown hK hS 1 ev5 rfl (by decide) mm_X4_floorSmall_0 rfl dX4_floorSmall_12 ?_
    refine lv_iload_n hx hb dX4_floorSmall_15 rfl (lv_at hl 1 rfl) ?_
    obtain ⟨v6, ev6, hv⟩ := hv
    refine fw_aald hx hb hK hS 1 rfl ev6 dX4_floorSmall_16 ?_
    obtain ⟨ho7, hv⟩ := hv
    refine fw_callVl hx hb hml hown hts hK hS [.ref v6] [] hv gX4_floorSmall_X4_divideDown rfl rfl rfl 1 (by decide +kernel) ⟨Nat.le_of_ble_eq_true rfl, Nat.le_of_ble_eq_true rfl⟩ rfl rfl ho7 rfl hl.1 rfl (Nat.le_of_ble_eq_true rfl) dX4_floorSmall_17 ⟨Nat.zero_le _, Nat.zero_le _⟩ (fun r9 f8 H locs hv hS => ?_)
    refine lv_lstore_n (lv' := [(2, .long r9), (0, .ref h), (1, .int p1)]) hx hb dX4_floorSmall_20 rfl hl (by decide) rfl (fun ls hl => ?_)
    refine lv_lload_n hx hb dX4_floorSmall_21 rfl (lv_at hl 0 rfl) ?_
    refine fw_callSi hx hb hml hown hts hK hS [.long r9] [] hv gX4_floorSmall_X4_isInt rfl rfl rfl 1 (by decide +kernel) ⟨Nat.le_of_ble_eq_true rfl, Nat.le_of_ble_eq_true rfl⟩ rfl hl.1 rfl (Nat.le_of_ble_eq_true rfl) dX4_floorSmall_22 ⟨Nat.zero_le _, Nat.zero_le _⟩ (fun r11 f10 H locs hv hS => ?_)
    refine lv_if_eq (tgt := 33) hx hb dX4_floorSmall_25 (by decide) (fun c12 => ?_) (fun c12 => ?_)
    · have hv := hv.1 c12
      refine lv_iconst (v := 0) hx hb dX4_floorSmall_33 (by decide) ?_
      exact fw_iret hx hb hr hlk hS hv dX4_floorSmall_34
    · have hv := hv.2 c12
      refine lv_lload_n hx hb dX4_floorSmall_28 rfl (lv_at hl 0 rfl) ?_
      refine lv_l2i hx hb dX4_floorSmall_29 rfl ?_
      refine lv_goto (tgt := 34) hx hb dX4_floorSmall_30 (by decide) ?_
      exact fw_iret hx hb hr hlk hS hv dX4_floorSmall_34
  · have hv := hv.2 c4
    refine lv_iconst (v := 0) hx hb dX4_floorSmall_8 (by decide) ?_
    exact fw_iret hx hb hr hlk hS hv dX4_floorSmall_9
set_option maxRecDepth 100000 in
set_option maxHeartbeats 4000000 in
theorem T_X4_floorSmall {E : cx} {h : Nat} {p1 : Int32} {f : hm} {K : Int32 → hm → Prop}  (h0 : X_X4_floorSmall_0 E h p1 f  K) : S_X4_floorSmall E h p1 f K := by
  refine MI_of (cc := cX4_floorSmall) (maxL := 4) (ret := (some .int)) (by decide) rfl ?_
  intro p e s m below meth c C
  have hl := lv_entry ([.ref h, .int p1]) (n := 4) (Nat.le_of_ble_eq_true rfl)
  rw [lg_entry_eq]
  generalize (lg_sl ([.ref h, .int p1]) ++ List.replicate (4 - (lg_sl ([.ref h, .int p1])).length) Slot.unset).toArray = ls at hl ⊢
  have hl : lv_has ls 4 [(0, .ref h), (1, .int p1)] := hl
  have hS := C.2.2.2.2.2.2.2.2.2
  exact R_X4_floorSmall_0 C h p1 f h0 hl hS
/-! ContinuedRatios.cfStart(I)Z -/
def S_X4_cfStart (E : cx) (h : Nat) (p1 : Int32) (f : hm) (K : Int32 → hm → Prop) : Prop := MI E.1 E.2.1 vwCl (eT E) yX4_cfStart wsX4_cfStart ({ frames := 3, cells := 0, slots := 0, locals := 64 }) [.ref h, .int p1] f K
theorem mm_X4_cfStart_0 : Cond.fieldLink RX4 14 "ContinuedRatios" "rest" "LContinuedRatios$Fraction;" ∈ wsX4_cfStart := by decide +kernel
theorem mm_X4_cfStart_1 : Cond.fieldLink RX4 73 "ContinuedRatios" "registers" "[LContinuedRatios$Fraction;" ∈ wsX4_cfStart := by decide +kernel
theorem ii_X4_cfStart_X4 : ∀ w ∈ u_ws RX4 TX4 14, w ∈ wsX4_cfStart := by decide +kernel
def X_X4_cfStart_0 (E : cx) (h : Nat) (p1 : Int32) (f : hm)  (K : Int32 → hm → Prop) : Prop :=
  (isO f h 4 ∧ S_X4_isRegister E h p1 f (fun (r3 : Int32) (f2 : hm) => ((¬ r3 = 0 → (∃ v5 : Nat, rdV f2 h 4 2 = some (.ref v5) ∧ (∃ v6 : Nat, rdV f2 h 4 1 = some (.ref v6) ∧ (∃ v7 : Nat, rdQ (eF E) f2 v6 p1 = some (some v7) ∧ (isO f2 v5 0 ∧ S_X0_become E v5 v7 f2 (fun (f9 : hm) => (narrow .boolean (.int (1 : Int32)) = .int (1 : Int32) ∧ K (1 : Int32) f9))))))) ∧ (r3 = 0 → (narrow .boolean (.int (0 : Int32)) = .int (0 : Int32) ∧ K (0 : Int32) f2)))))
set_option maxRecDepth 100000 in
set_option maxHeartbeats 4000000 in
theorem R_X4_cfStart_0 {E : cx} {p : Program} {e : Env} {s : State} {m : MethodId} {below : List Frame} {meth : Method} {c : Code} {f0 : hm} {zh : Nat} {zp1 : Int32} (C : wB E.2.1 vwCl (eT E) yX4_cfStart cX4_cfStart 2 (some .boolean) wsX4_cfStart [.ref zh, .int zp1] f0 p s m meth c) (h : Nat) (p1 : Int32) (f : hm)  {K : Int32 → hm → Prop} (hv : X_X4_cfStart_0 E h p1 f  K) {ls : Array Slot} {H : Heap} {locs : List Loc} (hl : lv_has ls 2 [(0, .ref h), (1, .int p1)]) (hS : wS E.2.1 vwCl (wA f0 s.heap.size) s.heap f H locs)  : W p E.1 e ({ frames := 3, cells := 0, slots := 0, locals := 64 }) s m ([.ref zh, .int zp1] : List Value).toArray below meth c H locs 0 0 (MQ below (wQi f0 E.2.1 vwCl K s) ([.ref zh, .int zp1] : List Value).toArray s 0 0 (wA f0 s.heap.size)) (F0 m 0 ls []) := by
  obtain ⟨hx, hb, hml, hown, hts, hr, hlk, hnm, hK, -⟩ := C
  unfold X_X4_cfStart_0 at hv
  refine lv_aload_n hx hb dX4_cfStart_0 rfl (lv_at hl 0 rfl) ?_
  refine lv_iload_n hx hb dX4_cfStart_1 rfl (lv_at hl 1 rfl) ?_
  obtain ⟨ho1, hv⟩ := hv
  refine fw_callVi hx hb hml hown hts hK hS [.int p1] [] hv gX4_cfStart_X4_isRegister rfl rfl rfl 1 (by decide +kernel) ⟨Nat.le_of_ble_eq_true rfl, Nat.le_of_ble_eq_true rfl⟩ rfl rfl ho1 rfl hl.1 rfl (Nat.le_of_ble_eq_true rfl) dX4_cfStart_2 ⟨Nat.zero_le _, Nat.zero_le _⟩ (fun r3 f2 H locs hv hS => ?_)
  refine lv_if_ne (tgt := 10) hx hb dX4_cfStart_5 (by decide) (fun c4 => ?_) (fun c4 => ?_)
  · have hv := hv.1 c4
    refine lv_aload_n hx hb dX4_cfStart_10 rfl (lv_at hl 0 rfl) ?_
    obtain ⟨v5, ev5, hv⟩ := hv
    refine fw_get hx hb hts ii_X4_cfStart_X4 hown hK hS 2 ev5 rfl (by decide) mm_X4_cfStart_0 rfl dX4_cfStart_11 ?_
    refine lv_aload_n hx hb dX4_cfStart_14 rfl (lv_at hl 0 rfl) ?_
    obtain ⟨v6, ev6, hv⟩ := hv
    refine fw_get hx hb hts ii_X4_cfStart_X4 hown hK hS 1 ev6 rfl (by decide) mm_X4_cfStart_1 rfl dX4_cfStart_15 ?_
    refine lv_iload_n hx hb dX4_cfStart_18 rfl (lv_at hl 1 rfl) ?_
    obtain ⟨v7, ev7, hv⟩ := hv
    refine fw_aald hx hb hK hS 1 rfl ev7 dX4_cfStart_19 ?_
    obtain ⟨ho8, hv⟩ := hv
    refine fw_callVv hx hb hml hown hts hK hS [.ref v7] [] hv gX4_cfStart_X0_become rfl rfl rfl 1 (by decide +kernel) ⟨Nat.le_of_ble_eq_true rfl, Nat.le_of_ble_eq_true rfl⟩ rfl rfl ho8 rfl hl.1 rfl (Nat.le_of_ble_eq_true rfl) dX4_cfStart_20 ⟨Nat.zero_le _, Nat.zero_le _⟩ (fun f9 H locs hv hS => ?_)
    refine lv_iconst (v := 1) hx hb dX4_cfStart_23 (by decide) ?_
    exact fw_zret hx hb hr hlk hS hv dX4_cfStart_24
  · have hv := hv.2 c4
    refine lv_iconst (v := 0) hx hb dX4_cfStart_8 (by decide) ?_
    exact fw_zret hx hb hr hlk hS hv dX4_cfStart_9
set_option maxRecDepth 100000 in
set_option maxHeartbeats 4000000 in
theorem T_X4_cfStart {E : cx} {h : Nat} {p1 : Int32} {f : hm} {K : Int32 → hm → Prop}  (h0 : X_X4_cfStart_0 E h p1 f  K) : S_X4_cfStart E h p1 f K := by
  refine MI_of (cc := cX4_cfStart) (maxL := 2) (ret := (some .boolean)) (by decide) rfl ?_
  intro p e s m below meth c C
  have hl := lv_entry ([.ref h, .int p1]) (n := 2) (Nat.le_of_ble_eq_true rfl)
  rw [lg_entry_eq]
  generalize (lg_sl ([.ref h, .int p1]) ++ List.replicate (2 - (lg_sl ([.ref h, .int p1])).length) Slot.unset).toArray = ls at hl ⊢
  have hl : lv_has ls 2 [(0, .ref h), (1, .int p1)] := hl
  have hS := C.2.2.2.2.2.2.2.2.2
  exact R_X4_cfStart_0 C h p1 f h0 hl hS
/-! ContinuedRatios.cfNext()I -/
def S_X4_cfNext (E : cx) (h : Nat) (f : hm) (K : Int32 → hm → Prop) : Prop := MI E.1 E.2.1 vwCl (eT E) yX4_cfNext wsX4_cfNext ({ frames := 5, cells := 0, slots := 0, locals := 137 }) [.ref h] f K
theorem mm_X4_cfNext_0 : Cond.fieldLink RX4 14 "ContinuedRatios" "rest" "LContinuedRatios$Fraction;" ∈ wsX4_cfNext := by decide +kernel
theorem mm_X4_cfNext_1 : Cond.fieldLink RX4 77 "ContinuedRatios$Fraction" "lower" "LContinuedRatios$Natural;" ∈ wsX4_cfNext := by decide +kernel
theorem mm_X4_cfNext_2 : Cond.constant RX4 144 (-2147483648) ∈ wsX4_cfNext := by decide +kernel
theorem mm_X4_cfNext_3 : Cond.constantLong RX4 145 (-2147483648) ∈ wsX4_cfNext := by decide +kernel
theorem mm_X4_cfNext_4 : Cond.fieldLink RX4 101 "ContinuedRatios$Fraction" "signum" "I" ∈ wsX4_cfNext := by decide +kernel
theorem mm_X4_cfNext_5 : Cond.fieldLink RX4 88 "ContinuedRatios$Fraction" "upper" "LContinuedRatios$Natural;" ∈ wsX4_cfNext := by decide +kernel
theorem mm_X4_cfNext_6 : Cond.fieldLink RX4 62 "ContinuedRatios" "remainder" "LContinuedRatios$Natural;" ∈ wsX4_cfNext := by decide +kernel
theorem ii_X4_cfNext_X4 : ∀ w ∈ u_ws RX4 TX4 14, w ∈ wsX4_cfNext := by decide +kernel
theorem ii_X4_cfNext_X0 : ∀ w ∈ u_ws RX0 TX0 3, w ∈ wsX4_cfNext := by decide +kernel
def X_X4_cfNext_0 (E : cx) (h : Nat) (f : hm)  (K : Int32 → hm → Prop) : Prop :=
  (∃ v1 : Nat, rdV f h 4 2 = some (.ref v1) ∧ (∃ v2 : Nat, rdV f v1 0 2 = some (.ref v2) ∧ (isO f v2 1 ∧ S_X1_isZero E v2 f (fun (r5 : Int32) (f4 : hm) => ((r5 = 0 → (∃ v7 : Nat, rdV f4 h 4 2 = some (.ref v7) ∧ (isO f4 h 4 ∧ S_X4_divideDown E h v7 f4 (fun (r10 : Int64) (f9 : hm) => S_X4_isInt E r10 f9 (fun (r12 : Int32) (f11 : hm) => ((r12 = 0 → K (-2147483648 : Int32) f11) ∧ (¬ (r12 = 0) → ((¬ (lg_cmp r10 (-2147483648 : Int64)) = 0 → (∃ v15 : Nat, rdV f11 h 4 2 = some (.ref v15) ∧ (∃ f16 : hm, wrV f11 v15 0 0 (.int (1 : Int32)) = some f16 ∧ (∃ v17 : Nat, rdV f16 h 4 2 = some (.ref v17) ∧ (∃ v18 : Nat, rdV f16 v17 0 1 = some (.ref v18) ∧ (∃ v19 : Nat, rdV f16 h 4 2 = some (.ref v19) ∧ (∃ v20 : Nat, rdV f16 v19 0 2 = some (.ref v20) ∧ (isO f16 v18 1 ∧ S_X1_become_ E v18 v20 f16 (fun (f22 : hm) => (∃ v23 : Nat, rdV f22 h 4 2 = some (.ref v23) ∧ (∃ v24 : Nat, rdV f22 v23 0 2 = some (.ref v24) ∧ (∃ v25 : Nat, rdV f22 h 4 13 = some (.ref v25) ∧ (isO f22 v24 1 ∧ S_X1_become_ E v24 v25 f22 (fun (f27 : hm) => K r10.toInt32 f27)))))))))))))) ∧ ((lg_cmp r10 (-2147483648 : Int64)) = 0 → K (-2147483648 : Int32) f11))))))))) ∧ (¬ (r5 = 0) → K (-2147483648 : Int32) f4))))))
set_option maxRecDepth 100000 in
set_option maxHeartbeats 4000000 in
theorem R_X4_cfNext_0 {E : cx} {p : Program} {e : Env} {s : State} {m : MethodId} {below : List Frame} {meth : Method} {c : Code} {f0 : hm} {zh : Nat} (C : wB E.2.1 vwCl (eT E) yX4_cfNext cX4_cfNext 3 (some .int) wsX4_cfNext [.ref zh] f0 p s m meth c) (h : Nat) (f : hm)  {K : Int32 → hm → Prop} (hv : X_X4_cfNext_0 E h f  K) {ls : Array Slot} {H : Heap} {locs : List Loc} (hl : lv_has ls 3 [(0, .ref h)]) (hS : wS E.2.1 vwCl (wA f0 s.heap.size) s.heap f H locs)  : W p E.1 e ({ frames := 5, cells := 0, slots := 0, locals := 137 }) s m ([.ref zh] : List Value).toArray below meth c H locs 0 0 (MQ below (wQi f0 E.2.1 vwCl K s) ([.ref zh] : List Value).toArray s 0 0 (wA f0 s.heap.size)) (F0 m 0 ls []) := by
  obtain ⟨hx, hb, hml, hown, hts, hr, hlk, hnm, hK, -⟩ := C
  unfold X_X4_cfNext_0 at hv
  refine lv_aload_n hx hb dX4_cfNext_0 rfl (lv_at hl 0 rfl) ?_
  obtain ⟨v1, ev1, hv⟩ := hv
  refine fw_get hx hb hts ii_X4_cfNext_X4 hown hK hS 2 ev1 rfl (by decide) mm_X4_cfNext_0 rfl dX4_cfNext_1 ?_
  obtain ⟨v2, ev2, hv⟩ := hv
  refine fw_get hx hb hts ii_X4_cfNext_X0 hown hK hS 2 ev2 rfl (by decide) mm_X4_cfNext_1 rfl dX4_cfNext_4 ?_
  obtain ⟨ho3, hv⟩ := hv
  refine fw_callVi hx hb hml hown hts hK hS [] [] hv gX4_cfNext_X1_isZero rfl rfl rfl 0 (by decide +kernel) ⟨Nat.le_of_ble_eq_true rfl, Nat.le_of_ble_eq_true rfl⟩ rfl rfl ho3 rfl hl.1 rfl (Nat.le_of_ble_eq_true rfl) dX4_cfNext_7 ⟨Nat.zero_le _, Nat.zero_le _⟩ (fun r5 f4 H locs hv hS => ?_)
  refine lv_if_eq (tgt := 16) hx hb dX4_cfNext_10 (by decide) (fun c6 => ?_) (fun c6 => ?_)
  · have hv := hv.1 c6
    refine lv_aload_n hx hb dX4_cfNext_16 rfl (lv_at hl 0 rfl) ?_
    refine lv_aload_n hx hb dX4_cfNext_17 rfl (lv_at hl 0 rfl) ?_
    obtain ⟨v7, ev7, hv⟩ := hv
    refine fw_get hx hb hts ii_X4_cfNext_X4 hown hK hS 2 ev7 rfl (by decide) mm_X4_cfNext_0 rfl dX4_cfNext_18 ?_
    obtain ⟨ho8, hv⟩ := hv
    refine fw_callVl hx hb hml hown hts hK hS [.ref v7] [] hv gX4_cfNext_X4_divideDown rfl rfl rfl 1 (by decide +kernel) ⟨Nat.le_of_ble_eq_true rfl, Nat.le_of_ble_eq_true rfl⟩ rfl rfl ho8 rfl hl.1 rfl (Nat.le_of_ble_eq_true rfl) dX4_cfNext_21 ⟨Nat.zero_le _, Nat.zero_le _⟩ (fun r10 f9 H locs hv hS => ?_)
    refine lv_lstore_n (lv' := [(1, .long r10), (0, .ref h)]) hx hb dX4_cfNext_24 rfl hl (by decide) rfl (fun ls hl => ?_)
    refine lv_lload_n hx hb dX4_cfNext_25 rfl (lv_at hl 0 rfl) ?_
    refine fw_callSi hx hb hml hown hts hK hS [.long r10] [] hv gX4_cfNext_X4_isInt rfl rfl rfl 1 (by decide +kernel) ⟨Nat.le_of_ble_eq_true rfl, Nat.le_of_ble_eq_true rfl⟩ rfl hl.1 rfl (Nat.le_of_ble_eq_true rfl) dX4_cfNext_26 ⟨Nat.zero_le _, Nat.zero_le _⟩ (fun r12 f11 H locs hv hS => ?_)
    refine lv_if_eq (tgt := 40) hx hb dX4_cfNext_29 (by decide) (fun c13 => ?_) (fun c13 => ?_)
    · have hv := hv.1 c13
      refine lv_ldc (v := (-2147483648)) hx hb hown (hts _ mm_X4_cfNext_2) dX4_cfNext_40 ?_
      exact fw_iret hx hb hr hlk hS hv dX4_cfNext_42
    · have hv := hv.2 c13
      refine lv_lload_n hx hb dX4_cfNext_32 rfl (lv_at hl 0 rfl) ?_
      refine lv_ldc2 (v := (-2147483648)) hx hb hown (hts _ mm_X4_cfNext_3) dX4_cfNext_33 ?_
      refine W.lcmp hx hb dX4_cfNext_36 ?_
      refine lv_if_ne (tgt := 43) hx hb dX4_cfNext_37 (by decide) (fun c14 => ?_) (fun c14 => ?_)
      · have hv := hv.1 c14
        refine lv_aload_n hx hb dX4_cfNext_43 rfl (lv_at hl 1 rfl) ?_
        obtain ⟨v15, ev15, hv⟩ := hv
        refine fw_get hx hb hts ii_X4_cfNext_X4 hown hK hS 2 ev15 rfl (by decide) mm_X4_cfNext_0 rfl dX4_cfNext_44 ?_
        refine lv_iconst (v := 1) hx hb dX4_cfNext_47 (by decide) ?_
        obtain ⟨f16, ef16, hv⟩ := hv
        refine fw_put hx hb hts ii_X4_cfNext_X0 tyX0 tyX0_ok nmX0 hown hK hS 0 ef16 rfl (by decide) mm_X4_cfNext_4 rfl rfl rfl rfl dX4_cfNext_48 (fun H locs hS => ?_)
        refine lv_aload_n hx hb dX4_cfNext_51 rfl (lv_at hl 1 rfl) ?_
        obtain ⟨v17, ev17, hv⟩ := hv
        refine fw_get hx hb hts ii_X4_cfNext_X4 hown hK hS 2 ev17 rfl (by decide) mm_X4_cfNext_0 rfl dX4_cfNext_52 ?_
        obtain ⟨v18, ev18, hv⟩ := hv
        refine fw_get hx hb hts ii_X4_cfNext_X0 hown hK hS 1 ev18 rfl (by decide) mm_X4_cfNext_5 rfl dX4_cfNext_55 ?_
        refine lv_aload_n hx hb dX4_cfNext_58 rfl (lv_at hl 1 rfl) ?_
        obtain ⟨v19, ev19, hv⟩ := hv
        refine fw_get hx hb hts ii_X4_cfNext_X4 hown hK hS 2 ev19 rfl (by decide) mm_X4_cfNext_0 rfl dX4_cfNext_59 ?_
        obtain ⟨v20, ev20, hv⟩ := hv
        refine fw_get hx hb hts ii_X4_cfNext_X0 hown hK hS 2 ev20 rfl (by decide) mm_X4_cfNext_1 rfl dX4_cfNext_62 ?_
        obtain ⟨ho21, hv⟩ := hv
        refine fw_callVv hx hb hml hown hts hK hS [.ref v20] [] hv gX4_cfNext_X1_become_ rfl rfl rfl 1 (by decide +kernel) ⟨Nat.le_of_ble_eq_true rfl, Nat.le_of_ble_eq_true rfl⟩ rfl rfl ho21 rfl hl.1 rfl (Nat.le_of_ble_eq_true rfl) dX4_cfNext_65 ⟨Nat.zero_le _, Nat.zero_le _⟩ (fun f22 H locs hv hS => ?_)
        refine lv_aload_n hx hb dX4_cfNext_68 rfl (lv_at hl 1 rfl) ?_
        obtain ⟨v23, ev23, hv⟩ := hv
        refine fw_get hx hb hts ii_X4_cfNext_X4 hown hK hS 2 ev23 rfl (by decide) mm_X4_cfNext_0 rfl dX4_cfNext_69 ?_
        obtain ⟨v24, ev24, hv⟩ := hv
        refine fw_get hx hb hts ii_X4_cfNext_X0 hown hK hS 2 ev24 rfl (by decide) mm_X4_cfNext_1 rfl dX4_cfNext_72 ?_
        refine lv_aload_n hx hb dX4_cfNext_75 rfl (lv_at hl 1 rfl) ?_
        obtain ⟨v25, ev25, hv⟩ := hv
        refine fw_get hx hb hts ii_X4_cfNext_X4 hown hK hS 13 ev25 rfl (by decide) mm_X4_cfNext_6 rfl dX4_cfNext_76 ?_
        obtain ⟨ho26, hv⟩ := hv
        refine fw_callVv hx hb hml hown hts hK hS [.ref v25] [] hv gX4_cfNext_X1_become_ rfl rfl rfl 1 (by decide +kernel) ⟨Nat.le_of_ble_eq_true rfl, Nat.le_of_ble_eq_true rfl⟩ rfl rfl ho26 rfl hl.1 rfl (Nat.le_of_ble_eq_true rfl) dX4_cfNext_79 ⟨Nat.zero_le _, Nat.zero_le _⟩ (fun f27 H locs hv hS => ?_)
        refine lv_lload_n hx hb dX4_cfNext_82 rfl (lv_at hl 0 rfl) ?_
        refine lv_l2i hx hb dX4_cfNext_83 rfl ?_
        exact fw_iret hx hb hr hlk hS hv dX4_cfNext_84
      · have hv := hv.2 c14
        refine lv_ldc (v := (-2147483648)) hx hb hown (hts _ mm_X4_cfNext_2) dX4_cfNext_40 ?_
        exact fw_iret hx hb hr hlk hS hv dX4_cfNext_42
  · have hv := hv.2 c6
    refine lv_ldc (v := (-2147483648)) hx hb hown (hts _ mm_X4_cfNext_2) dX4_cfNext_13 ?_
    exact fw_iret hx hb hr hlk hS hv dX4_cfNext_15
set_option maxRecDepth 100000 in
set_option maxHeartbeats 4000000 in
theorem T_X4_cfNext {E : cx} {h : Nat} {f : hm} {K : Int32 → hm → Prop}  (h0 : X_X4_cfNext_0 E h f  K) : S_X4_cfNext E h f K := by
  refine MI_of (cc := cX4_cfNext) (maxL := 3) (ret := (some .int)) (by decide) rfl ?_
  intro p e s m below meth c C
  have hl := lv_entry ([.ref h]) (n := 3) (Nat.le_of_ble_eq_true rfl)
  rw [lg_entry_eq]
  generalize (lg_sl ([.ref h]) ++ List.replicate (3 - (lg_sl ([.ref h])).length) Slot.unset).toArray = ls at hl ⊢
  have hl : lv_has ls 3 [(0, .ref h)] := hl
  have hS := C.2.2.2.2.2.2.2.2.2
  exact R_X4_cfNext_0 C h f h0 hl hS
/-! ContinuedRatios.cfDone()Z -/
def S_X4_cfDone (E : cx) (h : Nat) (f : hm) (K : Int32 → hm → Prop) : Prop := MI E.1 E.2.1 vwCl (eT E) yX4_cfDone wsX4_cfDone ({ frames := 1, cells := 0, slots := 0, locals := 20 }) [.ref h] f K
theorem mm_X4_cfDone_0 : Cond.fieldLink RX4 14 "ContinuedRatios" "rest" "LContinuedRatios$Fraction;" ∈ wsX4_cfDone := by decide +kernel
theorem mm_X4_cfDone_1 : Cond.fieldLink RX4 77 "ContinuedRatios$Fraction" "lower" "LContinuedRatios$Natural;" ∈ wsX4_cfDone := by decide +kernel
theorem ii_X4_cfDone_X4 : ∀ w ∈ u_ws RX4 TX4 14, w ∈ wsX4_cfDone := by decide +kernel
theorem ii_X4_cfDone_X0 : ∀ w ∈ u_ws RX0 TX0 3, w ∈ wsX4_cfDone := by decide +kernel
def X_X4_cfDone_0 (E : cx) (h : Nat) (f : hm)  (K : Int32 → hm → Prop) : Prop :=
  (∃ v1 : Nat, rdV f h 4 2 = some (.ref v1) ∧ (∃ v2 : Nat, rdV f v1 0 2 = some (.ref v2) ∧ (isO f v2 1 ∧ S_X1_isZero E v2 f (fun (r5 : Int32) (f4 : hm) => (narrow .boolean (.int r5) = .int r5 ∧ K r5 f4)))))
set_option maxRecDepth 100000 in
set_option maxHeartbeats 4000000 in
theorem R_X4_cfDone_0 {E : cx} {p : Program} {e : Env} {s : State} {m : MethodId} {below : List Frame} {meth : Method} {c : Code} {f0 : hm} {zh : Nat} (C : wB E.2.1 vwCl (eT E) yX4_cfDone cX4_cfDone 1 (some .boolean) wsX4_cfDone [.ref zh] f0 p s m meth c) (h : Nat) (f : hm)  {K : Int32 → hm → Prop} (hv : X_X4_cfDone_0 E h f  K) {ls : Array Slot} {H : Heap} {locs : List Loc} (hl : lv_has ls 1 [(0, .ref h)]) (hS : wS E.2.1 vwCl (wA f0 s.heap.size) s.heap f H locs)  : W p E.1 e ({ frames := 1, cells := 0, slots := 0, locals := 20 }) s m ([.ref zh] : List Value).toArray below meth c H locs 0 0 (MQ below (wQi f0 E.2.1 vwCl K s) ([.ref zh] : List Value).toArray s 0 0 (wA f0 s.heap.size)) (F0 m 0 ls []) := by
  obtain ⟨hx, hb, hml, hown, hts, hr, hlk, hnm, hK, -⟩ := C
  unfold X_X4_cfDone_0 at hv
  refine lv_aload_n hx hb dX4_cfDone_0 rfl (lv_at hl 0 rfl) ?_
  obtain ⟨v1, ev1, hv⟩ := hv
  refine fw_get hx hb hts ii_X4_cfDone_X4 hown hK hS 2 ev1 rfl (by decide) mm_X4_cfDone_0 rfl dX4_cfDone_1 ?_
  obtain ⟨v2, ev2, hv⟩ := hv
  refine fw_get hx hb hts ii_X4_cfDone_X0 hown hK hS 2 ev2 rfl (by decide) mm_X4_cfDone_1 rfl dX4_cfDone_4 ?_
  obtain ⟨ho3, hv⟩ := hv
  refine fw_callVi hx hb hml hown hts hK hS [] [] hv gX4_cfDone_X1_isZero rfl rfl rfl 0 (by decide +kernel) ⟨Nat.le_of_ble_eq_true rfl, Nat.le_of_ble_eq_true rfl⟩ rfl rfl ho3 rfl hl.1 rfl (Nat.le_of_ble_eq_true rfl) dX4_cfDone_7 ⟨Nat.zero_le _, Nat.zero_le _⟩ (fun r5 f4 H locs hv hS => ?_)
  exact fw_zret hx hb hr hlk hS hv dX4_cfDone_10
set_option maxRecDepth 100000 in
set_option maxHeartbeats 4000000 in
theorem T_X4_cfDone {E : cx} {h : Nat} {f : hm} {K : Int32 → hm → Prop}  (h0 : X_X4_cfDone_0 E h f  K) : S_X4_cfDone E h f K := by
  refine MI_of (cc := cX4_cfDone) (maxL := 1) (ret := (some .boolean)) (by decide) rfl ?_
  intro p e s m below meth c C
  have hl := lv_entry ([.ref h]) (n := 1) (Nat.le_of_ble_eq_true rfl)
  rw [lg_entry_eq]
  generalize (lg_sl ([.ref h]) ++ List.replicate (1 - (lg_sl ([.ref h])).length) Slot.unset).toArray = ls at hl ⊢
  have hl : lv_has ls 1 [(0, .ref h)] := hl
  have hS := C.2.2.2.2.2.2.2.2.2
  exact R_X4_cfDone_0 C h f h0 hl hS
/-! ContinuedRatios.numLimb(II)I -/
def S_X4_numLimb (E : cx) (h : Nat) (p1 : Int32) (p2 : Int32) (f : hm) (K : Int32 → hm → Prop) : Prop := MI E.1 E.2.1 vwCl (eT E) yX4_numLimb wsX4_numLimb ({ frames := 1, cells := 0, slots := 0, locals := 21 }) [.ref h, .int p1, .int p2] f K
theorem mm_X4_numLimb_0 : Cond.fieldLink RX4 73 "ContinuedRatios" "registers" "[LContinuedRatios$Fraction;" ∈ wsX4_numLimb := by decide +kernel
theorem mm_X4_numLimb_1 : Cond.fieldLink RX4 88 "ContinuedRatios$Fraction" "upper" "LContinuedRatios$Natural;" ∈ wsX4_numLimb := by decide +kernel
theorem ii_X4_numLimb_X4 : ∀ w ∈ u_ws RX4 TX4 14, w ∈ wsX4_numLimb := by decide +kernel
theorem ii_X4_numLimb_X0 : ∀ w ∈ u_ws RX0 TX0 3, w ∈ wsX4_numLimb := by decide +kernel
def X_X4_numLimb_0 (E : cx) (h : Nat) (p1 : Int32) (p2 : Int32) (f : hm)  (K : Int32 → hm → Prop) : Prop :=
  (isO f h 4 ∧ S_X4_isRegister E h p1 f (fun (r3 : Int32) (f2 : hm) => ((r3 = 0 → K (0 : Int32) f2) ∧ (¬ (r3 = 0) → (∃ v5 : Nat, rdV f2 h 4 1 = some (.ref v5) ∧ (∃ v6 : Nat, rdQ (eF E) f2 v5 p1 = some (some v6) ∧ (∃ v7 : Nat, rdV f2 v6 0 1 = some (.ref v7) ∧ (isO f2 v7 1 ∧ S_X1_limb E v7 p2 f2 (fun (r10 : Int64) (f9 : hm) => K r10.toInt32 f9)))))))))
set_option maxRecDepth 100000 in
set_option maxHeartbeats 4000000 in
theorem R_X4_numLimb_0 {E : cx} {p : Program} {e : Env} {s : State} {m : MethodId} {below : List Frame} {meth : Method} {c : Code} {f0 : hm} {zh : Nat} {zp1 : Int32} {zp2 : Int32} (C : wB E.2.1 vwCl (eT E) yX4_numLimb cX4_numLimb 3 (some .int) wsX4_numLimb [.ref zh, .int zp1, .int zp2] f0 p s m meth c) (h : Nat) (p1 : Int32) (p2 : Int32) (f : hm)  {K : Int32 → hm → Prop} (hv : X_X4_numLimb_0 E h p1 p2 f  K) {ls : Array Slot} {H : Heap} {locs : List Loc} (hl : lv_has ls 3 [(0, .ref h), (1, .int p1), (2, .int p2)]) (hS : wS E.2.1 vwCl (wA f0 s.heap.size) s.heap f H locs)  : W p E.1 e ({ frames := 1, cells := 0, slots := 0, locals := 21 }) s m ([.ref zh, .int zp1, .int zp2] : List Value).toArray below meth c H locs 0 0 (MQ below (wQi f0 E.2.1 vwCl K s) ([.ref zh, .int zp1, .int zp2] : List Value).toArray s 0 0 (wA f0 s.heap.size)) (F0 m 0 ls []) := by
  obtain ⟨hx, hb, hml, hown, hts, hr, hlk, hnm, hK, -⟩ := C
  unfold X_X4_numLimb_0 at hv
  refine lv_aload_n hx hb dX4_numLimb_0 rfl (lv_at hl 0 rfl) ?_
  refine lv_iload_n hx hb dX4_numLimb_1 rfl (lv_at hl 1 rfl) ?_
  obtain ⟨ho1, hv⟩ := hv
  refine fw_callVi hx hb hml hown hts hK hS [.int p1] [] hv gX4_numLimb_X4_isRegister rfl rfl rfl 1 (by decide +kernel) ⟨Nat.le_of_ble_eq_true rfl, Nat.le_of_ble_eq_true rfl⟩ rfl rfl ho1 rfl hl.1 rfl (Nat.le_of_ble_eq_true rfl) dX4_numLimb_2 ⟨Nat.zero_le _, Nat.zero_le _⟩ (fun r3 f2 H locs hv hS => ?_)
  refine lv_if_eq (tgt := 25) hx hb dX4_numLimb_5 (by decide) (fun c4 => ?_) (fun c4 => ?_)
  · have hv := hv.1 c4
    refine lv_iconst (v := 0) hx hb dX4_numLimb_25 (by decide) ?_
    exact fw_iret hx hb hr hlk hS hv dX4_numLimb_26
  · have hv := hv.2 c4
    refine lv_aload_n hx hb dX4_numLimb_8 rfl (lv_at hl 0 rfl) ?_
    obtain ⟨v5, ev5, hv⟩ := hv
    refine fw_get hx hb hts ii_X4_numLimb_X4 hown hK hS 1 ev5 rfl (by decide) mm_X4_numLimb_0 rfl dX4_numLimb_9 ?_
    refine lv_iload_n hx hb dX4_numLimb_12 rfl (lv_at hl 1 rfl) ?_
    obtain ⟨v6, ev6, hv⟩ := hv
    refine fw_aald hx hb hK hS 1 rfl ev6 dX4_numLimb_13 ?_
    obtain ⟨v7, ev7, hv⟩ := hv
    refine fw_get hx hb hts ii_X4_numLimb_X0 hown hK hS 1 ev7 rfl (by decide) mm_X4_numLimb_1 rfl dX4_numLimb_14 ?_
    refine lv_iload_n hx hb dX4_numLimb_17 rfl (lv_at hl 2 rfl) ?_
    obtain ⟨ho8, hv⟩ := hv
    refine fw_callVl hx hb hml hown hts hK hS [.int p2] [] hv gX4_numLimb_X1_limb rfl rfl rfl 1 (by decide +kernel) ⟨Nat.le_of_ble_eq_true rfl, Nat.le_of_ble_eq_true rfl⟩ rfl rfl ho8 rfl hl.1 rfl (Nat.le_of_ble_eq_true rfl) dX4_numLimb_18 ⟨Nat.zero_le _, Nat.zero_le _⟩ (fun r10 f9 H locs hv hS => ?_)
    refine lv_l2i hx hb dX4_numLimb_21 rfl ?_
    refine lv_goto (tgt := 26) hx hb dX4_numLimb_22 (by decide) ?_
    exact fw_iret hx hb hr hlk hS hv dX4_numLimb_26
set_option maxRecDepth 100000 in
set_option maxHeartbeats 4000000 in
theorem T_X4_numLimb {E : cx} {h : Nat} {p1 : Int32} {p2 : Int32} {f : hm} {K : Int32 → hm → Prop}  (h0 : X_X4_numLimb_0 E h p1 p2 f  K) : S_X4_numLimb E h p1 p2 f K := by
  refine MI_of (cc := cX4_numLimb) (maxL := 3) (ret := (some .int)) (by decide) rfl ?_
  intro p e s m below meth c C
  have hl := lv_entry ([.ref h, .int p1, .int p2]) (n := 3) (Nat.le_of_ble_eq_true rfl)
  rw [lg_entry_eq]
  generalize (lg_sl ([.ref h, .int p1, .int p2]) ++ List.replicate (3 - (lg_sl ([.ref h, .int p1, .int p2])).length) Slot.unset).toArray = ls at hl ⊢
  have hl : lv_has ls 3 [(0, .ref h), (1, .int p1), (2, .int p2)] := hl
  have hS := C.2.2.2.2.2.2.2.2.2
  exact R_X4_numLimb_0 C h p1 p2 f h0 hl hS
/-! ContinuedRatios.denLimb(II)I -/
def S_X4_denLimb (E : cx) (h : Nat) (p1 : Int32) (p2 : Int32) (f : hm) (K : Int32 → hm → Prop) : Prop := MI E.1 E.2.1 vwCl (eT E) yX4_denLimb wsX4_denLimb ({ frames := 1, cells := 0, slots := 0, locals := 21 }) [.ref h, .int p1, .int p2] f K
theorem mm_X4_denLimb_0 : Cond.fieldLink RX4 73 "ContinuedRatios" "registers" "[LContinuedRatios$Fraction;" ∈ wsX4_denLimb := by decide +kernel
theorem mm_X4_denLimb_1 : Cond.fieldLink RX4 77 "ContinuedRatios$Fraction" "lower" "LContinuedRatios$Natural;" ∈ wsX4_denLimb := by decide +kernel
theorem ii_X4_denLimb_X4 : ∀ w ∈ u_ws RX4 TX4 14, w ∈ wsX4_denLimb := by decide +kernel
theorem ii_X4_denLimb_X0 : ∀ w ∈ u_ws RX0 TX0 3, w ∈ wsX4_denLimb := by decide +kernel
def X_X4_denLimb_0 (E : cx) (h : Nat) (p1 : Int32) (p2 : Int32) (f : hm)  (K : Int32 → hm → Prop) : Prop :=
  (isO f h 4 ∧ S_X4_isRegister E h p1 f (fun (r3 : Int32) (f2 : hm) => ((r3 = 0 → K (0 : Int32) f2) ∧ (¬ (r3 = 0) → (∃ v5 : Nat, rdV f2 h 4 1 = some (.ref v5) ∧ (∃ v6 : Nat, rdQ (eF E) f2 v5 p1 = some (some v6) ∧ (∃ v7 : Nat, rdV f2 v6 0 2 = some (.ref v7) ∧ (isO f2 v7 1 ∧ S_X1_limb E v7 p2 f2 (fun (r10 : Int64) (f9 : hm) => K r10.toInt32 f9)))))))))
set_option maxRecDepth 100000 in
set_option maxHeartbeats 4000000 in
theorem R_X4_denLimb_0 {E : cx} {p : Program} {e : Env} {s : State} {m : MethodId} {below : List Frame} {meth : Method} {c : Code} {f0 : hm} {zh : Nat} {zp1 : Int32} {zp2 : Int32} (C : wB E.2.1 vwCl (eT E) yX4_denLimb cX4_denLimb 3 (some .int) wsX4_denLimb [.ref zh, .int zp1, .int zp2] f0 p s m meth c) (h : Nat) (p1 : Int32) (p2 : Int32) (f : hm)  {K : Int32 → hm → Prop} (hv : X_X4_denLimb_0 E h p1 p2 f  K) {ls : Array Slot} {H : Heap} {locs : List Loc} (hl : lv_has ls 3 [(0, .ref h), (1, .int p1), (2, .int p2)]) (hS : wS E.2.1 vwCl (wA f0 s.heap.size) s.heap f H locs)  : W p E.1 e ({ frames := 1, cells := 0, slots := 0, locals := 21 }) s m ([.ref zh, .int zp1, .int zp2] : List Value).toArray below meth c H locs 0 0 (MQ below (wQi f0 E.2.1 vwCl K s) ([.ref zh, .int zp1, .int zp2] : List Value).toArray s 0 0 (wA f0 s.heap.size)) (F0 m 0 ls []) := by
  obtain ⟨hx, hb, hml, hown, hts, hr, hlk, hnm, hK, -⟩ := C
  unfold X_X4_denLimb_0 at hv
  refine lv_aload_n hx hb dX4_denLimb_0 rfl (lv_at hl 0 rfl) ?_
  refine lv_iload_n hx hb dX4_denLimb_1 rfl (lv_at hl 1 rfl) ?_
  obtain ⟨ho1, hv⟩ := hv
  refine fw_callVi hx hb hml hown hts hK hS [.int p1] [] hv gX4_denLimb_X4_isRegister rfl rfl rfl 1 (by decide +kernel) ⟨Nat.le_of_ble_eq_true rfl, Nat.le_of_ble_eq_true rfl⟩ rfl rfl ho1 rfl hl.1 rfl (Nat.le_of_ble_eq_true rfl) dX4_denLimb_2 ⟨Nat.zero_le _, Nat.zero_le _⟩ (fun r3 f2 H locs hv hS => ?_)
  refine lv_if_eq (tgt := 25) hx hb dX4_denLimb_5 (by decide) (fun c4 => ?_) (fun c4 => ?_)
  · have hv := hv.1 c4
    refine lv_iconst (v := 0) hx hb dX4_denLimb_25 (by decide) ?_
    exact fw_iret hx hb hr hlk hS hv dX4_denLimb_26
  · have hv := hv.2 c4
    refine lv_aload_n hx hb dX4_denLimb_8 rfl (lv_at hl 0 rfl) ?_
    obtain ⟨v5, ev5, hv⟩ := hv
    refine fw_get hx hb hts ii_X4_denLimb_X4 hown hK hS 1 ev5 rfl (by decide) mm_X4_denLimb_0 rfl dX4_denLimb_9 ?_
    refine lv_iload_n hx hb dX4_denLimb_12 rfl (lv_at hl 1 rfl) ?_
    obtain ⟨v6, ev6, hv⟩ := hv
    refine fw_aald hx hb hK hS 1 rfl ev6 dX4_denLimb_13 ?_
    obtain ⟨v7, ev7, hv⟩ := hv
    refine fw_get hx hb hts ii_X4_denLimb_X0 hown hK hS 2 ev7 rfl (by decide) mm_X4_denLimb_1 rfl dX4_denLimb_14 ?_
    refine lv_iload_n hx hb dX4_denLimb_17 rfl (lv_at hl 2 rfl) ?_
    obtain ⟨ho8, hv⟩ := hv
    refine fw_callVl hx hb hml hown hts hK hS [.int p2] [] hv gX4_denLimb_X1_limb rfl rfl rfl 1 (by decide +kernel) ⟨Nat.le_of_ble_eq_true rfl, Nat.le_of_ble_eq_true rfl⟩ rfl rfl ho8 rfl hl.1 rfl (Nat.le_of_ble_eq_true rfl) dX4_denLimb_18 ⟨Nat.zero_le _, Nat.zero_le _⟩ (fun r10 f9 H locs hv hS => ?_)
    refine lv_l2i hx hb dX4_denLimb_21 rfl ?_
    refine lv_goto (tgt := 26) hx hb dX4_denLimb_22 (by decide) ?_
    exact fw_iret hx hb hr hlk hS hv dX4_denLimb_26
set_option maxRecDepth 100000 in
set_option maxHeartbeats 4000000 in
theorem T_X4_denLimb {E : cx} {h : Nat} {p1 : Int32} {p2 : Int32} {f : hm} {K : Int32 → hm → Prop}  (h0 : X_X4_denLimb_0 E h p1 p2 f  K) : S_X4_denLimb E h p1 p2 f K := by
  refine MI_of (cc := cX4_denLimb) (maxL := 3) (ret := (some .int)) (by decide) rfl ?_
  intro p e s m below meth c C
  have hl := lv_entry ([.ref h, .int p1, .int p2]) (n := 3) (Nat.le_of_ble_eq_true rfl)
  rw [lg_entry_eq]
  generalize (lg_sl ([.ref h, .int p1, .int p2]) ++ List.replicate (3 - (lg_sl ([.ref h, .int p1, .int p2])).length) Slot.unset).toArray = ls at hl ⊢
  have hl : lv_has ls 3 [(0, .ref h), (1, .int p1), (2, .int p2)] := hl
  have hS := C.2.2.2.2.2.2.2.2.2
  exact R_X4_denLimb_0 C h p1 p2 f h0 hl hS
/-! ContinuedRatios.sign(I)I -/
def S_X4_sign (E : cx) (h : Nat) (p1 : Int32) (f : hm) (K : Int32 → hm → Prop) : Prop := MI E.1 E.2.1 vwCl (eT E) yX4_sign wsX4_sign ({ frames := 1, cells := 0, slots := 0, locals := 21 }) [.ref h, .int p1] f K
theorem mm_X4_sign_0 : Cond.fieldLink RX4 73 "ContinuedRatios" "registers" "[LContinuedRatios$Fraction;" ∈ wsX4_sign := by decide +kernel
theorem mm_X4_sign_1 : Cond.fieldLink RX4 101 "ContinuedRatios$Fraction" "signum" "I" ∈ wsX4_sign := by decide +kernel
theorem ii_X4_sign_X4 : ∀ w ∈ u_ws RX4 TX4 14, w ∈ wsX4_sign := by decide +kernel
theorem ii_X4_sign_X0 : ∀ w ∈ u_ws RX0 TX0 3, w ∈ wsX4_sign := by decide +kernel
def X_X4_sign_0 (E : cx) (h : Nat) (p1 : Int32) (f : hm)  (K : Int32 → hm → Prop) : Prop :=
  (isO f h 4 ∧ S_X4_isRegister E h p1 f (fun (r3 : Int32) (f2 : hm) => ((r3 = 0 → K (0 : Int32) f2) ∧ (¬ (r3 = 0) → (∃ v5 : Nat, rdV f2 h 4 1 = some (.ref v5) ∧ (∃ v6 : Nat, rdQ (eF E) f2 v5 p1 = some (some v6) ∧ (∃ v7 : Int32, rdV f2 v6 0 0 = some (.int v7) ∧ K v7 f2)))))))
set_option maxRecDepth 100000 in
set_option maxHeartbeats 4000000 in
theorem R_X4_sign_0 {E : cx} {p : Program} {e : Env} {s : State} {m : MethodId} {below : List Frame} {meth : Method} {c : Code} {f0 : hm} {zh : Nat} {zp1 : Int32} (C : wB E.2.1 vwCl (eT E) yX4_sign cX4_sign 2 (some .int) wsX4_sign [.ref zh, .int zp1] f0 p s m meth c) (h : Nat) (p1 : Int32) (f : hm)  {K : Int32 → hm → Prop} (hv : X_X4_sign_0 E h p1 f  K) {ls : Array Slot} {H : Heap} {locs : List Loc} (hl : lv_has ls 2 [(0, .ref h), (1, .int p1)]) (hS : wS E.2.1 vwCl (wA f0 s.heap.size) s.heap f H locs)  : W p E.1 e ({ frames := 1, cells := 0, slots := 0, locals := 21 }) s m ([.ref zh, .int zp1] : List Value).toArray below meth c H locs 0 0 (MQ below (wQi f0 E.2.1 vwCl K s) ([.ref zh, .int zp1] : List Value).toArray s 0 0 (wA f0 s.heap.size)) (F0 m 0 ls []) := by
  obtain ⟨hx, hb, hml, hown, hts, hr, hlk, hnm, hK, -⟩ := C
  unfold X_X4_sign_0 at hv
  refine lv_aload_n hx hb dX4_sign_0 rfl (lv_at hl 0 rfl) ?_
  refine lv_iload_n hx hb dX4_sign_1 rfl (lv_at hl 1 rfl) ?_
  obtain ⟨ho1, hv⟩ := hv
  refine fw_callVi hx hb hml hown hts hK hS [.int p1] [] hv gX4_sign_X4_isRegister rfl rfl rfl 1 (by decide +kernel) ⟨Nat.le_of_ble_eq_true rfl, Nat.le_of_ble_eq_true rfl⟩ rfl rfl ho1 rfl hl.1 rfl (Nat.le_of_ble_eq_true rfl) dX4_sign_2 ⟨Nat.zero_le _, Nat.zero_le _⟩ (fun r3 f2 H locs hv hS => ?_)
  refine lv_if_eq (tgt := 20) hx hb dX4_sign_5 (by decide) (fun c4 => ?_) (fun c4 => ?_)
  · have hv := hv.1 c4
    refine lv_iconst (v := 0) hx hb dX4_sign_20 (by decide) ?_
    exact fw_iret hx hb hr hlk hS hv dX4_sign_21
  · have hv := hv.2 c4
    refine lv_aload_n hx hb dX4_sign_8 rfl (lv_at hl 0 rfl) ?_
    obtain ⟨v5, ev5, hv⟩ := hv
    refine fw_get hx hb hts ii_X4_sign_X4 hown hK hS 1 ev5 rfl (by decide) mm_X4_sign_0 rfl dX4_sign_9 ?_
    refine lv_iload_n hx hb dX4_sign_12 rfl (lv_at hl 1 rfl) ?_
    obtain ⟨v6, ev6, hv⟩ := hv
    refine fw_aald hx hb hK hS 1 rfl ev6 dX4_sign_13 ?_
    obtain ⟨v7, ev7, hv⟩ := hv
    refine fw_get hx hb hts ii_X4_sign_X0 hown hK hS 0 ev7 rfl (by decide) mm_X4_sign_1 rfl dX4_sign_14 ?_
    refine lv_goto (tgt := 21) hx hb dX4_sign_17 (by decide) ?_
    exact fw_iret hx hb hr hlk hS hv dX4_sign_21
set_option maxRecDepth 100000 in
set_option maxHeartbeats 4000000 in
theorem T_X4_sign {E : cx} {h : Nat} {p1 : Int32} {f : hm} {K : Int32 → hm → Prop}  (h0 : X_X4_sign_0 E h p1 f  K) : S_X4_sign E h p1 f K := by
  refine MI_of (cc := cX4_sign) (maxL := 2) (ret := (some .int)) (by decide) rfl ?_
  intro p e s m below meth c C
  have hl := lv_entry ([.ref h, .int p1]) (n := 2) (Nat.le_of_ble_eq_true rfl)
  rw [lg_entry_eq]
  generalize (lg_sl ([.ref h, .int p1]) ++ List.replicate (2 - (lg_sl ([.ref h, .int p1])).length) Slot.unset).toArray = ls at hl ⊢
  have hl : lv_has ls 2 [(0, .ref h), (1, .int p1)] := hl
  have hS := C.2.2.2.2.2.2.2.2.2
  exact R_X4_sign_0 C h p1 f h0 hl hS
/-! ContinuedRatios.best(III)J -/
def S_X4_best (E : cx) (h : Nat) (p1 : Int32) (p2 : Int32) (p3 : Int32) (f : hm) (K : Int64 → hm → Prop) : Prop := ML E.1 E.2.1 vwCl (eT E) yX4_best wsX4_best ({ frames := 6, cells := 0, slots := 0, locals := 169 }) [.ref h, .int p1, .int p2, .int p3] f K
theorem mm_X4_best_0 : Cond.constantLong RX4 154 (-9223372036854775808) ∈ wsX4_best := by decide +kernel
theorem mm_X4_best_1 : Cond.fieldLink RX4 73 "ContinuedRatios" "registers" "[LContinuedRatios$Fraction;" ∈ wsX4_best := by decide +kernel
theorem mm_X4_best_2 : Cond.fieldLink RX4 33 "ContinuedRatios" "nearest" "LContinuedRatios$NearestSearch;" ∈ wsX4_best := by decide +kernel
theorem mm_X4_best_3 : Cond.fieldLink RX4 62 "ContinuedRatios" "remainder" "LContinuedRatios$Natural;" ∈ wsX4_best := by decide +kernel
theorem mm_X4_best_4 : Cond.fieldLink RX4 77 "ContinuedRatios$Fraction" "lower" "LContinuedRatios$Natural;" ∈ wsX4_best := by decide +kernel
theorem mm_X4_best_5 : Cond.fieldLink RX4 163 "ContinuedRatios$NearestSearch" "lower" "J" ∈ wsX4_best := by decide +kernel
theorem mm_X4_best_6 : Cond.fieldLink RX4 160 "ContinuedRatios$NearestSearch" "upper" "J" ∈ wsX4_best := by decide +kernel
theorem ii_X4_best_X4 : ∀ w ∈ u_ws RX4 TX4 14, w ∈ wsX4_best := by decide +kernel
theorem ii_X4_best_X0 : ∀ w ∈ u_ws RX0 TX0 3, w ∈ wsX4_best := by decide +kernel
theorem ii_X4_best_X2 : ∀ w ∈ u_ws RX2 TX2 11, w ∈ wsX4_best := by decide +kernel
def X_X4_best_0 (E : cx) (h : Nat) (p1 : Int32) (p2 : Int32) (p3 : Int32) (f : hm)  (K : Int64 → hm → Prop) : Prop :=
  (isO f h 4 ∧ S_X4_isRegister E h p1 f (fun (r3 : Int32) (f2 : hm) => ((r3 = 0 → K (-9223372036854775808 : Int64) f2) ∧ (¬ (r3 = 0) → ((p2 < (1 : Int32) → K (-9223372036854775808 : Int64) f2) ∧ (¬ (p2 < (1 : Int32)) → ((p2 ≤ (1000 : Int32) → ((p3 = 0 → (∃ v8 : Nat, rdV f2 h 4 1 = some (.ref v8) ∧ (∃ v9 : Nat, rdQ (eF E) f2 v8 p1 = some (some v9) ∧ (isO f2 h 4 ∧ S_X4_divideDown E h v9 f2 (fun (r12 : Int64) (f11 : hm) => S_X4_isInt E r12 f11 (fun (r14 : Int32) (f13 : hm) => ((¬ r14 = 0 → (∃ v16 : Nat, rdV f13 h 4 5 = some (.ref v16) ∧ (∃ v17 : Nat, rdV f13 h 4 13 = some (.ref v17) ∧ (∃ v18 : Nat, rdV f13 h 4 1 = some (.ref v18) ∧ (∃ v19 : Nat, rdQ (eF E) f13 v18 p1 = some (some v19) ∧ (∃ v20 : Nat, rdV f13 v19 0 2 = some (.ref v20) ∧ (isO f13 v16 2 ∧ S_X2_seek E v16 r12 v17 v20 p2 f13 (fun (f22 : hm) => ((¬ p3 = 0 → (∃ v24 : Nat, rdV f22 h 4 5 = some (.ref v24) ∧ (∃ v25 : Int64, rdV f22 v24 2 1 = some (.long v25) ∧ K v25 f22))) ∧ (p3 = 0 → (∃ v26 : Nat, rdV f22 h 4 5 = some (.ref v26) ∧ (∃ v27 : Int64, rdV f22 v26 2 0 = some (.long v27) ∧ K v27 f22)))))))))))) ∧ (r14 = 0 → K (-9223372036854775808 : Int64) f13)))))))) ∧ (¬ (p3 = 0) → ((p3 = (1 : Int32) → (∃ v29 : Nat, rdV f2 h 4 1 = some (.ref v29) ∧ (∃ v30 : Nat, rdQ (eF E) f2 v29 p1 = some (some v30) ∧ (isO f2 h 4 ∧ S_X4_divideDown E h v30 f2 (fun (r33 : Int64) (f32 : hm) => S_X4_isInt E r33 f32 (fun (r35 : Int32) (f34 : hm) => ((¬ r35 = 0 → (∃ v37 : Nat, rdV f34 h 4 5 = some (.ref v37) ∧ (∃ v38 : Nat, rdV f34 h 4 13 = some (.ref v38) ∧ (∃ v39 : Nat, rdV f34 h 4 1 = some (.ref v39) ∧ (∃ v40 : Nat, rdQ (eF E) f34 v39 p1 = some (some v40) ∧ (∃ v41 : Nat, rdV f34 v40 0 2 = some (.ref v41) ∧ (isO f34 v37 2 ∧ S_X2_seek E v37 r33 v38 v41 p2 f34 (fun (f43 : hm) => ((¬ p3 = 0 → (∃ v45 : Nat, rdV f43 h 4 5 = some (.ref v45) ∧ (∃ v46 : Int64, rdV f43 v45 2 1 = some (.long v46) ∧ K v46 f43))) ∧ (p3 = 0 → (∃ v47 : Nat, rdV f43 h 4 5 = some (.ref v47) ∧ (∃ v48 : Int64, rdV f43 v47 2 0 = some (.long v48) ∧ K v48 f43)))))))))))) ∧ (r35 = 0 → K (-9223372036854775808 : Int64) f34)))))))) ∧ (¬ (p3 = (1 : Int32)) → K (-9223372036854775808 : Int64) f2))))) ∧ (¬ (p2 ≤ (1000 : Int32)) → K (-9223372036854775808 : Int64) f2))))))))
set_option maxRecDepth 100000 in
set_option maxHeartbeats 4000000 in
theorem R_X4_best_0 {E : cx} {p : Program} {e : Env} {s : State} {m : MethodId} {below : List Frame} {meth : Method} {c : Code} {f0 : hm} {zh : Nat} {zp1 : Int32} {zp2 : Int32} {zp3 : Int32} (C : wB E.2.1 vwCl (eT E) yX4_best cX4_best 6 (some .long) wsX4_best [.ref zh, .int zp1, .int zp2, .int zp3] f0 p s m meth c) (h : Nat) (p1 : Int32) (p2 : Int32) (p3 : Int32) (f : hm)  {K : Int64 → hm → Prop} (hv : X_X4_best_0 E h p1 p2 p3 f  K) {ls : Array Slot} {H : Heap} {locs : List Loc} (hl : lv_has ls 6 [(0, .ref h), (1, .int p1), (2, .int p2), (3, .int p3)]) (hS : wS E.2.1 vwCl (wA f0 s.heap.size) s.heap f H locs)  : W p E.1 e ({ frames := 6, cells := 0, slots := 0, locals := 169 }) s m ([.ref zh, .int zp1, .int zp2, .int zp3] : List Value).toArray below meth c H locs 0 0 (MQ below (wQl f0 E.2.1 vwCl K s) ([.ref zh, .int zp1, .int zp2, .int zp3] : List Value).toArray s 0 0 (wA f0 s.heap.size)) (F0 m 0 ls []) := by
  obtain ⟨hx, hb, hml, hown, hts, hr, hlk, hnm, hK, -⟩ := C
  unfold X_X4_best_0 at hv
  refine lv_aload_n hx hb dX4_best_0 rfl (lv_at hl 0 rfl) ?_
  refine lv_iload_n hx hb dX4_best_1 rfl (lv_at hl 1 rfl) ?_
  obtain ⟨ho1, hv⟩ := hv
  refine fw_callVi hx hb hml hown hts hK hS [.int p1] [] hv gX4_best_X4_isRegister rfl rfl rfl 1 (by decide +kernel) ⟨Nat.le_of_ble_eq_true rfl, Nat.le_of_ble_eq_true rfl⟩ rfl rfl ho1 rfl hl.1 rfl (Nat.le_of_ble_eq_true rfl) dX4_best_2 ⟨Nat.zero_le _, Nat.zero_le _⟩ (fun r3 f2 H locs hv hS => ?_)
  refine lv_if_eq (tgt := 20) hx hb dX4_best_5 (by decide) (fun c4 => ?_) (fun c4 => ?_)
  · have hv := hv.1 c4
    refine lv_ldc2 (v := (-9223372036854775808)) hx hb hown (hts _ mm_X4_best_0) dX4_best_20 ?_
    exact fw_lret hx hb hr hlk hS hv dX4_best_23
  · have hv := hv.2 c4
    refine lv_iload_n hx hb dX4_best_8 rfl (lv_at hl 2 rfl) ?_
    refine lv_iconst (v := 1) hx hb dX4_best_9 (by decide) ?_
    refine lv_icmp_lt (tgt := 20) hx hb dX4_best_10 (by decide) (fun c5 => ?_) (fun c5 => ?_)
    · have hv := hv.1 c5
      refine lv_ldc2 (v := (-9223372036854775808)) hx hb hown (hts _ mm_X4_best_0) dX4_best_20 ?_
      exact fw_lret hx hb hr hlk hS hv dX4_best_23
    · have hv := hv.2 c5
      refine lv_iload_n hx hb dX4_best_13 rfl (lv_at hl 2 rfl) ?_
      refine lv_sipush (v := 1000) hx hb dX4_best_14 (by decide) ?_
      refine lv_icmp_le (tgt := 24) hx hb dX4_best_17 (by decide) (fun c6 => ?_) (fun c6 => ?_)
      · have hv := hv.1 c6
        refine lv_iload_n hx hb dX4_best_24 rfl (lv_at hl 3 rfl) ?_
        refine lv_if_eq (tgt := 37) hx hb dX4_best_25 (by decide) (fun c7 => ?_) (fun c7 => ?_)
        · have hv := hv.1 c7
          refine lv_aload_n hx hb dX4_best_37 rfl (lv_at hl 0 rfl) ?_
          refine lv_aload_n hx hb dX4_best_38 rfl (lv_at hl 0 rfl) ?_
          obtain ⟨v8, ev8, hv⟩ := hv
          refine fw_get hx hb hts ii_X4_best_X4 hown hK hS 1 ev8 rfl (by decide) mm_X4_best_1 rfl dX4_best_39 ?_
          refine lv_iload_n hx hb dX4_best_42 rfl (lv_at hl 1 rfl) ?_
          obtain ⟨v9, ev9, hv⟩ := hv
          refine fw_aald hx hb hK hS 1 rfl ev9 dX4_best_43 ?_
          obtain ⟨ho10, hv⟩ := hv
          refine fw_callVl hx hb hml hown hts hK hS [.ref v9] [] hv gX4_best_X4_divideDown rfl rfl rfl 1 (by decide +kernel) ⟨Nat.le_of_ble_eq_true rfl, Nat.le_of_ble_eq_true rfl⟩ rfl rfl ho10 rfl hl.1 rfl (Nat.le_of_ble_eq_true rfl) dX4_best_44 ⟨Nat.zero_le _, Nat.zero_le _⟩ (fun r12 f11 H locs hv hS => ?_)
          refine lv_lstore (lv' := [(4, .long r12), (0, .ref h), (1, .int p1), (2, .int p2), (3, .int p3)]) hx hb dX4_best_47 hl (by decide) rfl (fun ls hl => ?_)
          refine lv_lload hx hb dX4_best_49 (lv_at hl 0 rfl) ?_
          refine fw_callSi hx hb hml hown hts hK hS [.long r12] [] hv gX4_best_X4_isInt rfl rfl rfl 1 (by decide +kernel) ⟨Nat.le_of_ble_eq_true rfl, Nat.le_of_ble_eq_true rfl⟩ rfl hl.1 rfl (Nat.le_of_ble_eq_true rfl) dX4_best_51 ⟨Nat.zero_le _, Nat.zero_le _⟩ (fun r14 f13 H locs hv hS => ?_)
          refine lv_if_ne (tgt := 61) hx hb dX4_best_54 (by decide) (fun c15 => ?_) (fun c15 => ?_)
          · have hv := hv.1 c15
            refine lv_aload_n hx hb dX4_best_61 rfl (lv_at hl 1 rfl) ?_
            obtain ⟨v16, ev16, hv⟩ := hv
            refine fw_get hx hb hts ii_X4_best_X4 hown hK hS 5 ev16 rfl (by decide) mm_X4_best_2 rfl dX4_best_62 ?_
            refine lv_lload hx hb dX4_best_65 (lv_at hl 0 rfl) ?_
            refine lv_aload_n hx hb dX4_best_67 rfl (lv_at hl 1 rfl) ?_
            obtain ⟨v17, ev17, hv⟩ := hv
            refine fw_get hx hb hts ii_X4_best_X4 hown hK hS 13 ev17 rfl (by decide) mm_X4_best_3 rfl dX4_best_68 ?_
            refine lv_aload_n hx hb dX4_best_71 rfl (lv_at hl 1 rfl) ?_
            obtain ⟨v18, ev18, hv⟩ := hv
            refine fw_get hx hb hts ii_X4_best_X4 hown hK hS 1 ev18 rfl (by decide) mm_X4_best_1 rfl dX4_best_72 ?_
            refine lv_iload_n hx hb dX4_best_75 rfl (lv_at hl 2 rfl) ?_
            obtain ⟨v19, ev19, hv⟩ := hv
            refine fw_aald hx hb hK hS 1 rfl ev19 dX4_best_76 ?_
            obtain ⟨v20, ev20, hv⟩ := hv
            refine fw_get hx hb hts ii_X4_best_X0 hown hK hS 2 ev20 rfl (by decide) mm_X4_best_4 rfl dX4_best_77 ?_
            refine lv_iload_n hx hb dX4_best_80 rfl (lv_at hl 3 rfl) ?_
            obtain ⟨ho21, hv⟩ := hv
            refine fw_callVv hx hb hml hown hts hK hS [.long r12, .ref v17, .ref v20, .int p2] [] hv gX4_best_X2_seek rfl rfl rfl 4 (by decide +kernel) ⟨Nat.le_of_ble_eq_true rfl, Nat.le_of_ble_eq_true rfl⟩ rfl rfl ho21 rfl hl.1 rfl (Nat.le_of_ble_eq_true rfl) dX4_best_81 ⟨Nat.zero_le _, Nat.zero_le _⟩ (fun f22 H locs hv hS => ?_)
            refine lv_iload_n hx hb dX4_best_84 rfl (lv_at hl 4 rfl) ?_
            refine lv_if_ne (tgt := 98) hx hb dX4_best_85 (by decide) (fun c23 => ?_) (fun c23 => ?_)
            · have hv := hv.1 c23
              refine lv_aload_n hx hb dX4_best_98 rfl (lv_at hl 1 rfl) ?_
              obtain ⟨v24, ev24, hv⟩ := hv
              refine fw_get hx hb hts ii_X4_best_X4 hown hK hS 5 ev24 rfl (by decide) mm_X4_best_2 rfl dX4_best_99 ?_
              obtain ⟨v25, ev25, hv⟩ := hv
              refine fw_get hx hb hts ii_X4_best_X2 hown hK hS 1 ev25 rfl (by decide) mm_X4_best_5 rfl dX4_best_102 ?_
              exact fw_lret hx hb hr hlk hS hv dX4_best_105
            · have hv := hv.2 c23
              refine lv_aload_n hx hb dX4_best_88 rfl (lv_at hl 1 rfl) ?_
              obtain ⟨v26, ev26, hv⟩ := hv
              refine fw_get hx hb hts ii_X4_best_X4 hown hK hS 5 ev26 rfl (by decide) mm_X4_best_2 rfl dX4_best_89 ?_
              obtain ⟨v27, ev27, hv⟩ := hv
              refine fw_get hx hb hts ii_X4_best_X2 hown hK hS 0 ev27 rfl (by decide) mm_X4_best_6 rfl dX4_best_92 ?_
              refine lv_goto (tgt := 105) hx hb dX4_best_95 (by decide) ?_
              exact fw_lret hx hb hr hlk hS hv dX4_best_105
          · have hv := hv.2 c15
            refine lv_ldc2 (v := (-9223372036854775808)) hx hb hown (hts _ mm_X4_best_0) dX4_best_57 ?_
            exact fw_lret hx hb hr hlk hS hv dX4_best_60
        · have hv := hv.2 c7
          refine lv_iload_n hx hb dX4_best_28 rfl (lv_at hl 3 rfl) ?_
          refine lv_iconst (v := 1) hx hb dX4_best_29 (by decide) ?_
          refine lv_icmp_eq (tgt := 37) hx hb dX4_best_30 (by decide) (fun c28 => ?_) (fun c28 => ?_)
          · have hv := hv.1 c28
            refine lv_aload_n hx hb dX4_best_37 rfl (lv_at hl 0 rfl) ?_
            refine lv_aload_n hx hb dX4_best_38 rfl (lv_at hl 0 rfl) ?_
            obtain ⟨v29, ev29, hv⟩ := hv
            refine fw_get hx hb hts ii_X4_best_X4 hown hK hS 1 ev29 rfl (by decide) mm_X4_best_1 rfl dX4_best_39 ?_
            refine lv_iload_n hx hb dX4_best_42 rfl (lv_at hl 1 rfl) ?_
            obtain ⟨v30, ev30, hv⟩ := hv
            refine fw_aald hx hb hK hS 1 rfl ev30 dX4_best_43 ?_
            obtain ⟨ho31, hv⟩ := hv
            refine fw_callVl hx hb hml hown hts hK hS [.ref v30] [] hv gX4_best_X4_divideDown rfl rfl rfl 1 (by decide +kernel) ⟨Nat.le_of_ble_eq_true rfl, Nat.le_of_ble_eq_true rfl⟩ rfl rfl ho31 rfl hl.1 rfl (Nat.le_of_ble_eq_true rfl) dX4_best_44 ⟨Nat.zero_le _, Nat.zero_le _⟩ (fun r33 f32 H locs hv hS => ?_)
            refine lv_lstore (lv' := [(4, .long r33), (0, .ref h), (1, .int p1), (2, .int p2), (3, .int p3)]) hx hb dX4_best_47 hl (by decide) rfl (fun ls hl => ?_)
            refine lv_lload hx hb dX4_best_49 (lv_at hl 0 rfl) ?_
            refine fw_callSi hx hb hml hown hts hK hS [.long r33] [] hv gX4_best_X4_isInt rfl rfl rfl 1 (by decide +kernel) ⟨Nat.le_of_ble_eq_true rfl, Nat.le_of_ble_eq_true rfl⟩ rfl hl.1 rfl (Nat.le_of_ble_eq_true rfl) dX4_best_51 ⟨Nat.zero_le _, Nat.zero_le _⟩ (fun r35 f34 H locs hv hS => ?_)
            refine lv_if_ne (tgt := 61) hx hb dX4_best_54 (by decide) (fun c36 => ?_) (fun c36 => ?_)
            · have hv := hv.1 c36
              refine lv_aload_n hx hb dX4_best_61 rfl (lv_at hl 1 rfl) ?_
              obtain ⟨v37, ev37, hv⟩ := hv
              refine fw_get hx hb hts ii_X4_best_X4 hown hK hS 5 ev37 rfl (by decide) mm_X4_best_2 rfl dX4_best_62 ?_
              refine lv_lload hx hb dX4_best_65 (lv_at hl 0 rfl) ?_
              refine lv_aload_n hx hb dX4_best_67 rfl (lv_at hl 1 rfl) ?_
              obtain ⟨v38, ev38, hv⟩ := hv
              refine fw_get hx hb hts ii_X4_best_X4 hown hK hS 13 ev38 rfl (by decide) mm_X4_best_3 rfl dX4_best_68 ?_
              refine lv_aload_n hx hb dX4_best_71 rfl (lv_at hl 1 rfl) ?_
              obtain ⟨v39, ev39, hv⟩ := hv
              refine fw_get hx hb hts ii_X4_best_X4 hown hK hS 1 ev39 rfl (by decide) mm_X4_best_1 rfl dX4_best_72 ?_
              refine lv_iload_n hx hb dX4_best_75 rfl (lv_at hl 2 rfl) ?_
              obtain ⟨v40, ev40, hv⟩ := hv
              refine fw_aald hx hb hK hS 1 rfl ev40 dX4_best_76 ?_
              obtain ⟨v41, ev41, hv⟩ := hv
              refine fw_get hx hb hts ii_X4_best_X0 hown hK hS 2 ev41 rfl (by decide) mm_X4_best_4 rfl dX4_best_77 ?_
              refine lv_iload_n hx hb dX4_best_80 rfl (lv_at hl 3 rfl) ?_
              obtain ⟨ho42, hv⟩ := hv
              refine fw_callVv hx hb hml hown hts hK hS [.long r33, .ref v38, .ref v41, .int p2] [] hv gX4_best_X2_seek rfl rfl rfl 4 (by decide +kernel) ⟨Nat.le_of_ble_eq_true rfl, Nat.le_of_ble_eq_true rfl⟩ rfl rfl ho42 rfl hl.1 rfl (Nat.le_of_ble_eq_true rfl) dX4_best_81 ⟨Nat.zero_le _, Nat.zero_le _⟩ (fun f43 H locs hv hS => ?_)
              refine lv_iload_n hx hb dX4_best_84 rfl (lv_at hl 4 rfl) ?_
              refine lv_if_ne (tgt := 98) hx hb dX4_best_85 (by decide) (fun c44 => ?_) (fun c44 => ?_)
              · have hv := hv.1 c44
                refine lv_aload_n hx hb dX4_best_98 rfl (lv_at hl 1 rfl) ?_
                obtain ⟨v45, ev45, hv⟩ := hv
                refine fw_get hx hb hts ii_X4_best_X4 hown hK hS 5 ev45 rfl (by decide) mm_X4_best_2 rfl dX4_best_99 ?_
                obtain ⟨v46, ev46, hv⟩ := hv
                refine fw_get hx hb hts ii_X4_best_X2 hown hK hS 1 ev46 rfl (by decide) mm_X4_best_5 rfl dX4_best_102 ?_
                exact fw_lret hx hb hr hlk hS hv dX4_best_105
              · have hv := hv.2 c44
                refine lv_aload_n hx hb dX4_best_88 rfl (lv_at hl 1 rfl) ?_
                obtain ⟨v47, ev47, hv⟩ := hv
                refine fw_get hx hb hts ii_X4_best_X4 hown hK hS 5 ev47 rfl (by decide) mm_X4_best_2 rfl dX4_best_89 ?_
                obtain ⟨v48, ev48, hv⟩ := hv
                refine fw_get hx hb hts ii_X4_best_X2 hown hK hS 0 ev48 rfl (by decide) mm_X4_best_6 rfl dX4_best_92 ?_
                refine lv_goto (tgt := 105) hx hb dX4_best_95 (by decide) ?_
                exact fw_lret hx hb hr hlk hS hv dX4_best_105
            · have hv := hv.2 c36
              refine lv_ldc2 (v := (-9223372036854775808)) hx hb hown (hts _ mm_X4_best_0) dX4_best_57 ?_
              exact fw_lret hx hb hr hlk hS hv dX4_best_60
          · have hv := hv.2 c28
            refine lv_ldc2 (v := (-9223372036854775808)) hx hb hown (hts _ mm_X4_best_0) dX4_best_33 ?_
            exact fw_lret hx hb hr hlk hS hv dX4_best_36
      · have hv := hv.2 c6
        refine lv_ldc2 (v := (-9223372036854775808)) hx hb hown (hts _ mm_X4_best_0) dX4_best_20 ?_
        exact fw_lret hx hb hr hlk hS hv dX4_best_23
set_option maxRecDepth 100000 in
set_option maxHeartbeats 4000000 in
theorem T_X4_best {E : cx} {h : Nat} {p1 : Int32} {p2 : Int32} {p3 : Int32} {f : hm} {K : Int64 → hm → Prop}  (h0 : X_X4_best_0 E h p1 p2 p3 f  K) : S_X4_best E h p1 p2 p3 f K := by
  refine ML_of (cc := cX4_best) (maxL := 6) (ret := (some .long)) (by decide) rfl ?_
  intro p e s m below meth c C
  have hl := lv_entry ([.ref h, .int p1, .int p2, .int p3]) (n := 6) (Nat.le_of_ble_eq_true rfl)
  rw [lg_entry_eq]
  generalize (lg_sl ([.ref h, .int p1, .int p2, .int p3]) ++ List.replicate (6 - (lg_sl ([.ref h, .int p1, .int p2, .int p3])).length) Slot.unset).toArray = ls at hl ⊢
  have hl : lv_has ls 6 [(0, .ref h), (1, .int p1), (2, .int p2), (3, .int p3)] := hl
  have hS := C.2.2.2.2.2.2.2.2.2
  exact R_X4_best_0 C h p1 p2 p3 f h0 hl hS
