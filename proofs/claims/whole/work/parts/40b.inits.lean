/-! By program (wip/whole/geninit.py), out of the printed names: do not edit. -/
/-! ContinuedRatios$Natural.<init>()V -/
def S_X1_init (E : cx) (h : Nat) (f : hm) (K : hm → Prop) : Prop := MZ E.1 E.2.1 vwCl (eT E) yX1_init wsX1_init ({ frames := 1, cells := 1, slots := 20, locals := 12 }) [.ref h] f K
theorem mm_X1_init_0 : Cond.methodLink RX1 3 objectInit ∈ wsX1_init := by decide +kernel
theorem mm_X1_init_1 : Cond.instanceMethod objectInit ∈ wsX1_init := by decide +kernel
theorem mm_X1_init_2 : Cond.code objectInit ⟨#[0xb1]⟩ 1 none ∈ wsX1_init := by decide +kernel
theorem mm_X1_init_3 : Cond.arrayClass .int ∈ wsX1_init := by decide +kernel
theorem mm_X1_init_4 : Cond.fieldLink RX1 9 "ContinuedRatios$Natural" "limbs" "[I" ∈ wsX1_init := by decide +kernel
theorem mm_X1_init_5 : Cond.fieldLink RX1 13 "ContinuedRatios$Natural" "length" "I" ∈ wsX1_init := by decide +kernel
theorem ii_X1_init_X1 : ∀ w ∈ u_ws RX1 TX1 2, w ∈ wsX1_init := by decide +kernel
def X_X1_init_0 (E : cx) (h : Nat) (f : hm)  (K : hm → Prop) : Prop :=
  (∀ q1 : Nat, f q1 = none → (∃ f2 : hm, wrV (hp f q1 (.inl (eI E, 20, .inl (fun _ => 0)))) h 1 0 (.ref q1) = some f2 ∧ (∃ f3 : hm, wrV f2 h 1 1 (.int (0 : Int32)) = some f3 ∧ K f3)))
set_option maxRecDepth 100000 in
set_option maxHeartbeats 4000000 in
theorem R_X1_init_0 {E : cx} {p : Program} {e : Env} {s : State} {m : MethodId} {below : List Frame} {meth : Method} {c : Code} {f0 : hm} {zh : Nat} (C : wB E.2.1 vwCl (eT E) yX1_init cX1_init 1 none wsX1_init [.ref zh] f0 p s m meth c) (h : Nat) (f : hm)  {K : hm → Prop} (hv : X_X1_init_0 E h f  K) {ls : Array Slot} {H : Heap} {locs : List Loc} (hl : lv_has ls 1 [(0, .ref h)]) (hS : wS E.2.1 vwCl (wA f0 s.heap.size) s.heap f H locs) (hZ : zN s)   : W p E.1 e ({ frames := 1, cells := 1, slots := 20, locals := 12 }) s m ([.ref zh] : List Value).toArray below meth c H locs 0 0 (MQ below (wQv f0 E.2.1 vwCl K s) ([.ref zh] : List Value).toArray s 1 20 (wA f0 s.heap.size)) (F0 m 0 ls []) := by
  obtain ⟨hx, hb, hml, hown, hts, hr, hlk, hnm, hK, -⟩ := C
  unfold X_X1_init_0 at hv
  refine lv_aload_n hx hb dX1_init_0 rfl (lv_at hl 0 rfl) ?_
  refine W.objInit hx hb hown (hts _ mm_X1_init_0) (hts _ mm_X1_init_1) (hts _ mm_X1_init_2) rfl (by rw [hml]; exact hl.1) rfl dX1_init_1 (Nat.le_of_ble_eq_true rfl) (Nat.le_of_ble_eq_true rfl) ?_
  refine W.eq (g2 := F0 m 4 ls []) rfl ?_
  refine lv_aload_n hx hb dX1_init_4 rfl (lv_at hl 0 rfl) ?_
  refine lv_bipush (v := 20) hx hb dX1_init_5 (by decide) ?_
  refine fw_newa hx hb hts mm_X1_init_3 hK hS 0 rfl 20 (by decide) (by decide) (Nat.le_of_ble_eq_true rfl) (Nat.le_of_ble_eq_true rfl) (Nat.le_of_ble_eq_true rfl) dX1_init_7 (fun q1 H hq1 hS => ?_)
  have hv := hv q1 hq1
  obtain ⟨f2, ef2, hv⟩ := hv
  refine fw_putF hx hb hts ii_X1_init_X1 tyX1 tyX1_ok nmX1 hown hK hS 0 ef2 rfl (by decide) mm_X1_init_4 rfl rfl hnm rfl rfl rfl dX1_init_9 (fun H locs hS => ?_)
  refine lv_aload_n hx hb dX1_init_12 rfl (lv_at hl 0 rfl) ?_
  refine lv_iconst (v := 0) hx hb dX1_init_13 (by decide) ?_
  obtain ⟨f3, ef3, hv⟩ := hv
  refine fw_put hx hb hts ii_X1_init_X1 tyX1 tyX1_ok nmX1 hown hK hS 1 ef3 rfl (by decide) mm_X1_init_5 rfl rfl rfl rfl dX1_init_14 (fun H locs hS => ?_)
  refine W.widen (k := 1) (n := 20) (Nat.le_of_ble_eq_true rfl) (Nat.le_of_ble_eq_true rfl) ?_
  exact fw_vret hx hb hr hlk hS hv dX1_init_17
set_option maxRecDepth 100000 in
set_option maxHeartbeats 4000000 in
theorem T_X1_init {E : cx} {h : Nat} {f : hm} {K : hm → Prop}  (h0 : X_X1_init_0 E h f  K) : S_X1_init E h f K := by
  refine MZ_of (cc := cX1_init) (maxL := 1) (ret := none) (by decide) rfl ?_
  intro p e s m below meth c C hZ
  have hl := lv_entry ([.ref h]) (n := 1) (Nat.le_of_ble_eq_true rfl)
  rw [lg_entry_eq]
  generalize (lg_sl ([.ref h]) ++ List.replicate (1 - (lg_sl ([.ref h])).length) Slot.unset).toArray = ls at hl ⊢
  have hl : lv_has ls 1 [(0, .ref h)] := hl
  have hS := C.2.2.2.2.2.2.2.2.2
  exact R_X1_init_0 C h f h0 hl hS hZ
/-! ContinuedRatios$Fraction.<init>()V -/
def S_X0_init (E : cx) (h : Nat) (f : hm) (K : hm → Prop) : Prop := MZ E.1 E.2.1 vwCl (eT E) yX0_init wsX0_init ({ frames := 2, cells := 4, slots := 44, locals := 32 }) [.ref h] f K
theorem mm_X0_init_0 : Cond.methodLink RX0 1 objectInit ∈ wsX0_init := by decide +kernel
theorem mm_X0_init_1 : Cond.instanceMethod objectInit ∈ wsX0_init := by decide +kernel
theorem mm_X0_init_2 : Cond.code objectInit ⟨#[0xb1]⟩ 1 none ∈ wsX0_init := by decide +kernel
theorem mm_X0_init_3 : Cond.fieldLink RX0 7 "ContinuedRatios$Fraction" "signum" "I" ∈ wsX0_init := by decide +kernel
theorem mm_X0_init_4 : Cond.classLink RX0 13 RX1 ∈ wsX0_init := by decide +kernel
theorem mm_X0_init_5 : Cond.instantiable RX1 2 ∈ wsX0_init := by decide +kernel
theorem mm_X0_init_6 : Cond.initialized RX1 ∈ wsX0_init := by decide +kernel
theorem mm_X0_init_7 : Cond.instanceMethod yX1_init ∈ wsX0_init := by decide +kernel
theorem mm_X0_init_8 : Cond.fieldLink RX0 16 "ContinuedRatios$Fraction" "upper" "LContinuedRatios$Natural;" ∈ wsX0_init := by decide +kernel
theorem mm_X0_init_9 : Cond.fieldLink RX0 20 "ContinuedRatios$Fraction" "lower" "LContinuedRatios$Natural;" ∈ wsX0_init := by decide +kernel
theorem ii_X0_init_X0 : ∀ w ∈ u_ws RX0 TX0 3, w ∈ wsX0_init := by decide +kernel
theorem ii_X0_init_X1 : ∀ w ∈ u_ws RX1 TX1 2, w ∈ wsX0_init := by decide +kernel
def X_X0_init_0 (E : cx) (h : Nat) (f : hm)  (K : hm → Prop) : Prop :=
  (∃ f1 : hm, wrV f h 0 0 (.int (0 : Int32)) = some f1 ∧ (∀ q2 : Nat, f1 q2 = none → S_X1_init E q2 (hp f1 q2 (.inr (1, [.null, .int 0]))) (fun (f3 : hm) => (∃ f4 : hm, wrV f3 h 0 1 (.ref q2) = some f4 ∧ (∀ q5 : Nat, f4 q5 = none → S_X1_init E q5 (hp f4 q5 (.inr (1, [.null, .int 0]))) (fun (f6 : hm) => (∃ f7 : hm, wrV f6 h 0 2 (.ref q5) = some f7 ∧ K f7)))))))
set_option maxRecDepth 100000 in
set_option maxHeartbeats 4000000 in
theorem R_X0_init_0 {E : cx} {p : Program} {e : Env} {s : State} {m : MethodId} {below : List Frame} {meth : Method} {c : Code} {f0 : hm} {zh : Nat} (C : wB E.2.1 vwCl (eT E) yX0_init cX0_init 1 none wsX0_init [.ref zh] f0 p s m meth c) (h : Nat) (f : hm)  {K : hm → Prop} (hv : X_X0_init_0 E h f  K) {ls : Array Slot} {H : Heap} {locs : List Loc} (hl : lv_has ls 1 [(0, .ref h)]) (hS : wS E.2.1 vwCl (wA f0 s.heap.size) s.heap f H locs) (hZ : zN s)   : W p E.1 e ({ frames := 2, cells := 4, slots := 44, locals := 32 }) s m ([.ref zh] : List Value).toArray below meth c H locs 0 0 (MQ below (wQv f0 E.2.1 vwCl K s) ([.ref zh] : List Value).toArray s 4 44 (wA f0 s.heap.size)) (F0 m 0 ls []) := by
  obtain ⟨hx, hb, hml, hown, hts, hr, hlk, hnm, hK, -⟩ := C
  unfold X_X0_init_0 at hv
  refine lv_aload_n hx hb dX0_init_0 rfl (lv_at hl 0 rfl) ?_
  refine W.objInit hx hb hown (hts _ mm_X0_init_0) (hts _ mm_X0_init_1) (hts _ mm_X0_init_2) rfl (by rw [hml]; exact hl.1) rfl dX0_init_1 (Nat.le_of_ble_eq_true rfl) (Nat.le_of_ble_eq_true rfl) ?_
  refine W.eq (g2 := F0 m 4 ls []) rfl ?_
  refine lv_aload_n hx hb dX0_init_4 rfl (lv_at hl 0 rfl) ?_
  refine lv_iconst (v := 0) hx hb dX0_init_5 (by decide) ?_
  obtain ⟨f1, ef1, hv⟩ := hv
  refine fw_put hx hb hts ii_X0_init_X0 tyX0 tyX0_ok nmX0 hown hK hS 0 ef1 rfl (by decide) mm_X0_init_3 rfl rfl rfl rfl dX0_init_6 (fun H locs hS => ?_)
  refine lv_aload_n hx hb dX0_init_9 rfl (lv_at hl 0 rfl) ?_
  refine fw_new hx hb hts ii_X0_init_X1 tyX1 tyX1_ok hown mm_X0_init_4 mm_X0_init_5 mm_X0_init_6 hK hS (ci := 1) rfl [.null, .int 0] (fun j hj => by match j, hj with | 0, _ => rfl | 1, _ => rfl) (Nat.le_of_ble_eq_true rfl) (Nat.le_of_ble_eq_true rfl) dX0_init_10 (fun q2 H hq2 hS => ?_)
  have hv := hv q2 hq2
  refine lv_dup hx hb dX0_init_13 rfl ?_
  refine fw_callIN hx hb hml hown hts hK hZ hS [] [.ref q2, .ref h] hv ggX0_init_X1_init rfl 0 hZ.2.1 mm_X0_init_6 mm_X0_init_7 rfl (by decide +kernel) ⟨Nat.le_of_ble_eq_true rfl, Nat.le_of_ble_eq_true rfl⟩ rfl hl.1 rfl (Nat.le_of_ble_eq_true rfl) dX0_init_14 ⟨(Nat.le_of_ble_eq_true rfl), (Nat.le_of_ble_eq_true rfl)⟩ (fun f3 H locs hv hS => ?_)
  obtain ⟨f4, ef4, hv⟩ := hv
  refine fw_putF hx hb hts ii_X0_init_X0 tyX0 tyX0_ok nmX0 hown hK hS 1 ef4 rfl (by decide) mm_X0_init_8 rfl rfl hnm rfl rfl rfl dX0_init_17 (fun H locs hS => ?_)
  refine lv_aload_n hx hb dX0_init_20 rfl (lv_at hl 0 rfl) ?_
  refine fw_new hx hb hts ii_X0_init_X1 tyX1 tyX1_ok hown mm_X0_init_4 mm_X0_init_5 mm_X0_init_6 hK hS (ci := 1) rfl [.null, .int 0] (fun j hj => by match j, hj with | 0, _ => rfl | 1, _ => rfl) (Nat.le_of_ble_eq_true rfl) (Nat.le_of_ble_eq_true rfl) dX0_init_21 (fun q5 H hq5 hS => ?_)
  have hv := hv q5 hq5
  refine lv_dup hx hb dX0_init_24 rfl ?_
  refine fw_callIN hx hb hml hown hts hK hZ hS [] [.ref q5, .ref h] hv ggX0_init_X1_init rfl 0 hZ.2.1 mm_X0_init_6 mm_X0_init_7 rfl (by decide +kernel) ⟨Nat.le_of_ble_eq_true rfl, Nat.le_of_ble_eq_true rfl⟩ rfl hl.1 rfl (Nat.le_of_ble_eq_true rfl) dX0_init_25 ⟨(Nat.le_of_ble_eq_true rfl), (Nat.le_of_ble_eq_true rfl)⟩ (fun f6 H locs hv hS => ?_)
  obtain ⟨f7, ef7, hv⟩ := hv
  refine fw_putF hx hb hts ii_X0_init_X0 tyX0 tyX0_ok nmX0 hown hK hS 2 ef7 rfl (by decide) mm_X0_init_9 rfl rfl hnm rfl rfl rfl dX0_init_28 (fun H locs hS => ?_)
  refine W.widen (k := 4) (n := 44) (Nat.le_of_ble_eq_true rfl) (Nat.le_of_ble_eq_true rfl) ?_
  exact fw_vret hx hb hr hlk hS hv dX0_init_31
set_option maxRecDepth 100000 in
set_option maxHeartbeats 4000000 in
theorem T_X0_init {E : cx} {h : Nat} {f : hm} {K : hm → Prop}  (h0 : X_X0_init_0 E h f  K) : S_X0_init E h f K := by
  refine MZ_of (cc := cX0_init) (maxL := 1) (ret := none) (by decide) rfl ?_
  intro p e s m below meth c C hZ
  have hl := lv_entry ([.ref h]) (n := 1) (Nat.le_of_ble_eq_true rfl)
  rw [lg_entry_eq]
  generalize (lg_sl ([.ref h]) ++ List.replicate (1 - (lg_sl ([.ref h])).length) Slot.unset).toArray = ls at hl ⊢
  have hl : lv_has ls 1 [(0, .ref h)] := hl
  have hS := C.2.2.2.2.2.2.2.2.2
  exact R_X0_init_0 C h f h0 hl hS hZ
/-! ContinuedRatios$Reducer.<init>()V -/
def S_X3_init (E : cx) (h : Nat) (f : hm) (K : hm → Prop) : Prop := MZ E.1 E.2.1 vwCl (eT E) yX3_init wsX3_init ({ frames := 2, cells := 6, slots := 66, locals := 32 }) [.ref h] f K
theorem mm_X3_init_0 : Cond.methodLink RX3 1 objectInit ∈ wsX3_init := by decide +kernel
theorem mm_X3_init_1 : Cond.instanceMethod objectInit ∈ wsX3_init := by decide +kernel
theorem mm_X3_init_2 : Cond.code objectInit ⟨#[0xb1]⟩ 1 none ∈ wsX3_init := by decide +kernel
theorem mm_X3_init_3 : Cond.classLink RX3 7 RX1 ∈ wsX3_init := by decide +kernel
theorem mm_X3_init_4 : Cond.instantiable RX1 2 ∈ wsX3_init := by decide +kernel
theorem mm_X3_init_5 : Cond.initialized RX1 ∈ wsX3_init := by decide +kernel
theorem mm_X3_init_6 : Cond.instanceMethod yX1_init ∈ wsX3_init := by decide +kernel
theorem mm_X3_init_7 : Cond.fieldLink RX3 10 "ContinuedRatios$Reducer" "divisor" "LContinuedRatios$Natural;" ∈ wsX3_init := by decide +kernel
theorem mm_X3_init_8 : Cond.fieldLink RX3 16 "ContinuedRatios$Reducer" "other" "LContinuedRatios$Natural;" ∈ wsX3_init := by decide +kernel
theorem mm_X3_init_9 : Cond.fieldLink RX3 19 "ContinuedRatios$Reducer" "quotient" "LContinuedRatios$Natural;" ∈ wsX3_init := by decide +kernel
theorem ii_X3_init_X1 : ∀ w ∈ u_ws RX1 TX1 2, w ∈ wsX3_init := by decide +kernel
theorem ii_X3_init_X3 : ∀ w ∈ u_ws RX3 TX3 3, w ∈ wsX3_init := by decide +kernel
def X_X3_init_0 (E : cx) (h : Nat) (f : hm)  (K : hm → Prop) : Prop :=
  (∀ q1 : Nat, f q1 = none → S_X1_init E q1 (hp f q1 (.inr (1, [.null, .int 0]))) (fun (f2 : hm) => (∃ f3 : hm, wrV f2 h 3 0 (.ref q1) = some f3 ∧ (∀ q4 : Nat, f3 q4 = none → S_X1_init E q4 (hp f3 q4 (.inr (1, [.null, .int 0]))) (fun (f5 : hm) => (∃ f6 : hm, wrV f5 h 3 1 (.ref q4) = some f6 ∧ (∀ q7 : Nat, f6 q7 = none → S_X1_init E q7 (hp f6 q7 (.inr (1, [.null, .int 0]))) (fun (f8 : hm) => (∃ f9 : hm, wrV f8 h 3 2 (.ref q7) = some f9 ∧ K f9)))))))))
set_option maxRecDepth 100000 in
set_option maxHeartbeats 4000000 in
theorem R_X3_init_0 {E : cx} {p : Program} {e : Env} {s : State} {m : MethodId} {below : List Frame} {meth : Method} {c : Code} {f0 : hm} {zh : Nat} (C : wB E.2.1 vwCl (eT E) yX3_init cX3_init 1 none wsX3_init [.ref zh] f0 p s m meth c) (h : Nat) (f : hm)  {K : hm → Prop} (hv : X_X3_init_0 E h f  K) {ls : Array Slot} {H : Heap} {locs : List Loc} (hl : lv_has ls 1 [(0, .ref h)]) (hS : wS E.2.1 vwCl (wA f0 s.heap.size) s.heap f H locs) (hZ : zN s)   : W p E.1 e ({ frames := 2, cells := 6, slots := 66, locals := 32 }) s m ([.ref zh] : List Value).toArray below meth c H locs 0 0 (MQ below (wQv f0 E.2.1 vwCl K s) ([.ref zh] : List Value).toArray s 6 66 (wA f0 s.heap.size)) (F0 m 0 ls []) := by
  obtain ⟨hx, hb, hml, hown, hts, hr, hlk, hnm, hK, -⟩ := C
  unfold X_X3_init_0 at hv
  refine lv_aload_n hx hb dX3_init_0 rfl (lv_at hl 0 rfl) ?_
  refine W.objInit hx hb hown (hts _ mm_X3_init_0) (hts _ mm_X3_init_1) (hts _ mm_X3_init_2) rfl (by rw [hml]; exact hl.1) rfl dX3_init_1 (Nat.le_of_ble_eq_true rfl) (Nat.le_of_ble_eq_true rfl) ?_
  refine W.eq (g2 := F0 m 4 ls []) rfl ?_
  refine lv_aload_n hx hb dX3_init_4 rfl (lv_at hl 0 rfl) ?_
  refine fw_new hx hb hts ii_X3_init_X1 tyX1 tyX1_ok hown mm_X3_init_3 mm_X3_init_4 mm_X3_init_5 hK hS (ci := 1) rfl [.null, .int 0] (fun j hj => by match j, hj with | 0, _ => rfl | 1, _ => rfl) (Nat.le_of_ble_eq_true rfl) (Nat.le_of_ble_eq_true rfl) dX3_init_5 (fun q1 H hq1 hS => ?_)
  have hv := hv q1 hq1
  refine lv_dup hx hb dX3_init_8 rfl ?_
  refine fw_callIN hx hb hml hown hts hK hZ hS [] [.ref q1, .ref h] hv ggX3_init_X1_init rfl 0 hZ.2.2.2.1 mm_X3_init_5 mm_X3_init_6 rfl (by decide +kernel) ⟨Nat.le_of_ble_eq_true rfl, Nat.le_of_ble_eq_true rfl⟩ rfl hl.1 rfl (Nat.le_of_ble_eq_true rfl) dX3_init_9 ⟨(Nat.le_of_ble_eq_true rfl), (Nat.le_of_ble_eq_true rfl)⟩ (fun f2 H locs hv hS => ?_)
  obtain ⟨f3, ef3, hv⟩ := hv
  refine fw_put hx hb hts ii_X3_init_X3 tyX3 tyX3_ok nmX3 hown hK hS 0 ef3 rfl (by decide) mm_X3_init_7 rfl rfl rfl rfl dX3_init_12 (fun H locs hS => ?_)
  refine lv_aload_n hx hb dX3_init_15 rfl (lv_at hl 0 rfl) ?_
  refine fw_new hx hb hts ii_X3_init_X1 tyX1 tyX1_ok hown mm_X3_init_3 mm_X3_init_4 mm_X3_init_5 hK hS (ci := 1) rfl [.null, .int 0] (fun j hj => by match j, hj with | 0, _ => rfl | 1, _ => rfl) (Nat.le_of_ble_eq_true rfl) (Nat.le_of_ble_eq_true rfl) dX3_init_16 (fun q4 H hq4 hS => ?_)
  have hv := hv q4 hq4
  refine lv_dup hx hb dX3_init_19 rfl ?_
  refine fw_callIN hx hb hml hown hts hK hZ hS [] [.ref q4, .ref h] hv ggX3_init_X1_init rfl 0 hZ.2.2.2.1 mm_X3_init_5 mm_X3_init_6 rfl (by decide +kernel) ⟨Nat.le_of_ble_eq_true rfl, Nat.le_of_ble_eq_true rfl⟩ rfl hl.1 rfl (Nat.le_of_ble_eq_true rfl) dX3_init_20 ⟨(Nat.le_of_ble_eq_true rfl), (Nat.le_of_ble_eq_true rfl)⟩ (fun f5 H locs hv hS => ?_)
  obtain ⟨f6, ef6, hv⟩ := hv
  refine fw_put hx hb hts ii_X3_init_X3 tyX3 tyX3_ok nmX3 hown hK hS 1 ef6 rfl (by decide) mm_X3_init_8 rfl rfl rfl rfl dX3_init_23 (fun H locs hS => ?_)
  refine lv_aload_n hx hb dX3_init_26 rfl (lv_at hl 0 rfl) ?_
  refine fw_new hx hb hts ii_X3_init_X1 tyX1 tyX1_ok hown mm_X3_init_3 mm_X3_init_4 mm_X3_init_5 hK hS (ci := 1) rfl [.null, .int 0] (fun j hj => by match j, hj with | 0, _ => rfl | 1, _ => rfl) (Nat.le_of_ble_eq_true rfl) (Nat.le_of_ble_eq_true rfl) dX3_init_27 (fun q7 H hq7 hS => ?_)
  have hv := hv q7 hq7
  refine lv_dup hx hb dX3_init_30 rfl ?_
  refine fw_callIN hx hb hml hown hts hK hZ hS [] [.ref q7, .ref h] hv ggX3_init_X1_init rfl 0 hZ.2.2.2.1 mm_X3_init_5 mm_X3_init_6 rfl (by decide +kernel) ⟨Nat.le_of_ble_eq_true rfl, Nat.le_of_ble_eq_true rfl⟩ rfl hl.1 rfl (Nat.le_of_ble_eq_true rfl) dX3_init_31 ⟨(Nat.le_of_ble_eq_true rfl), (Nat.le_of_ble_eq_true rfl)⟩ (fun f8 H locs hv hS => ?_)
  obtain ⟨f9, ef9, hv⟩ := hv
  refine fw_putF hx hb hts ii_X3_init_X3 tyX3 tyX3_ok nmX3 hown hK hS 2 ef9 rfl (by decide) mm_X3_init_9 rfl rfl hnm rfl rfl rfl dX3_init_34 (fun H locs hS => ?_)
  refine W.widen (k := 6) (n := 66) (Nat.le_of_ble_eq_true rfl) (Nat.le_of_ble_eq_true rfl) ?_
  exact fw_vret hx hb hr hlk hS hv dX3_init_37
set_option maxRecDepth 100000 in
set_option maxHeartbeats 4000000 in
theorem T_X3_init {E : cx} {h : Nat} {f : hm} {K : hm → Prop}  (h0 : X_X3_init_0 E h f  K) : S_X3_init E h f K := by
  refine MZ_of (cc := cX3_init) (maxL := 1) (ret := none) (by decide) rfl ?_
  intro p e s m below meth c C hZ
  have hl := lv_entry ([.ref h]) (n := 1) (Nat.le_of_ble_eq_true rfl)
  rw [lg_entry_eq]
  generalize (lg_sl ([.ref h]) ++ List.replicate (1 - (lg_sl ([.ref h])).length) Slot.unset).toArray = ls at hl ⊢
  have hl : lv_has ls 1 [(0, .ref h)] := hl
  have hS := C.2.2.2.2.2.2.2.2.2
  exact R_X3_init_0 C h f h0 hl hS hZ
/-! ContinuedRatios$NearestSearch.<init>()V -/
def S_X2_init (E : cx) (h : Nat) (f : hm) (K : hm → Prop) : Prop := MZ E.1 E.2.1 vwCl (eT E) yX2_init wsX2_init ({ frames := 2, cells := 14, slots := 154, locals := 32 }) [.ref h] f K
theorem mm_X2_init_0 : Cond.methodLink RX2 1 objectInit ∈ wsX2_init := by decide +kernel
theorem mm_X2_init_1 : Cond.instanceMethod objectInit ∈ wsX2_init := by decide +kernel
theorem mm_X2_init_2 : Cond.code objectInit ⟨#[0xb1]⟩ 1 none ∈ wsX2_init := by decide +kernel
theorem mm_X2_init_3 : Cond.fieldLink RX2 7 "ContinuedRatios$NearestSearch" "upper" "J" ∈ wsX2_init := by decide +kernel
theorem mm_X2_init_4 : Cond.fieldLink RX2 13 "ContinuedRatios$NearestSearch" "lower" "J" ∈ wsX2_init := by decide +kernel
theorem mm_X2_init_5 : Cond.fieldLink RX2 16 "ContinuedRatios$NearestSearch" "olderUpper" "J" ∈ wsX2_init := by decide +kernel
theorem mm_X2_init_6 : Cond.fieldLink RX2 19 "ContinuedRatios$NearestSearch" "olderLower" "J" ∈ wsX2_init := by decide +kernel
theorem mm_X2_init_7 : Cond.classLink RX2 22 RX1 ∈ wsX2_init := by decide +kernel
theorem mm_X2_init_8 : Cond.instantiable RX1 2 ∈ wsX2_init := by decide +kernel
theorem mm_X2_init_9 : Cond.initialized RX1 ∈ wsX2_init := by decide +kernel
theorem mm_X2_init_10 : Cond.instanceMethod yX1_init ∈ wsX2_init := by decide +kernel
theorem mm_X2_init_11 : Cond.fieldLink RX2 25 "ContinuedRatios$NearestSearch" "gap" "LContinuedRatios$Natural;" ∈ wsX2_init := by decide +kernel
theorem mm_X2_init_12 : Cond.fieldLink RX2 29 "ContinuedRatios$NearestSearch" "olderGap" "LContinuedRatios$Natural;" ∈ wsX2_init := by decide +kernel
theorem mm_X2_init_13 : Cond.fieldLink RX2 32 "ContinuedRatios$NearestSearch" "nextGap" "LContinuedRatios$Natural;" ∈ wsX2_init := by decide +kernel
theorem mm_X2_init_14 : Cond.fieldLink RX2 35 "ContinuedRatios$NearestSearch" "quotient" "LContinuedRatios$Natural;" ∈ wsX2_init := by decide +kernel
theorem mm_X2_init_15 : Cond.fieldLink RX2 38 "ContinuedRatios$NearestSearch" "factor" "LContinuedRatios$Natural;" ∈ wsX2_init := by decide +kernel
theorem mm_X2_init_16 : Cond.fieldLink RX2 41 "ContinuedRatios$NearestSearch" "leftProduct" "LContinuedRatios$Natural;" ∈ wsX2_init := by decide +kernel
theorem mm_X2_init_17 : Cond.fieldLink RX2 44 "ContinuedRatios$NearestSearch" "rightProduct" "LContinuedRatios$Natural;" ∈ wsX2_init := by decide +kernel
theorem ii_X2_init_X2 : ∀ w ∈ u_ws RX2 TX2 11, w ∈ wsX2_init := by decide +kernel
theorem ii_X2_init_X1 : ∀ w ∈ u_ws RX1 TX1 2, w ∈ wsX2_init := by decide +kernel
def X_X2_init_0 (E : cx) (h : Nat) (f : hm)  (K : hm → Prop) : Prop :=
  (∃ f1 : hm, wrV f h 2 0 (.long (0 : Int64)) = some f1 ∧ (∃ f2 : hm, wrV f1 h 2 1 (.long (1 : Int64)) = some f2 ∧ (∃ f3 : hm, wrV f2 h 2 2 (.long (1 : Int64)) = some f3 ∧ (∃ f4 : hm, wrV f3 h 2 3 (.long (0 : Int64)) = some f4 ∧ (∀ q5 : Nat, f4 q5 = none → S_X1_init E q5 (hp f4 q5 (.inr (1, [.null, .int 0]))) (fun (f6 : hm) => (∃ f7 : hm, wrV f6 h 2 4 (.ref q5) = some f7 ∧ (∀ q8 : Nat, f7 q8 = none → S_X1_init E q8 (hp f7 q8 (.inr (1, [.null, .int 0]))) (fun (f9 : hm) => (∃ f10 : hm, wrV f9 h 2 5 (.ref q8) = some f10 ∧ (∀ q11 : Nat, f10 q11 = none → S_X1_init E q11 (hp f10 q11 (.inr (1, [.null, .int 0]))) (fun (f12 : hm) => (∃ f13 : hm, wrV f12 h 2 6 (.ref q11) = some f13 ∧ (∀ q14 : Nat, f13 q14 = none → S_X1_init E q14 (hp f13 q14 (.inr (1, [.null, .int 0]))) (fun (f15 : hm) => (∃ f16 : hm, wrV f15 h 2 7 (.ref q14) = some f16 ∧ (∀ q17 : Nat, f16 q17 = none → S_X1_init E q17 (hp f16 q17 (.inr (1, [.null, .int 0]))) (fun (f18 : hm) => (∃ f19 : hm, wrV f18 h 2 8 (.ref q17) = some f19 ∧ (∀ q20 : Nat, f19 q20 = none → S_X1_init E q20 (hp f19 q20 (.inr (1, [.null, .int 0]))) (fun (f21 : hm) => (∃ f22 : hm, wrV f21 h 2 9 (.ref q20) = some f22 ∧ (∀ q23 : Nat, f22 q23 = none → S_X1_init E q23 (hp f22 q23 (.inr (1, [.null, .int 0]))) (fun (f24 : hm) => (∃ f25 : hm, wrV f24 h 2 10 (.ref q23) = some f25 ∧ K f25)))))))))))))))))))))))))
set_option maxRecDepth 100000 in
set_option maxHeartbeats 4000000 in
theorem R_X2_init_0 {E : cx} {p : Program} {e : Env} {s : State} {m : MethodId} {below : List Frame} {meth : Method} {c : Code} {f0 : hm} {zh : Nat} (C : wB E.2.1 vwCl (eT E) yX2_init cX2_init 1 none wsX2_init [.ref zh] f0 p s m meth c) (h : Nat) (f : hm)  {K : hm → Prop} (hv : X_X2_init_0 E h f  K) {ls : Array Slot} {H : Heap} {locs : List Loc} (hl : lv_has ls 1 [(0, .ref h)]) (hS : wS E.2.1 vwCl (wA f0 s.heap.size) s.heap f H locs) (hZ : zN s)   : W p E.1 e ({ frames := 2, cells := 14, slots := 154, locals := 32 }) s m ([.ref zh] : List Value).toArray below meth c H locs 0 0 (MQ below (wQv f0 E.2.1 vwCl K s) ([.ref zh] : List Value).toArray s 14 154 (wA f0 s.heap.size)) (F0 m 0 ls []) := by
  obtain ⟨hx, hb, hml, hown, hts, hr, hlk, hnm, hK, -⟩ := C
  unfold X_X2_init_0 at hv
  refine lv_aload_n hx hb dX2_init_0 rfl (lv_at hl 0 rfl) ?_
  refine W.objInit hx hb hown (hts _ mm_X2_init_0) (hts _ mm_X2_init_1) (hts _ mm_X2_init_2) rfl (by rw [hml]; exact hl.1) rfl dX2_init_1 (Nat.le_of_ble_eq_true rfl) (Nat.le_of_ble_eq_true rfl) ?_
  refine W.eq (g2 := F0 m 4 ls []) rfl ?_
  refine lv_aload_n hx hb dX2_init_4 rfl (lv_at hl 0 rfl) ?_
  refine lv_lconst (v := 0) hx hb dX2_init_5 (by decide) ?_
  obtain ⟨f1, ef1, hv⟩ := hv
  refine fw_put hx hb hts ii_X2_init_X2 tyX2 tyX2_ok nmX2 hown hK hS 0 ef1 rfl (by decide) mm_X2_init_3 rfl rfl rfl rfl dX2_init_6 (fun H locs hS => ?_)
  refine lv_aload_n hx hb dX2_init_9 rfl (lv_at hl 0 rfl) ?_
  refine lv_lconst (v := 1) hx hb dX2_init_10 (by decide) ?_
  obtain ⟨f2, ef2, hv⟩ := hv
  refine fw_put hx hb hts ii_X2_init_X2 tyX2 tyX2_ok nmX2 hown hK hS 1 ef2 rfl (by decide) mm_X2_init_4 rfl rfl rfl rfl dX2_init_11 (fun H locs hS => ?_)
  refine lv_aload_n hx hb dX2_init_14 rfl (lv_at hl 0 rfl) ?_
  refine lv_lconst (v := 1) hx hb dX2_init_15 (by decide) ?_
  obtain ⟨f3, ef3, hv⟩ := hv
  refine fw_put hx hb hts ii_X2_init_X2 tyX2 tyX2_ok nmX2 hown hK hS 2 ef3 rfl (by decide) mm_X2_init_5 rfl rfl rfl rfl dX2_init_16 (fun H locs hS => ?_)
  refine lv_aload_n hx hb dX2_init_19 rfl (lv_at hl 0 rfl) ?_
  refine lv_lconst (v := 0) hx hb dX2_init_20 (by decide) ?_
  obtain ⟨f4, ef4, hv⟩ := hv
  refine fw_put hx hb hts ii_X2_init_X2 tyX2 tyX2_ok nmX2 hown hK hS 3 ef4 rfl (by decide) mm_X2_init_6 rfl rfl rfl rfl dX2_init_21 (fun H locs hS => ?_)
  refine lv_aload_n hx hb dX2_init_24 rfl (lv_at hl 0 rfl) ?_
  refine fw_new hx hb hts ii_X2_init_X1 tyX1 tyX1_ok hown mm_X2_init_7 mm_X2_init_8 mm_X2_init_9 hK hS (ci := 1) rfl [.null, .int 0] (fun j hj => by match j, hj with | 0, _ => rfl | 1, _ => rfl) (Nat.le_of_ble_eq_true rfl) (Nat.le_of_ble_eq_true rfl) dX2_init_25 (fun q5 H hq5 hS => ?_)
  have hv := hv q5 hq5
  refine lv_dup hx hb dX2_init_28 rfl ?_
  refine fw_callIN hx hb hml hown hts hK hZ hS [] [.ref q5, .ref h] hv ggX2_init_X1_init rfl 0 hZ.2.2.2.2.2.1 mm_X2_init_9 mm_X2_init_10 rfl (by decide +kernel) ⟨Nat.le_of_ble_eq_true rfl, Nat.le_of_ble_eq_true rfl⟩ rfl hl.1 rfl (Nat.le_of_ble_eq_true rfl) dX2_init_29 ⟨(Nat.le_of_ble_eq_true rfl), (Nat.le_of_ble_eq_true rfl)⟩ (fun f6 H locs hv hS => ?_)
  obtain ⟨f7, ef7, hv⟩ := hv
  refine fw_put hx hb hts ii_X2_init_X2 tyX2 tyX2_ok nmX2 hown hK hS 4 ef7 rfl (by decide) mm_X2_init_11 rfl rfl rfl rfl dX2_init_32 (fun H locs hS => ?_)
  refine lv_aload_n hx hb dX2_init_35 rfl (lv_at hl 0 rfl) ?_
  refine fw_new hx hb hts ii_X2_init_X1 tyX1 tyX1_ok hown mm_X2_init_7 mm_X2_init_8 mm_X2_init_9 hK hS (ci := 1) rfl [.null, .int 0] (fun j hj => by match j, hj with | 0, _ => rfl | 1, _ => rfl) (Nat.le_of_ble_eq_true rfl) (Nat.le_of_ble_eq_true rfl) dX2_init_36 (fun q8 H hq8 hS => ?_)
  have hv := hv q8 hq8
  refine lv_dup hx hb dX2_init_39 rfl ?_
  refine fw_callIN hx hb hml hown hts hK hZ hS [] [.ref q8, .ref h] hv ggX2_init_X1_init rfl 0 hZ.2.2.2.2.2.1 mm_X2_init_9 mm_X2_init_10 rfl (by decide +kernel) ⟨Nat.le_of_ble_eq_true rfl, Nat.le_of_ble_eq_true rfl⟩ rfl hl.1 rfl (Nat.le_of_ble_eq_true rfl) dX2_init_40 ⟨(Nat.le_of_ble_eq_true rfl), (Nat.le_of_ble_eq_true rfl)⟩ (fun f9 H locs hv hS => ?_)
  obtain ⟨f10, ef10, hv⟩ := hv
  refine fw_put hx hb hts ii_X2_init_X2 tyX2 tyX2_ok nmX2 hown hK hS 5 ef10 rfl (by decide) mm_X2_init_12 rfl rfl rfl rfl dX2_init_43 (fun H locs hS => ?_)
  refine lv_aload_n hx hb dX2_init_46 rfl (lv_at hl 0 rfl) ?_
  refine fw_new hx hb hts ii_X2_init_X1 tyX1 tyX1_ok hown mm_X2_init_7 mm_X2_init_8 mm_X2_init_9 hK hS (ci := 1) rfl [.null, .int 0] (fun j hj => by match j, hj with | 0, _ => rfl | 1, _ => rfl) (Nat.le_of_ble_eq_true rfl) (Nat.le_of_ble_eq_true rfl) dX2_init_47 (fun q11 H hq11 hS => ?_)
  have hv := hv q11 hq11
  refine lv_dup hx hb dX2_init_50 rfl ?_
  refine fw_callIN hx hb hml hown hts hK hZ hS [] [.ref q11, .ref h] hv ggX2_init_X1_init rfl 0 hZ.2.2.2.2.2.1 mm_X2_init_9 mm_X2_init_10 rfl (by decide +kernel) ⟨Nat.le_of_ble_eq_true rfl, Nat.le_of_ble_eq_true rfl⟩ rfl hl.1 rfl (Nat.le_of_ble_eq_true rfl) dX2_init_51 ⟨(Nat.le_of_ble_eq_true rfl), (Nat.le_of_ble_eq_true rfl)⟩ (fun f12 H locs hv hS => ?_)
  obtain ⟨f13, ef13, hv⟩ := hv
  refine fw_put hx hb hts ii_X2_init_X2 tyX2 tyX2_ok nmX2 hown hK hS 6 ef13 rfl (by decide) mm_X2_init_13 rfl rfl rfl rfl dX2_init_54 (fun H locs hS => ?_)
  refine lv_aload_n hx hb dX2_init_57 rfl (lv_at hl 0 rfl) ?_
  refine fw_new hx hb hts ii_X2_init_X1 tyX1 tyX1_ok hown mm_X2_init_7 mm_X2_init_8 mm_X2_init_9 hK hS (ci := 1) rfl [.null, .int 0] (fun j hj => by match j, hj with | 0, _ => rfl | 1, _ => rfl) (Nat.le_of_ble_eq_true rfl) (Nat.le_of_ble_eq_true rfl) dX2_init_58 (fun q14 H hq14 hS => ?_)
  have hv := hv q14 hq14
  refine lv_dup hx hb dX2_init_61 rfl ?_
  refine fw_callIN hx hb hml hown hts hK hZ hS [] [.ref q14, .ref h] hv ggX2_init_X1_init rfl 0 hZ.2.2.2.2.2.1 mm_X2_init_9 mm_X2_init_10 rfl (by decide +kernel) ⟨Nat.le_of_ble_eq_true rfl, Nat.le_of_ble_eq_true rfl⟩ rfl hl.1 rfl (Nat.le_of_ble_eq_true rfl) dX2_init_62 ⟨(Nat.le_of_ble_eq_true rfl), (Nat.le_of_ble_eq_true rfl)⟩ (fun f15 H locs hv hS => ?_)
  obtain ⟨f16, ef16, hv⟩ := hv
  refine fw_putF hx hb hts ii_X2_init_X2 tyX2 tyX2_ok nmX2 hown hK hS 7 ef16 rfl (by decide) mm_X2_init_14 rfl rfl hnm rfl rfl rfl dX2_init_65 (fun H locs hS => ?_)
  refine lv_aload_n hx hb dX2_init_68 rfl (lv_at hl 0 rfl) ?_
  refine fw_new hx hb hts ii_X2_init_X1 tyX1 tyX1_ok hown mm_X2_init_7 mm_X2_init_8 mm_X2_init_9 hK hS (ci := 1) rfl [.null, .int 0] (fun j hj => by match j, hj with | 0, _ => rfl | 1, _ => rfl) (Nat.le_of_ble_eq_true rfl) (Nat.le_of_ble_eq_true rfl) dX2_init_69 (fun q17 H hq17 hS => ?_)
  have hv := hv q17 hq17
  refine lv_dup hx hb dX2_init_72 rfl ?_
  refine fw_callIN hx hb hml hown hts hK hZ hS [] [.ref q17, .ref h] hv ggX2_init_X1_init rfl 0 hZ.2.2.2.2.2.1 mm_X2_init_9 mm_X2_init_10 rfl (by decide +kernel) ⟨Nat.le_of_ble_eq_true rfl, Nat.le_of_ble_eq_true rfl⟩ rfl hl.1 rfl (Nat.le_of_ble_eq_true rfl) dX2_init_73 ⟨(Nat.le_of_ble_eq_true rfl), (Nat.le_of_ble_eq_true rfl)⟩ (fun f18 H locs hv hS => ?_)
  obtain ⟨f19, ef19, hv⟩ := hv
  refine fw_putF hx hb hts ii_X2_init_X2 tyX2 tyX2_ok nmX2 hown hK hS 8 ef19 rfl (by decide) mm_X2_init_15 rfl rfl hnm rfl rfl rfl dX2_init_76 (fun H locs hS => ?_)
  refine lv_aload_n hx hb dX2_init_79 rfl (lv_at hl 0 rfl) ?_
  refine fw_new hx hb hts ii_X2_init_X1 tyX1 tyX1_ok hown mm_X2_init_7 mm_X2_init_8 mm_X2_init_9 hK hS (ci := 1) rfl [.null, .int 0] (fun j hj => by match j, hj with | 0, _ => rfl | 1, _ => rfl) (Nat.le_of_ble_eq_true rfl) (Nat.le_of_ble_eq_true rfl) dX2_init_80 (fun q20 H hq20 hS => ?_)
  have hv := hv q20 hq20
  refine lv_dup hx hb dX2_init_83 rfl ?_
  refine fw_callIN hx hb hml hown hts hK hZ hS [] [.ref q20, .ref h] hv ggX2_init_X1_init rfl 0 hZ.2.2.2.2.2.1 mm_X2_init_9 mm_X2_init_10 rfl (by decide +kernel) ⟨Nat.le_of_ble_eq_true rfl, Nat.le_of_ble_eq_true rfl⟩ rfl hl.1 rfl (Nat.le_of_ble_eq_true rfl) dX2_init_84 ⟨(Nat.le_of_ble_eq_true rfl), (Nat.le_of_ble_eq_true rfl)⟩ (fun f21 H locs hv hS => ?_)
  obtain ⟨f22, ef22, hv⟩ := hv
  refine fw_putF hx hb hts ii_X2_init_X2 tyX2 tyX2_ok nmX2 hown hK hS 9 ef22 rfl (by decide) mm_X2_init_16 rfl rfl hnm rfl rfl rfl dX2_init_87 (fun H locs hS => ?_)
  refine lv_aload_n hx hb dX2_init_90 rfl (lv_at hl 0 rfl) ?_
  refine fw_new hx hb hts ii_X2_init_X1 tyX1 tyX1_ok hown mm_X2_init_7 mm_X2_init_8 mm_X2_init_9 hK hS (ci := 1) rfl [.null, .int 0] (fun j hj => by match j, hj with | 0, _ => rfl | 1, _ => rfl) (Nat.le_of_ble_eq_true rfl) (Nat.le_of_ble_eq_true rfl) dX2_init_91 (fun q23 H hq23 hS => ?_)
  have hv := hv q23 hq23
  refine lv_dup hx hb dX2_init_94 rfl ?_
  refine fw_callIN hx hb hml hown hts hK hZ hS [] [.ref q23, .ref h] hv ggX2_init_X1_init rfl 0 hZ.2.2.2.2.2.1 mm_X2_init_9 mm_X2_init_10 rfl (by decide +kernel) ⟨Nat.le_of_ble_eq_true rfl, Nat.le_of_ble_eq_true rfl⟩ rfl hl.1 rfl (Nat.le_of_ble_eq_true rfl) dX2_init_95 ⟨(Nat.le_of_ble_eq_true rfl), (Nat.le_of_ble_eq_true rfl)⟩ (fun f24 H locs hv hS => ?_)
  obtain ⟨f25, ef25, hv⟩ := hv
  refine fw_putF hx hb hts ii_X2_init_X2 tyX2 tyX2_ok nmX2 hown hK hS 10 ef25 rfl (by decide) mm_X2_init_17 rfl rfl hnm rfl rfl rfl dX2_init_98 (fun H locs hS => ?_)
  refine W.widen (k := 14) (n := 154) (Nat.le_of_ble_eq_true rfl) (Nat.le_of_ble_eq_true rfl) ?_
  exact fw_vret hx hb hr hlk hS hv dX2_init_101
set_option maxRecDepth 100000 in
set_option maxHeartbeats 4000000 in
theorem T_X2_init {E : cx} {h : Nat} {f : hm} {K : hm → Prop}  (h0 : X_X2_init_0 E h f  K) : S_X2_init E h f K := by
  refine MZ_of (cc := cX2_init) (maxL := 1) (ret := none) (by decide) rfl ?_
  intro p e s m below meth c C hZ
  have hl := lv_entry ([.ref h]) (n := 1) (Nat.le_of_ble_eq_true rfl)
  rw [lg_entry_eq]
  generalize (lg_sl ([.ref h]) ++ List.replicate (1 - (lg_sl ([.ref h])).length) Slot.unset).toArray = ls at hl ⊢
  have hl : lv_has ls 1 [(0, .ref h)] := hl
  have hS := C.2.2.2.2.2.2.2.2.2
  exact R_X2_init_0 C h f h0 hl hS hZ
/-! ContinuedRatios.sizeOrOne(II)I -/
def S_X4_sizeOrOne (E : cx) (p1 : Int32) (p2 : Int32) (f : hm) (K : Int32 → hm → Prop) : Prop := MI E.1 E.2.1 vwCl (eT E) yX4_sizeOrOne wsX4_sizeOrOne ({ frames := 0, cells := 0, slots := 0, locals := 0 }) [.int p1, .int p2] f K
def X_X4_sizeOrOne_0 (E : cx) (p1 : Int32) (p2 : Int32) (f : hm)  (K : Int32 → hm → Prop) : Prop :=
  ((p1 < (1 : Int32) → K (1 : Int32) f) ∧ (¬ (p1 < (1 : Int32)) → ((p2 < p1 → K (1 : Int32) f) ∧ (¬ (p2 < p1) → K p1 f))))
set_option maxRecDepth 100000 in
set_option maxHeartbeats 4000000 in
theorem R_X4_sizeOrOne_0 {E : cx} {p : Program} {e : Env} {s : State} {m : MethodId} {below : List Frame} {meth : Method} {c : Code} {f0 : hm} {zp1 : Int32} {zp2 : Int32} (C : wB E.2.1 vwCl (eT E) yX4_sizeOrOne cX4_sizeOrOne 2 (some .int) wsX4_sizeOrOne [.int zp1, .int zp2] f0 p s m meth c) (p1 : Int32) (p2 : Int32) (f : hm)  {K : Int32 → hm → Prop} (hv : X_X4_sizeOrOne_0 E p1 p2 f  K) {ls : Array Slot} {H : Heap} {locs : List Loc} (hl : lv_has ls 2 [(0, .int p1), (1, .int p2)]) (hS : wS E.2.1 vwCl (wA f0 s.heap.size) s.heap f H locs)    : W p E.1 e ({ frames := 0, cells := 0, slots := 0, locals := 0 }) s m ([.int zp1, .int zp2] : List Value).toArray below meth c H locs 0 0 (MQ below (wQi f0 E.2.1 vwCl K s) ([.int zp1, .int zp2] : List Value).toArray s 0 0 (wA f0 s.heap.size)) (F0 m 0 ls []) := by
  obtain ⟨hx, hb, hml, hown, hts, hr, hlk, hnm, hK, -⟩ := C
  unfold X_X4_sizeOrOne_0 at hv
  refine lv_iload_n hx hb dX4_sizeOrOne_0 rfl (lv_at hl 0 rfl) ?_
  refine lv_iconst (v := 1) hx hb dX4_sizeOrOne_1 (by decide) ?_
  refine lv_icmp_lt (tgt := 14) hx hb dX4_sizeOrOne_2 (by decide) (fun c1 => ?_) (fun c1 => ?_)
  · have hv := hv.1 c1
    refine lv_iconst (v := 1) hx hb dX4_sizeOrOne_14 (by decide) ?_
    exact fw_iret hx hb hr hlk hS hv dX4_sizeOrOne_15
  · have hv := hv.2 c1
    refine lv_iload_n hx hb dX4_sizeOrOne_5 rfl (lv_at hl 0 rfl) ?_
    refine lv_iload_n hx hb dX4_sizeOrOne_6 rfl (lv_at hl 1 rfl) ?_
    refine lv_icmp_gt (tgt := 14) hx hb dX4_sizeOrOne_7 (by decide) (fun c2 => ?_) (fun c2 => ?_)
    · have hv := hv.1 c2
      refine lv_iconst (v := 1) hx hb dX4_sizeOrOne_14 (by decide) ?_
      exact fw_iret hx hb hr hlk hS hv dX4_sizeOrOne_15
    · have hv := hv.2 c2
      refine lv_iload_n hx hb dX4_sizeOrOne_10 rfl (lv_at hl 0 rfl) ?_
      refine lv_goto (tgt := 15) hx hb dX4_sizeOrOne_11 (by decide) ?_
      exact fw_iret hx hb hr hlk hS hv dX4_sizeOrOne_15
set_option maxRecDepth 100000 in
set_option maxHeartbeats 4000000 in
theorem T_X4_sizeOrOne {E : cx} {p1 : Int32} {p2 : Int32} {f : hm} {K : Int32 → hm → Prop}  (h0 : X_X4_sizeOrOne_0 E p1 p2 f  K) : S_X4_sizeOrOne E p1 p2 f K := by
  refine MI_of (cc := cX4_sizeOrOne) (maxL := 2) (ret := (some .int)) (by decide) rfl ?_
  intro p e s m below meth c C
  have hl := lv_entry ([.int p1, .int p2]) (n := 2) (Nat.le_of_ble_eq_true rfl)
  rw [lg_entry_eq]
  generalize (lg_sl ([.int p1, .int p2]) ++ List.replicate (2 - (lg_sl ([.int p1, .int p2])).length) Slot.unset).toArray = ls at hl ⊢
  have hl : lv_has ls 2 [(0, .int p1), (1, .int p2)] := hl
  have hS := C.2.2.2.2.2.2.2.2.2
  exact R_X4_sizeOrOne_0 C p1 p2 f h0 hl hS
/-! ContinuedRatiosModel.<init>(II)V -/
def S_X5_init (E : cx) (h : Nat) (p1 : Int32) (p2 : Int32) (f : hm) (K : hm → Prop) : Prop := MZ E.1 E.2.1 vwCl (eT E) yX5_init wsX5_init ({ frames := 1, cells := 2, slots := 980, locals := 24 }) [.ref h, .int p1, .int p2] f K
theorem mm_X5_init_0 : Cond.methodLink RX5 1 objectInit ∈ wsX5_init := by decide +kernel
theorem mm_X5_init_1 : Cond.instanceMethod objectInit ∈ wsX5_init := by decide +kernel
theorem mm_X5_init_2 : Cond.code objectInit ⟨#[0xb1]⟩ 1 none ∈ wsX5_init := by decide +kernel
theorem mm_X5_init_3 : Cond.arrayClass .int ∈ wsX5_init := by decide +kernel
theorem mm_X5_init_4 : Cond.fieldLink RX5 7 "ContinuedRatiosModel" "big" "[I" ∈ wsX5_init := by decide +kernel
theorem mm_X5_init_5 : Cond.fieldLink RX5 13 "ContinuedRatiosModel" "signs" "[I" ∈ wsX5_init := by decide +kernel
theorem mm_X5_init_6 : Cond.fieldLink RX5 16 "ContinuedRatiosModel" "registers" "I" ∈ wsX5_init := by decide +kernel
theorem mm_X5_init_7 : Cond.fieldLink RX5 20 "ContinuedRatiosModel" "width" "I" ∈ wsX5_init := by decide +kernel
theorem ii_X5_init_X5 : ∀ w ∈ u_ws RX5 TX5 7, w ∈ wsX5_init := by decide +kernel
def X_X5_init_0 (E : cx) (h : Nat) (p1 : Int32) (p2 : Int32) (f : hm) (L63 : Nat → Int32 → Int32 → Int32 → hm → Prop) (K : hm → Prop) : Prop :=
  (∀ q1 : Nat, f q1 = none → (∃ f2 : hm, wrV (hp f q1 (.inl (eI E, 972, .inl (fun _ => 0)))) h 5 2 (.ref q1) = some f2 ∧ (∀ q3 : Nat, f2 q3 = none → (∃ f4 : hm, wrV (hp f2 q3 (.inl (eI E, 8, .inl (fun _ => 0)))) h 5 3 (.ref q3) = some f4 ∧ ((p1 < (1 : Int32) → (∃ f6 : hm, wrV f4 h 5 0 (.int (1 : Int32)) = some f6 ∧ ((p2 < (1 : Int32) → (∃ f8 : hm, wrV f6 h 5 1 (.int (1 : Int32)) = some f8 ∧ L63 h p1 p2 (0 : Int32) f8)) ∧ (¬ (p2 < (1 : Int32)) → (((8 : Int32) < p2 → (∃ f10 : hm, wrV f6 h 5 1 (.int (1 : Int32)) = some f10 ∧ L63 h p1 p2 (0 : Int32) f10)) ∧ (¬ ((8 : Int32) < p2) → (∃ f11 : hm, wrV f6 h 5 1 (.int p2) = some f11 ∧ L63 h p1 p2 (0 : Int32) f11))))))) ∧ (¬ (p1 < (1 : Int32)) → (((8 : Int32) < p1 → (∃ f13 : hm, wrV f4 h 5 0 (.int (1 : Int32)) = some f13 ∧ ((p2 < (1 : Int32) → (∃ f15 : hm, wrV f13 h 5 1 (.int (1 : Int32)) = some f15 ∧ L63 h p1 p2 (0 : Int32) f15)) ∧ (¬ (p2 < (1 : Int32)) → (((8 : Int32) < p2 → (∃ f17 : hm, wrV f13 h 5 1 (.int (1 : Int32)) = some f17 ∧ L63 h p1 p2 (0 : Int32) f17)) ∧ (¬ ((8 : Int32) < p2) → (∃ f18 : hm, wrV f13 h 5 1 (.int p2) = some f18 ∧ L63 h p1 p2 (0 : Int32) f18))))))) ∧ (¬ ((8 : Int32) < p1) → (∃ f19 : hm, wrV f4 h 5 0 (.int p1) = some f19 ∧ ((p2 < (1 : Int32) → (∃ f21 : hm, wrV f19 h 5 1 (.int (1 : Int32)) = some f21 ∧ L63 h p1 p2 (0 : Int32) f21)) ∧ (¬ (p2 < (1 : Int32)) → (((8 : Int32) < p2 → (∃ f23 : hm, wrV f19 h 5 1 (.int (1 : Int32)) = some f23 ∧ L63 h p1 p2 (0 : Int32) f23)) ∧ (¬ ((8 : Int32) < p2) → (∃ f24 : hm, wrV f19 h 5 1 (.int p2) = some f24 ∧ L63 h p1 p2 (0 : Int32) f24))))))))))))))
def X_X5_init_63 (E : cx) (a_0 : Nat) (x_1 : Int32) (x_2 : Int32) (x_3 : Int32) (f : hm) (L63 : Nat → Int32 → Int32 → Int32 → hm → Prop) (K : hm → Prop) : Prop :=
  (((8 : Int32) ≤ x_3 → K f) ∧ (¬ ((8 : Int32) ≤ x_3) → (isO f a_0 5 ∧ S_X5_put E a_0 ((8 : Int32) + x_3) (1 : Int64) f (fun (f3 : hm) => (∀ x4 : Int32, x4 = x_3 + (1) → L63 a_0 x_1 x_2 x4 f3)))))
set_option maxRecDepth 100000 in
set_option maxHeartbeats 4000000 in
theorem R_X5_init_0 {E : cx} {p : Program} {e : Env} {s : State} {m : MethodId} {below : List Frame} {meth : Method} {c : Code} {f0 : hm} {zh : Nat} {zp1 : Int32} {zp2 : Int32} (C : wB E.2.1 vwCl (eT E) yX5_init cX5_init 4 none wsX5_init [.ref zh, .int zp1, .int zp2] f0 p s m meth c) (h : Nat) (p1 : Int32) (p2 : Int32) (f : hm) {L63 : Nat → Int32 → Int32 → Int32 → hm → Prop} {K : hm → Prop} (hv : X_X5_init_0 E h p1 p2 f L63 K) {ls : Array Slot} {H : Heap} {locs : List Loc} (hl : lv_has ls 4 [(0, .ref h), (1, .int p1), (2, .int p2)]) (hS : wS E.2.1 vwCl (wA f0 s.heap.size) s.heap f H locs) (hZ : zN s)  (hL63 : ∀ (y_0 : Nat) (y_1 : Int32) (y_2 : Int32) (y_3 : Int32) (f : hm) (ls : Array Slot) (H : Heap) (locs : List Loc), L63 y_0 y_1 y_2 y_3 f → lv_has ls 4 [(0, .ref y_0), (1, .int y_1), (2, .int y_2), (3, .int y_3)] → wS E.2.1 vwCl (wA f0 s.heap.size) s.heap f H locs → W p E.1 e ({ frames := 1, cells := 2, slots := 980, locals := 24 }) s m ([.ref zh, .int zp1, .int zp2] : List Value).toArray below meth c H locs 2 980 (MQ below (wQv f0 E.2.1 vwCl K s) ([.ref zh, .int zp1, .int zp2] : List Value).toArray s 2 980 (wA f0 s.heap.size)) (F0 m 63 ls [])) : W p E.1 e ({ frames := 1, cells := 2, slots := 980, locals := 24 }) s m ([.ref zh, .int zp1, .int zp2] : List Value).toArray below meth c H locs 0 0 (MQ below (wQv f0 E.2.1 vwCl K s) ([.ref zh, .int zp1, .int zp2] : List Value).toArray s 2 980 (wA f0 s.heap.size)) (F0 m 0 ls []) := by
  obtain ⟨hx, hb, hml, hown, hts, hr, hlk, hnm, hK, -⟩ := C
  unfold X_X5_init_0 at hv
  refine lv_aload_n hx hb dX5_init_0 rfl (lv_at hl 0 rfl) ?_
  refine W.objInit hx hb hown (hts _ mm_X5_init_0) (hts _ mm_X5_init_1) (hts _ mm_X5_init_2) rfl (by rw [hml]; exact hl.1) rfl dX5_init_1 (Nat.le_of_ble_eq_true rfl) (Nat.le_of_ble_eq_true rfl) ?_
  refine W.eq (g2 := F0 m 4 ls []) rfl ?_
  refine lv_aload_n hx hb dX5_init_4 rfl (lv_at hl 0 rfl) ?_
  refine lv_sipush (v := 972) hx hb dX5_init_5 (by decide) ?_
  refine fw_newa hx hb hts mm_X5_init_3 hK hS 0 rfl 972 (by decide) (by decide) (Nat.le_of_ble_eq_true rfl) (Nat.le_of_ble_eq_true rfl) (Nat.le_of_ble_eq_true rfl) dX5_init_8 (fun q1 H hq1 hS => ?_)
  have hv := hv q1 hq1
  obtain ⟨f2, ef2, hv⟩ := hv
  refine fw_putF hx hb hts ii_X5_init_X5 tyX5 tyX5_ok nmX5 hown hK hS 2 ef2 rfl (by decide) mm_X5_init_4 rfl rfl hnm rfl rfl rfl dX5_init_10 (fun H locs hS => ?_)
  refine lv_aload_n hx hb dX5_init_13 rfl (lv_at hl 0 rfl) ?_
  refine lv_bipush (v := 8) hx hb dX5_init_14 (by decide) ?_
  refine fw_newa hx hb hts mm_X5_init_3 hK hS 0 rfl 8 (by decide) (by decide) (Nat.le_of_ble_eq_true rfl) (Nat.le_of_ble_eq_true rfl) (Nat.le_of_ble_eq_true rfl) dX5_init_16 (fun q3 H hq3 hS => ?_)
  have hv := hv q3 hq3
  obtain ⟨f4, ef4, hv⟩ := hv
  refine fw_putF hx hb hts ii_X5_init_X5 tyX5 tyX5_ok nmX5 hown hK hS 3 ef4 rfl (by decide) mm_X5_init_5 rfl rfl hnm rfl rfl rfl dX5_init_18 (fun H locs hS => ?_)
  refine lv_aload_n hx hb dX5_init_21 rfl (lv_at hl 0 rfl) ?_
  refine lv_iload_n hx hb dX5_init_22 rfl (lv_at hl 1 rfl) ?_
  refine lv_iconst (v := 1) hx hb dX5_init_23 (by decide) ?_
  refine lv_icmp_lt (tgt := 37) hx hb dX5_init_24 (by decide) (fun c5 => ?_) (fun c5 => ?_)
  · have hv := hv.1 c5
    refine lv_iconst (v := 1) hx hb dX5_init_37 (by decide) ?_
    obtain ⟨f6, ef6, hv⟩ := hv
    refine fw_putF hx hb hts ii_X5_init_X5 tyX5 tyX5_ok nmX5 hown hK hS 0 ef6 rfl (by decide) mm_X5_init_6 rfl rfl hnm rfl rfl rfl dX5_init_38 (fun H locs hS => ?_)
    refine lv_aload_n hx hb dX5_init_41 rfl (lv_at hl 0 rfl) ?_
    refine lv_iload_n hx hb dX5_init_42 rfl (lv_at hl 2 rfl) ?_
    refine lv_iconst (v := 1) hx hb dX5_init_43 (by decide) ?_
    refine lv_icmp_lt (tgt := 57) hx hb dX5_init_44 (by decide) (fun c7 => ?_) (fun c7 => ?_)
    · have hv := hv.1 c7
      refine lv_iconst (v := 1) hx hb dX5_init_57 (by decide) ?_
      obtain ⟨f8, ef8, hv⟩ := hv
      refine fw_putF hx hb hts ii_X5_init_X5 tyX5 tyX5_ok nmX5 hown hK hS 1 ef8 rfl (by decide) mm_X5_init_7 rfl rfl hnm rfl rfl rfl dX5_init_58 (fun H locs hS => ?_)
      refine lv_iconst (v := 0) hx hb dX5_init_61 (by decide) ?_
      refine lv_istore_n (lv' := [(3, .int (0 : Int32)), (0, .ref h), (1, .int p1), (2, .int p2)]) hx hb dX5_init_62 rfl hl (by decide) rfl (fun ls hl => ?_)
      exact hL63 _ _ _ _ _ _ _ _ hv (lv_sub hl [1, 2, 3, 0] rfl) hS
    · have hv := hv.2 c7
      refine lv_iload_n hx hb dX5_init_47 rfl (lv_at hl 2 rfl) ?_
      refine lv_bipush (v := 8) hx hb dX5_init_48 (by decide) ?_
      refine lv_icmp_gt (tgt := 57) hx hb dX5_init_50 (by decide) (fun c9 => ?_) (fun c9 => ?_)
      · have hv := hv.1 c9
        refine lv_iconst (v := 1) hx hb dX5_init_57 (by decide) ?_
        obtain ⟨f10, ef10, hv⟩ := hv
        refine fw_putF hx hb hts ii_X5_init_X5 tyX5 tyX5_ok nmX5 hown hK hS 1 ef10 rfl (by decide) mm_X5_init_7 rfl rfl hnm rfl rfl rfl dX5_init_58 (fun H locs hS => ?_)
        refine lv_iconst (v := 0) hx hb dX5_init_61 (by decide) ?_
        refine lv_istore_n (lv' := [(3, .int (0 : Int32)), (0, .ref h), (1, .int p1), (2, .int p2)]) hx hb dX5_init_62 rfl hl (by decide) rfl (fun ls hl => ?_)
        exact hL63 _ _ _ _ _ _ _ _ hv (lv_sub hl [1, 2, 3, 0] rfl) hS
      · have hv := hv.2 c9
        refine lv_iload_n hx hb dX5_init_53 rfl (lv_at hl 2 rfl) ?_
        refine lv_goto (tgt := 58) hx hb dX5_init_54 (by decide) ?_
        obtain ⟨f11, ef11, hv⟩ := hv
        refine fw_putF hx hb hts ii_X5_init_X5 tyX5 tyX5_ok nmX5 hown hK hS 1 ef11 rfl (by decide) mm_X5_init_7 rfl rfl hnm rfl rfl rfl dX5_init_58 (fun H locs hS => ?_)
        refine lv_iconst (v := 0) hx hb dX5_init_61 (by decide) ?_
        refine lv_istore_n (lv' := [(3, .int (0 : Int32)), (0, .ref h), (1, .int p1), (2, .int p2)]) hx hb dX5_init_62 rfl hl (by decide) rfl (fun ls hl => ?_)
        exact hL63 _ _ _ _ _ _ _ _ hv (lv_sub hl [1, 2, 3, 0] rfl) hS
  · have hv := hv.2 c5
    refine lv_iload_n hx hb dX5_init_27 rfl (lv_at hl 1 rfl) ?_
    refine lv_bipush (v := 8) hx hb dX5_init_28 (by decide) ?_
    refine lv_icmp_gt (tgt := 37) hx hb dX5_init_30 (by decide) (fun c12 => ?_) (fun c12 => ?_)
    · have hv := hv.1 c12
      refine lv_iconst (v := 1) hx hb dX5_init_37 (by decide) ?_
      obtain ⟨f13, ef13, hv⟩ := hv
      refine fw_putF hx hb hts ii_X5_init_X5 tyX5 tyX5_ok nmX5 hown hK hS 0 ef13 rfl (by decide) mm_X5_init_6 rfl rfl hnm rfl rfl rfl dX5_init_38 (fun H locs hS => ?_)
      refine lv_aload_n hx hb dX5_init_41 rfl (lv_at hl 0 rfl) ?_
      refine lv_iload_n hx hb dX5_init_42 rfl (lv_at hl 2 rfl) ?_
      refine lv_iconst (v := 1) hx hb dX5_init_43 (by decide) ?_
      refine lv_icmp_lt (tgt := 57) hx hb dX5_init_44 (by decide) (fun c14 => ?_) (fun c14 => ?_)
      · have hv := hv.1 c14
        refine lv_iconst (v := 1) hx hb dX5_init_57 (by decide) ?_
        obtain ⟨f15, ef15, hv⟩ := hv
        refine fw_putF hx hb hts ii_X5_init_X5 tyX5 tyX5_ok nmX5 hown hK hS 1 ef15 rfl (by decide) mm_X5_init_7 rfl rfl hnm rfl rfl rfl dX5_init_58 (fun H locs hS => ?_)
        refine lv_iconst (v := 0) hx hb dX5_init_61 (by decide) ?_
        refine lv_istore_n (lv' := [(3, .int (0 : Int32)), (0, .ref h), (1, .int p1), (2, .int p2)]) hx hb dX5_init_62 rfl hl (by decide) rfl (fun ls hl => ?_)
        exact hL63 _ _ _ _ _ _ _ _ hv (lv_sub hl [1, 2, 3, 0] rfl) hS
      · have hv := hv.2 c14
        refine lv_iload_n hx hb dX5_init_47 rfl (lv_at hl 2 rfl) ?_
        refine lv_bipush (v := 8) hx hb dX5_init_48 (by decide) ?_
        refine lv_icmp_gt (tgt := 57) hx hb dX5_init_50 (by decide) (fun c16 => ?_) (fun c16 => ?_)
        · have hv := hv.1 c16
          refine lv_iconst (v := 1) hx hb dX5_init_57 (by decide) ?_
          obtain ⟨f17, ef17, hv⟩ := hv
          refine fw_putF hx hb hts ii_X5_init_X5 tyX5 tyX5_ok nmX5 hown hK hS 1 ef17 rfl (by decide) mm_X5_init_7 rfl rfl hnm rfl rfl rfl dX5_init_58 (fun H locs hS => ?_)
          refine lv_iconst (v := 0) hx hb dX5_init_61 (by decide) ?_
          refine lv_istore_n (lv' := [(3, .int (0 : Int32)), (0, .ref h), (1, .int p1), (2, .int p2)]) hx hb dX5_init_62 rfl hl (by decide) rfl (fun ls hl => ?_)
          exact hL63 _ _ _ _ _ _ _ _ hv (lv_sub hl [1, 2, 3, 0] rfl) hS
        · have hv := hv.2 c16
          refine lv_iload_n hx hb dX5_init_53 rfl (lv_at hl 2 rfl) ?_
          refine lv_goto (tgt := 58) hx hb dX5_init_54 (by decide) ?_
          obtain ⟨f18, ef18, hv⟩ := hv
          refine fw_putF hx hb hts ii_X5_init_X5 tyX5 tyX5_ok nmX5 hown hK hS 1 ef18 rfl (by decide) mm_X5_init_7 rfl rfl hnm rfl rfl rfl dX5_init_58 (fun H locs hS => ?_)
          refine lv_iconst (v := 0) hx hb dX5_init_61 (by decide) ?_
          refine lv_istore_n (lv' := [(3, .int (0 : Int32)), (0, .ref h), (1, .int p1), (2, .int p2)]) hx hb dX5_init_62 rfl hl (by decide) rfl (fun ls hl => ?_)
          exact hL63 _ _ _ _ _ _ _ _ hv (lv_sub hl [1, 2, 3, 0] rfl) hS
    · have hv := hv.2 c12
      refine lv_iload_n hx hb dX5_init_33 rfl (lv_at hl 1 rfl) ?_
      refine lv_goto (tgt := 38) hx hb dX5_init_34 (by decide) ?_
      obtain ⟨f19, ef19, hv⟩ := hv
      refine fw_putF hx hb hts ii_X5_init_X5 tyX5 tyX5_ok nmX5 hown hK hS 0 ef19 rfl (by decide) mm_X5_init_6 rfl rfl hnm rfl rfl rfl dX5_init_38 (fun H locs hS => ?_)
      refine lv_aload_n hx hb dX5_init_41 rfl (lv_at hl 0 rfl) ?_
      refine lv_iload_n hx hb dX5_init_42 rfl (lv_at hl 2 rfl) ?_
      refine lv_iconst (v := 1) hx hb dX5_init_43 (by decide) ?_
      refine lv_icmp_lt (tgt := 57) hx hb dX5_init_44 (by decide) (fun c20 => ?_) (fun c20 => ?_)
      · have hv := hv.1 c20
        refine lv_iconst (v := 1) hx hb dX5_init_57 (by decide) ?_
        obtain ⟨f21, ef21, hv⟩ := hv
        refine fw_putF hx hb hts ii_X5_init_X5 tyX5 tyX5_ok nmX5 hown hK hS 1 ef21 rfl (by decide) mm_X5_init_7 rfl rfl hnm rfl rfl rfl dX5_init_58 (fun H locs hS => ?_)
        refine lv_iconst (v := 0) hx hb dX5_init_61 (by decide) ?_
        refine lv_istore_n (lv' := [(3, .int (0 : Int32)), (0, .ref h), (1, .int p1), (2, .int p2)]) hx hb dX5_init_62 rfl hl (by decide) rfl (fun ls hl => ?_)
        exact hL63 _ _ _ _ _ _ _ _ hv (lv_sub hl [1, 2, 3, 0] rfl) hS
      · have hv := hv.2 c20
        refine lv_iload_n hx hb dX5_init_47 rfl (lv_at hl 2 rfl) ?_
        refine lv_bipush (v := 8) hx hb dX5_init_48 (by decide) ?_
        refine lv_icmp_gt (tgt := 57) hx hb dX5_init_50 (by decide) (fun c22 => ?_) (fun c22 => ?_)
        · have hv := hv.1 c22
          refine lv_iconst (v := 1) hx hb dX5_init_57 (by decide) ?_
          obtain ⟨f23, ef23, hv⟩ := hv
          refine fw_putF hx hb hts ii_X5_init_X5 tyX5 tyX5_ok nmX5 hown hK hS 1 ef23 rfl (by decide) mm_X5_init_7 rfl rfl hnm rfl rfl rfl dX5_init_58 (fun H locs hS => ?_)
          refine lv_iconst (v := 0) hx hb dX5_init_61 (by decide) ?_
          refine lv_istore_n (lv' := [(3, .int (0 : Int32)), (0, .ref h), (1, .int p1), (2, .int p2)]) hx hb dX5_init_62 rfl hl (by decide) rfl (fun ls hl => ?_)
          exact hL63 _ _ _ _ _ _ _ _ hv (lv_sub hl [1, 2, 3, 0] rfl) hS
        · have hv := hv.2 c22
          refine lv_iload_n hx hb dX5_init_53 rfl (lv_at hl 2 rfl) ?_
          refine lv_goto (tgt := 58) hx hb dX5_init_54 (by decide) ?_
          obtain ⟨f24, ef24, hv⟩ := hv
          refine fw_putF hx hb hts ii_X5_init_X5 tyX5 tyX5_ok nmX5 hown hK hS 1 ef24 rfl (by decide) mm_X5_init_7 rfl rfl hnm rfl rfl rfl dX5_init_58 (fun H locs hS => ?_)
          refine lv_iconst (v := 0) hx hb dX5_init_61 (by decide) ?_
          refine lv_istore_n (lv' := [(3, .int (0 : Int32)), (0, .ref h), (1, .int p1), (2, .int p2)]) hx hb dX5_init_62 rfl hl (by decide) rfl (fun ls hl => ?_)
          exact hL63 _ _ _ _ _ _ _ _ hv (lv_sub hl [1, 2, 3, 0] rfl) hS
set_option maxRecDepth 100000 in
set_option maxHeartbeats 4000000 in
theorem R_X5_init_63 {E : cx} {p : Program} {e : Env} {s : State} {m : MethodId} {below : List Frame} {meth : Method} {c : Code} {f0 : hm} {zh : Nat} {zp1 : Int32} {zp2 : Int32} (C : wB E.2.1 vwCl (eT E) yX5_init cX5_init 4 none wsX5_init [.ref zh, .int zp1, .int zp2] f0 p s m meth c) (a_0 : Nat) (x_1 : Int32) (x_2 : Int32) (x_3 : Int32) (f : hm) {L63 : Nat → Int32 → Int32 → Int32 → hm → Prop} {K : hm → Prop} (hv : X_X5_init_63 E a_0 x_1 x_2 x_3 f L63 K) {ls : Array Slot} {H : Heap} {locs : List Loc} (hl : lv_has ls 4 [(0, .ref a_0), (1, .int x_1), (2, .int x_2), (3, .int x_3)]) (hS : wS E.2.1 vwCl (wA f0 s.heap.size) s.heap f H locs) (hZ : zN s) {cs ss : Nat} (hcs : cs ≤ 2) (hss : ss ≤ 980) (hL63 : ∀ (y_0 : Nat) (y_1 : Int32) (y_2 : Int32) (y_3 : Int32) (f : hm) (ls : Array Slot) (H : Heap) (locs : List Loc), L63 y_0 y_1 y_2 y_3 f → lv_has ls 4 [(0, .ref y_0), (1, .int y_1), (2, .int y_2), (3, .int y_3)] → wS E.2.1 vwCl (wA f0 s.heap.size) s.heap f H locs → W p E.1 e ({ frames := 1, cells := 2, slots := 980, locals := 24 }) s m ([.ref zh, .int zp1, .int zp2] : List Value).toArray below meth c H locs (cs + 0) (ss + 0) (MQ below (wQv f0 E.2.1 vwCl K s) ([.ref zh, .int zp1, .int zp2] : List Value).toArray s 2 980 (wA f0 s.heap.size)) (F0 m 63 ls [])) : W p E.1 e ({ frames := 1, cells := 2, slots := 980, locals := 24 }) s m ([.ref zh, .int zp1, .int zp2] : List Value).toArray below meth c H locs cs ss (MQ below (wQv f0 E.2.1 vwCl K s) ([.ref zh, .int zp1, .int zp2] : List Value).toArray s 2 980 (wA f0 s.heap.size)) (F0 m 63 ls []) := by
  obtain ⟨hx, hb, hml, hown, hts, hr, hlk, hnm, hK, -⟩ := C
  unfold X_X5_init_63 at hv
  refine lv_iload_n hx hb dX5_init_63 rfl (lv_at hl 3 rfl) ?_
  refine lv_bipush (v := 8) hx hb dX5_init_64 (by decide) ?_
  refine lv_icmp_ge (tgt := 84) hx hb dX5_init_66 (by decide) (fun c1 => ?_) (fun c1 => ?_)
  · have hv := hv.1 c1
    refine W.widen (k := 2) (n := 980) (by show cs + 0 ≤ 2; omega) (by show ss + 0 ≤ 980; omega) ?_
    exact fw_vret hx hb hr hlk hS hv dX5_init_84
  · have hv := hv.2 c1
    refine lv_aload_n hx hb dX5_init_69 rfl (lv_at hl 0 rfl) ?_
    refine lv_bipush (v := 8) hx hb dX5_init_70 (by decide) ?_
    refine lv_iload_n hx hb dX5_init_72 rfl (lv_at hl 3 rfl) ?_
    refine lv_iadd hx hb dX5_init_73 ?_
    refine lv_lconst (v := 1) hx hb dX5_init_74 (by decide) ?_
    obtain ⟨ho2, hv⟩ := hv
    refine fw_callVv hx hb hml hown hts hK hS [.int ((8 : Int32) + x_3), .long (1 : Int64)] [] hv gX5_init_X5_put rfl rfl rfl 2 (by decide +kernel) ⟨Nat.le_of_ble_eq_true rfl, Nat.le_of_ble_eq_true rfl⟩ rfl rfl ho2 rfl hl.1 rfl (Nat.le_of_ble_eq_true rfl) dX5_init_75 ⟨(by show cs + 0 ≤ 2; omega), (by show ss + 0 ≤ 980; omega)⟩ (fun f3 H locs hv hS => ?_)
    obtain ⟨x4, ex4⟩ : ∃ y : Int32, y = x_3 + (1) := ⟨_, rfl⟩
    have hv := hv x4 ex4
    refine lv_iinc (v := x4) (lv' := [(3, .int x4), (0, .ref a_0), (1, .int x_1), (2, .int x_2)]) hx hb dX5_init_78 hl (k := 3) rfl (by rw [ex4]; rfl) (by decide) rfl (fun ls hl => ?_)
    refine lv_goto (tgt := 63) hx hb dX5_init_81 (by decide) ?_
    exact hL63 _ _ _ _ _ _ _ _ hv (lv_sub hl [1, 2, 3, 0] rfl) hS
set_option maxRecDepth 100000 in
set_option maxHeartbeats 4000000 in
theorem T_X5_init {E : cx} {h : Nat} {p1 : Int32} {p2 : Int32} {f : hm} {K : hm → Prop} (I63 : Nat → Nat → Int32 → Int32 → Int32 → hm → Prop) (h0 : X_X5_init_0 E h p1 p2 f (fun (y_0 : Nat) (y_1 : Int32) (y_2 : Int32) (y_3 : Int32) (f : hm) => ∃ k : Nat, k ≤ 8 ∧ I63 k y_0 y_1 y_2 y_3 f) K) (h63 : ∀ (n : Nat) (a_0 : Nat) (x_1 : Int32) (x_2 : Int32) (x_3 : Int32) (f : hm), I63 n a_0 x_1 x_2 x_3 f → X_X5_init_63 E a_0 x_1 x_2 x_3 f (fun (y_0 : Nat) (y_1 : Int32) (y_2 : Int32) (y_3 : Int32) (f : hm) => ∃ k : Nat, k < n ∧ I63 k y_0 y_1 y_2 y_3 f) K) : S_X5_init E h p1 p2 f K := by
  refine MZ_of (cc := cX5_init) (maxL := 4) (ret := none) (by decide) rfl ?_
  intro p e s m below meth c C hZ
  have hl := lv_entry ([.ref h, .int p1, .int p2]) (n := 4) (Nat.le_of_ble_eq_true rfl)
  rw [lg_entry_eq]
  generalize (lg_sl ([.ref h, .int p1, .int p2]) ++ List.replicate (4 - (lg_sl ([.ref h, .int p1, .int p2])).length) Slot.unset).toArray = ls at hl ⊢
  have hl : lv_has ls 4 [(0, .ref h), (1, .int p1), (2, .int p2)] := hl
  have hS := C.2.2.2.2.2.2.2.2.2
  have key : ∀ n : Nat, (∀ (a_0 : Nat) (x_1 : Int32) (x_2 : Int32) (x_3 : Int32) (g : hm) (ls : Array Slot) (H : Heap) (locs : List Loc), I63 n a_0 x_1 x_2 x_3 g → lv_has ls 4 [(0, .ref a_0), (1, .int x_1), (2, .int x_2), (3, .int x_3)] → wS E.2.1 vwCl (wA f s.heap.size) s.heap g H locs → ∀ cs ss : Nat, cs + 0 * n ≤ 2 → ss + 0 * n ≤ 980 → W p E.1 e ({ frames := 1, cells := 2, slots := 980, locals := 24 }) s m ([.ref h, .int p1, .int p2] : List Value).toArray below meth c H locs cs ss (MQ below (wQv f E.2.1 vwCl K s) ([.ref h, .int p1, .int p2] : List Value).toArray s 2 980 (wA f s.heap.size)) (F0 m 63 ls [])) := by
    refine st_ind (fun n ih => ?_)
    intro a_0 x_1 x_2 x_3 g ls H locs hI hl hS cs ss hcs hss
    exact R_X5_init_63 C a_0 x_1 x_2 x_3 g (h63 n a_0 x_1 x_2 x_3 g hI) hl hS hZ (cs := cs) (ss := ss) (by omega) (by omega) (fun _ _ _ _ _ _ _ _ hI hl hS => by obtain ⟨k, hk, hI⟩ := hI; exact (ih k hk) _ _ _ _ _ _ _ _ hI hl hS _ _ (by omega) (by omega))
  exact R_X5_init_0 C h p1 p2 f h0 hl hS hZ (fun _ _ _ _ _ _ _ _ hI hl hS => by obtain ⟨k, hk, hI⟩ := hI; exact (key k) _ _ _ _ _ _ _ _ hI hl hS _ _ (by omega) (by omega))
/-! ContinuedRatios.<init>(II)V -/
def S_X4_init (E : cx) (h : Nat) (p1 : Int32) (p2 : Int32) (f : hm) (K : hm → Prop) : Prop := MZ E.1 E.2.1 vwCl (eT E) yX4_init wsX4_init ({ frames := 3, cells := 94, slots := 935, locals := 52 }) [.ref h, .int p1, .int p2] f K
theorem mm_X4_init_0 : Cond.methodLink RX4 5 objectInit ∈ wsX4_init := by decide +kernel
theorem mm_X4_init_1 : Cond.instanceMethod objectInit ∈ wsX4_init := by decide +kernel
theorem mm_X4_init_2 : Cond.code objectInit ⟨#[0xb1]⟩ 1 none ∈ wsX4_init := by decide +kernel
theorem mm_X4_init_3 : Cond.classLink RX4 11 RX0 ∈ wsX4_init := by decide +kernel
theorem mm_X4_init_4 : Cond.instantiable RX0 3 ∈ wsX4_init := by decide +kernel
theorem mm_X4_init_5 : Cond.initialized RX0 ∈ wsX4_init := by decide +kernel
theorem mm_X4_init_6 : Cond.instanceMethod yX0_init ∈ wsX4_init := by decide +kernel
theorem mm_X4_init_7 : Cond.fieldLink RX4 14 "ContinuedRatios" "rest" "LContinuedRatios$Fraction;" ∈ wsX4_init := by decide +kernel
theorem mm_X4_init_8 : Cond.fieldLink RX4 20 "ContinuedRatios" "result" "LContinuedRatios$Fraction;" ∈ wsX4_init := by decide +kernel
theorem mm_X4_init_9 : Cond.classLink RX4 23 RX3 ∈ wsX4_init := by decide +kernel
theorem mm_X4_init_10 : Cond.instantiable RX3 3 ∈ wsX4_init := by decide +kernel
theorem mm_X4_init_11 : Cond.initialized RX3 ∈ wsX4_init := by decide +kernel
theorem mm_X4_init_12 : Cond.instanceMethod yX3_init ∈ wsX4_init := by decide +kernel
theorem mm_X4_init_13 : Cond.fieldLink RX4 26 "ContinuedRatios" "reducer" "LContinuedRatios$Reducer;" ∈ wsX4_init := by decide +kernel
theorem mm_X4_init_14 : Cond.classLink RX4 30 RX2 ∈ wsX4_init := by decide +kernel
theorem mm_X4_init_15 : Cond.instantiable RX2 11 ∈ wsX4_init := by decide +kernel
theorem mm_X4_init_16 : Cond.initialized RX2 ∈ wsX4_init := by decide +kernel
theorem mm_X4_init_17 : Cond.instanceMethod yX2_init ∈ wsX4_init := by decide +kernel
theorem mm_X4_init_18 : Cond.fieldLink RX4 33 "ContinuedRatios" "nearest" "LContinuedRatios$NearestSearch;" ∈ wsX4_init := by decide +kernel
theorem mm_X4_init_19 : Cond.classLink RX4 37 RX1 ∈ wsX4_init := by decide +kernel
theorem mm_X4_init_20 : Cond.instantiable RX1 2 ∈ wsX4_init := by decide +kernel
theorem mm_X4_init_21 : Cond.initialized RX1 ∈ wsX4_init := by decide +kernel
theorem mm_X4_init_22 : Cond.instanceMethod yX1_init ∈ wsX4_init := by decide +kernel
theorem mm_X4_init_23 : Cond.fieldLink RX4 40 "ContinuedRatios" "leftUpper" "LContinuedRatios$Natural;" ∈ wsX4_init := by decide +kernel
theorem mm_X4_init_24 : Cond.fieldLink RX4 44 "ContinuedRatios" "leftLower" "LContinuedRatios$Natural;" ∈ wsX4_init := by decide +kernel
theorem mm_X4_init_25 : Cond.fieldLink RX4 47 "ContinuedRatios" "rightUpper" "LContinuedRatios$Natural;" ∈ wsX4_init := by decide +kernel
theorem mm_X4_init_26 : Cond.fieldLink RX4 50 "ContinuedRatios" "rightLower" "LContinuedRatios$Natural;" ∈ wsX4_init := by decide +kernel
theorem mm_X4_init_27 : Cond.fieldLink RX4 53 "ContinuedRatios" "shared" "LContinuedRatios$Natural;" ∈ wsX4_init := by decide +kernel
theorem mm_X4_init_28 : Cond.fieldLink RX4 56 "ContinuedRatios" "product" "LContinuedRatios$Natural;" ∈ wsX4_init := by decide +kernel
theorem mm_X4_init_29 : Cond.fieldLink RX4 59 "ContinuedRatios" "whole" "LContinuedRatios$Natural;" ∈ wsX4_init := by decide +kernel
theorem mm_X4_init_30 : Cond.fieldLink RX4 62 "ContinuedRatios" "remainder" "LContinuedRatios$Natural;" ∈ wsX4_init := by decide +kernel
theorem mm_X4_init_31 : Cond.fieldLink RX4 69 "ContinuedRatios" "width" "I" ∈ wsX4_init := by decide +kernel
theorem mm_X4_init_32 : Cond.fieldLink RX4 73 "ContinuedRatios" "registers" "[LContinuedRatios$Fraction;" ∈ wsX4_init := by decide +kernel
theorem mm_X4_init_33 : Cond.fieldLink RX4 77 "ContinuedRatios$Fraction" "lower" "LContinuedRatios$Natural;" ∈ wsX4_init := by decide +kernel
theorem ii_X4_init_X0 : ∀ w ∈ u_ws RX0 TX0 3, w ∈ wsX4_init := by decide +kernel
theorem ii_X4_init_X4 : ∀ w ∈ u_ws RX4 TX4 14, w ∈ wsX4_init := by decide +kernel
theorem ii_X4_init_X3 : ∀ w ∈ u_ws RX3 TX3 3, w ∈ wsX4_init := by decide +kernel
theorem ii_X4_init_X2 : ∀ w ∈ u_ws RX2 TX2 11, w ∈ wsX4_init := by decide +kernel
theorem ii_X4_init_X1 : ∀ w ∈ u_ws RX1 TX1 2, w ∈ wsX4_init := by decide +kernel
def X_X4_init_0 (E : cx) (h : Nat) (p1 : Int32) (p2 : Int32) (f : hm) (L161 : Nat → Int32 → Int32 → Int32 → hm → Prop) (K : hm → Prop) : Prop :=
  (∀ q1 : Nat, f q1 = none → S_X0_init E q1 (hp f q1 (.inr (0, [.int 0, .null, .null]))) (fun (f2 : hm) => (∃ f3 : hm, wrV f2 h 4 2 (.ref q1) = some f3 ∧ (∀ q4 : Nat, f3 q4 = none → S_X0_init E q4 (hp f3 q4 (.inr (0, [.int 0, .null, .null]))) (fun (f5 : hm) => (∃ f6 : hm, wrV f5 h 4 3 (.ref q4) = some f6 ∧ (∀ q7 : Nat, f6 q7 = none → S_X3_init E q7 (hp f6 q7 (.inr (3, [.null, .null, .null]))) (fun (f8 : hm) => (∃ f9 : hm, wrV f8 h 4 4 (.ref q7) = some f9 ∧ (∀ q10 : Nat, f9 q10 = none → S_X2_init E q10 (hp f9 q10 (.inr (2, [.long 0, .long 0, .long 0, .long 0, .null, .null, .null, .null, .null, .null, .null]))) (fun (f11 : hm) => (∃ f12 : hm, wrV f11 h 4 5 (.ref q10) = some f12 ∧ (∀ q13 : Nat, f12 q13 = none → S_X1_init E q13 (hp f12 q13 (.inr (1, [.null, .int 0]))) (fun (f14 : hm) => (∃ f15 : hm, wrV f14 h 4 6 (.ref q13) = some f15 ∧ (∀ q16 : Nat, f15 q16 = none → S_X1_init E q16 (hp f15 q16 (.inr (1, [.null, .int 0]))) (fun (f17 : hm) => (∃ f18 : hm, wrV f17 h 4 7 (.ref q16) = some f18 ∧ (∀ q19 : Nat, f18 q19 = none → S_X1_init E q19 (hp f18 q19 (.inr (1, [.null, .int 0]))) (fun (f20 : hm) => (∃ f21 : hm, wrV f20 h 4 8 (.ref q19) = some f21 ∧ (∀ q22 : Nat, f21 q22 = none → S_X1_init E q22 (hp f21 q22 (.inr (1, [.null, .int 0]))) (fun (f23 : hm) => (∃ f24 : hm, wrV f23 h 4 9 (.ref q22) = some f24 ∧ (∀ q25 : Nat, f24 q25 = none → S_X1_init E q25 (hp f24 q25 (.inr (1, [.null, .int 0]))) (fun (f26 : hm) => (∃ f27 : hm, wrV f26 h 4 10 (.ref q25) = some f27 ∧ (∀ q28 : Nat, f27 q28 = none → S_X1_init E q28 (hp f27 q28 (.inr (1, [.null, .int 0]))) (fun (f29 : hm) => (∃ f30 : hm, wrV f29 h 4 11 (.ref q28) = some f30 ∧ (∀ q31 : Nat, f30 q31 = none → S_X1_init E q31 (hp f30 q31 (.inr (1, [.null, .int 0]))) (fun (f32 : hm) => (∃ f33 : hm, wrV f32 h 4 12 (.ref q31) = some f33 ∧ (∀ q34 : Nat, f33 q34 = none → S_X1_init E q34 (hp f33 q34 (.inr (1, [.null, .int 0]))) (fun (f35 : hm) => (∃ f36 : hm, wrV f35 h 4 13 (.ref q34) = some f36 ∧ S_X4_sizeOrOne E p2 (8 : Int32) f36 (fun (r38 : Int32) (f37 : hm) => (∃ f39 : hm, wrV f37 h 4 0 (.int r38) = some f39 ∧ S_X4_sizeOrOne E p1 (8 : Int32) f39 (fun (r41 : Int32) (f40 : hm) => (∃ N43 : Nat, (¬ r41 < 0 ∧ r41.toNatClampNeg = N43 ∧ N43 ≤ 8) ∧ (∀ q42 : Nat, f40 q42 = none → (∃ f44 : hm, wrV (hp f40 q42 (.inl (eF E, N43, .inr (.inr (.inr (.inr (fun _ => none))))))) h 4 1 (.ref q42) = some f44 ∧ L161 h p1 p2 (0 : Int32) f44))))))))))))))))))))))))))))))))))))))))))
def X_X4_init_161 (E : cx) (a_0 : Nat) (x_1 : Int32) (x_2 : Int32) (x_3 : Int32) (f : hm) (L161 : Nat → Int32 → Int32 → Int32 → hm → Prop) (K : hm → Prop) : Prop :=
  (∃ v1 : Nat, rdV f a_0 4 1 = some (.ref v1) ∧ (∃ n2 : Nat, rdN (eF E) f v1 = some n2 ∧ (((nI n2) ≤ x_3 → K f) ∧ (¬ ((nI n2) ≤ x_3) → (∃ v4 : Nat, rdV f a_0 4 1 = some (.ref v4) ∧ (∀ q5 : Nat, f q5 = none → S_X0_init E q5 (hp f q5 (.inr (0, [.int 0, .null, .null]))) (fun (f6 : hm) => (isO f6 q5 0 ∧ (∃ f7 : hm, wrQ (eF E) f6 v4 x_3 q5 = some f7 ∧ (∃ v9 : Nat, rdV f7 a_0 4 1 = some (.ref v9) ∧ (∃ v10 : Nat, rdQ (eF E) f7 v9 x_3 = some (some v10) ∧ (∃ v11 : Nat, rdV f7 v10 0 2 = some (.ref v11) ∧ (isO f7 v11 1 ∧ S_X1_become E v11 (1 : Int64) f7 (fun (f13 : hm) => (∀ x14 : Int32, x14 = x_3 + (1) → L161 a_0 x_1 x_2 x14 f13)))))))))))))))
set_option maxRecDepth 100000 in
set_option maxHeartbeats 4000000 in
theorem R_X4_init_0 {E : cx} {p : Program} {e : Env} {s : State} {m : MethodId} {below : List Frame} {meth : Method} {c : Code} {f0 : hm} {zh : Nat} {zp1 : Int32} {zp2 : Int32} (C : wB E.2.1 vwCl (eT E) yX4_init cX4_init 4 none wsX4_init [.ref zh, .int zp1, .int zp2] f0 p s m meth c) (h : Nat) (p1 : Int32) (p2 : Int32) (f : hm) {L161 : Nat → Int32 → Int32 → Int32 → hm → Prop} {K : hm → Prop} (hv : X_X4_init_0 E h p1 p2 f L161 K) {ls : Array Slot} {H : Heap} {locs : List Loc} (hl : lv_has ls 4 [(0, .ref h), (1, .int p1), (2, .int p2)]) (hS : wS E.2.1 vwCl (wA f0 s.heap.size) s.heap f H locs) (hZ : zN s)  (hL161 : ∀ (y_0 : Nat) (y_1 : Int32) (y_2 : Int32) (y_3 : Int32) (f : hm) (ls : Array Slot) (H : Heap) (locs : List Loc), L161 y_0 y_1 y_2 y_3 f → lv_has ls 4 [(0, .ref y_0), (1, .int y_1), (2, .int y_2), (3, .int y_3)] → wS E.2.1 vwCl (wA f0 s.heap.size) s.heap f H locs → W p E.1 e ({ frames := 3, cells := 94, slots := 935, locals := 52 }) s m ([.ref zh, .int zp1, .int zp2] : List Value).toArray below meth c H locs 49 512 (MQ below (wQv f0 E.2.1 vwCl K s) ([.ref zh, .int zp1, .int zp2] : List Value).toArray s 94 935 (wA f0 s.heap.size)) (F0 m 161 ls [])) : W p E.1 e ({ frames := 3, cells := 94, slots := 935, locals := 52 }) s m ([.ref zh, .int zp1, .int zp2] : List Value).toArray below meth c H locs 0 0 (MQ below (wQv f0 E.2.1 vwCl K s) ([.ref zh, .int zp1, .int zp2] : List Value).toArray s 94 935 (wA f0 s.heap.size)) (F0 m 0 ls []) := by
  obtain ⟨hx, hb, hml, hown, hts, hr, hlk, hnm, hK, -⟩ := C
  unfold X_X4_init_0 at hv
  refine lv_aload_n hx hb dX4_init_0 rfl (lv_at hl 0 rfl) ?_
  refine W.objInit hx hb hown (hts _ mm_X4_init_0) (hts _ mm_X4_init_1) (hts _ mm_X4_init_2) rfl (by rw [hml]; exact hl.1) rfl dX4_init_1 (Nat.le_of_ble_eq_true rfl) (Nat.le_of_ble_eq_true rfl) ?_
  refine W.eq (g2 := F0 m 4 ls []) rfl ?_
  refine lv_aload_n hx hb dX4_init_4 rfl (lv_at hl 0 rfl) ?_
  refine fw_new hx hb hts ii_X4_init_X0 tyX0 tyX0_ok hown mm_X4_init_3 mm_X4_init_4 mm_X4_init_5 hK hS (ci := 0) rfl [.int 0, .null, .null] (fun j hj => by match j, hj with | 0, _ => rfl | 1, _ => rfl | 2, _ => rfl) (Nat.le_of_ble_eq_true rfl) (Nat.le_of_ble_eq_true rfl) dX4_init_5 (fun q1 H hq1 hS => ?_)
  have hv := hv q1 hq1
  refine lv_dup hx hb dX4_init_8 rfl ?_
  refine fw_callIN hx hb hml hown hts hK hZ hS [] [.ref q1, .ref h] hv ggX4_init_X0_init rfl 0 hZ.1 mm_X4_init_5 mm_X4_init_6 rfl (by decide +kernel) ⟨Nat.le_of_ble_eq_true rfl, Nat.le_of_ble_eq_true rfl⟩ rfl hl.1 rfl (Nat.le_of_ble_eq_true rfl) dX4_init_9 ⟨(Nat.le_of_ble_eq_true rfl), (Nat.le_of_ble_eq_true rfl)⟩ (fun f2 H locs hv hS => ?_)
  obtain ⟨f3, ef3, hv⟩ := hv
  refine fw_putF hx hb hts ii_X4_init_X4 tyX4 tyX4_ok nmX4 hown hK hS 2 ef3 rfl (by decide) mm_X4_init_7 rfl rfl hnm rfl rfl rfl dX4_init_12 (fun H locs hS => ?_)
  refine lv_aload_n hx hb dX4_init_15 rfl (lv_at hl 0 rfl) ?_
  refine fw_new hx hb hts ii_X4_init_X0 tyX0 tyX0_ok hown mm_X4_init_3 mm_X4_init_4 mm_X4_init_5 hK hS (ci := 0) rfl [.int 0, .null, .null] (fun j hj => by match j, hj with | 0, _ => rfl | 1, _ => rfl | 2, _ => rfl) (Nat.le_of_ble_eq_true rfl) (Nat.le_of_ble_eq_true rfl) dX4_init_16 (fun q4 H hq4 hS => ?_)
  have hv := hv q4 hq4
  refine lv_dup hx hb dX4_init_19 rfl ?_
  refine fw_callIN hx hb hml hown hts hK hZ hS [] [.ref q4, .ref h] hv ggX4_init_X0_init rfl 0 hZ.1 mm_X4_init_5 mm_X4_init_6 rfl (by decide +kernel) ⟨Nat.le_of_ble_eq_true rfl, Nat.le_of_ble_eq_true rfl⟩ rfl hl.1 rfl (Nat.le_of_ble_eq_true rfl) dX4_init_20 ⟨(Nat.le_of_ble_eq_true rfl), (Nat.le_of_ble_eq_true rfl)⟩ (fun f5 H locs hv hS => ?_)
  obtain ⟨f6, ef6, hv⟩ := hv
  refine fw_putF hx hb hts ii_X4_init_X4 tyX4 tyX4_ok nmX4 hown hK hS 3 ef6 rfl (by decide) mm_X4_init_8 rfl rfl hnm rfl rfl rfl dX4_init_23 (fun H locs hS => ?_)
  refine lv_aload_n hx hb dX4_init_26 rfl (lv_at hl 0 rfl) ?_
  refine fw_new hx hb hts ii_X4_init_X3 tyX3 tyX3_ok hown mm_X4_init_9 mm_X4_init_10 mm_X4_init_11 hK hS (ci := 3) rfl [.null, .null, .null] (fun j hj => by match j, hj with | 0, _ => rfl | 1, _ => rfl | 2, _ => rfl) (Nat.le_of_ble_eq_true rfl) (Nat.le_of_ble_eq_true rfl) dX4_init_27 (fun q7 H hq7 hS => ?_)
  have hv := hv q7 hq7
  refine lv_dup hx hb dX4_init_30 rfl ?_
  refine fw_callIN hx hb hml hown hts hK hZ hS [] [.ref q7, .ref h] hv ggX4_init_X3_init rfl 0 hZ.2.2.1 mm_X4_init_11 mm_X4_init_12 rfl (by decide +kernel) ⟨Nat.le_of_ble_eq_true rfl, Nat.le_of_ble_eq_true rfl⟩ rfl hl.1 rfl (Nat.le_of_ble_eq_true rfl) dX4_init_31 ⟨(Nat.le_of_ble_eq_true rfl), (Nat.le_of_ble_eq_true rfl)⟩ (fun f8 H locs hv hS => ?_)
  obtain ⟨f9, ef9, hv⟩ := hv
  refine fw_putF hx hb hts ii_X4_init_X4 tyX4 tyX4_ok nmX4 hown hK hS 4 ef9 rfl (by decide) mm_X4_init_13 rfl rfl hnm rfl rfl rfl dX4_init_34 (fun H locs hS => ?_)
  refine lv_aload_n hx hb dX4_init_37 rfl (lv_at hl 0 rfl) ?_
  refine fw_new hx hb hts ii_X4_init_X2 tyX2 tyX2_ok hown mm_X4_init_14 mm_X4_init_15 mm_X4_init_16 hK hS (ci := 2) rfl [.long 0, .long 0, .long 0, .long 0, .null, .null, .null, .null, .null, .null, .null] (fun j hj => by match j, hj with | 0, _ => rfl | 1, _ => rfl | 2, _ => rfl | 3, _ => rfl | 4, _ => rfl | 5, _ => rfl | 6, _ => rfl | 7, _ => rfl | 8, _ => rfl | 9, _ => rfl | 10, _ => rfl) (Nat.le_of_ble_eq_true rfl) (Nat.le_of_ble_eq_true rfl) dX4_init_38 (fun q10 H hq10 hS => ?_)
  have hv := hv q10 hq10
  refine lv_dup hx hb dX4_init_41 rfl ?_
  refine fw_callIN hx hb hml hown hts hK hZ hS [] [.ref q10, .ref h] hv ggX4_init_X2_init rfl 0 hZ.2.2.2.2.1 mm_X4_init_16 mm_X4_init_17 rfl (by decide +kernel) ⟨Nat.le_of_ble_eq_true rfl, Nat.le_of_ble_eq_true rfl⟩ rfl hl.1 rfl (Nat.le_of_ble_eq_true rfl) dX4_init_42 ⟨(Nat.le_of_ble_eq_true rfl), (Nat.le_of_ble_eq_true rfl)⟩ (fun f11 H locs hv hS => ?_)
  obtain ⟨f12, ef12, hv⟩ := hv
  refine fw_putF hx hb hts ii_X4_init_X4 tyX4 tyX4_ok nmX4 hown hK hS 5 ef12 rfl (by decide) mm_X4_init_18 rfl rfl hnm rfl rfl rfl dX4_init_45 (fun H locs hS => ?_)
  refine lv_aload_n hx hb dX4_init_48 rfl (lv_at hl 0 rfl) ?_
  refine fw_new hx hb hts ii_X4_init_X1 tyX1 tyX1_ok hown mm_X4_init_19 mm_X4_init_20 mm_X4_init_21 hK hS (ci := 1) rfl [.null, .int 0] (fun j hj => by match j, hj with | 0, _ => rfl | 1, _ => rfl) (Nat.le_of_ble_eq_true rfl) (Nat.le_of_ble_eq_true rfl) dX4_init_49 (fun q13 H hq13 hS => ?_)
  have hv := hv q13 hq13
  refine lv_dup hx hb dX4_init_52 rfl ?_
  refine fw_callIN hx hb hml hown hts hK hZ hS [] [.ref q13, .ref h] hv ggX4_init_X1_init rfl 0 hZ.2.2.2.2.2.2.1 mm_X4_init_21 mm_X4_init_22 rfl (by decide +kernel) ⟨Nat.le_of_ble_eq_true rfl, Nat.le_of_ble_eq_true rfl⟩ rfl hl.1 rfl (Nat.le_of_ble_eq_true rfl) dX4_init_53 ⟨(Nat.le_of_ble_eq_true rfl), (Nat.le_of_ble_eq_true rfl)⟩ (fun f14 H locs hv hS => ?_)
  obtain ⟨f15, ef15, hv⟩ := hv
  refine fw_putF hx hb hts ii_X4_init_X4 tyX4 tyX4_ok nmX4 hown hK hS 6 ef15 rfl (by decide) mm_X4_init_23 rfl rfl hnm rfl rfl rfl dX4_init_56 (fun H locs hS => ?_)
  refine lv_aload_n hx hb dX4_init_59 rfl (lv_at hl 0 rfl) ?_
  refine fw_new hx hb hts ii_X4_init_X1 tyX1 tyX1_ok hown mm_X4_init_19 mm_X4_init_20 mm_X4_init_21 hK hS (ci := 1) rfl [.null, .int 0] (fun j hj => by match j, hj with | 0, _ => rfl | 1, _ => rfl) (Nat.le_of_ble_eq_true rfl) (Nat.le_of_ble_eq_true rfl) dX4_init_60 (fun q16 H hq16 hS => ?_)
  have hv := hv q16 hq16
  refine lv_dup hx hb dX4_init_63 rfl ?_
  refine fw_callIN hx hb hml hown hts hK hZ hS [] [.ref q16, .ref h] hv ggX4_init_X1_init rfl 0 hZ.2.2.2.2.2.2.1 mm_X4_init_21 mm_X4_init_22 rfl (by decide +kernel) ⟨Nat.le_of_ble_eq_true rfl, Nat.le_of_ble_eq_true rfl⟩ rfl hl.1 rfl (Nat.le_of_ble_eq_true rfl) dX4_init_64 ⟨(Nat.le_of_ble_eq_true rfl), (Nat.le_of_ble_eq_true rfl)⟩ (fun f17 H locs hv hS => ?_)
  obtain ⟨f18, ef18, hv⟩ := hv
  refine fw_putF hx hb hts ii_X4_init_X4 tyX4 tyX4_ok nmX4 hown hK hS 7 ef18 rfl (by decide) mm_X4_init_24 rfl rfl hnm rfl rfl rfl dX4_init_67 (fun H locs hS => ?_)
  refine lv_aload_n hx hb dX4_init_70 rfl (lv_at hl 0 rfl) ?_
  refine fw_new hx hb hts ii_X4_init_X1 tyX1 tyX1_ok hown mm_X4_init_19 mm_X4_init_20 mm_X4_init_21 hK hS (ci := 1) rfl [.null, .int 0] (fun j hj => by match j, hj with | 0, _ => rfl | 1, _ => rfl) (Nat.le_of_ble_eq_true rfl) (Nat.le_of_ble_eq_true rfl) dX4_init_71 (fun q19 H hq19 hS => ?_)
  have hv := hv q19 hq19
  refine lv_dup hx hb dX4_init_74 rfl ?_
  refine fw_callIN hx hb hml hown hts hK hZ hS [] [.ref q19, .ref h] hv ggX4_init_X1_init rfl 0 hZ.2.2.2.2.2.2.1 mm_X4_init_21 mm_X4_init_22 rfl (by decide +kernel) ⟨Nat.le_of_ble_eq_true rfl, Nat.le_of_ble_eq_true rfl⟩ rfl hl.1 rfl (Nat.le_of_ble_eq_true rfl) dX4_init_75 ⟨(Nat.le_of_ble_eq_true rfl), (Nat.le_of_ble_eq_true rfl)⟩ (fun f20 H locs hv hS => ?_)
  obtain ⟨f21, ef21, hv⟩ := hv
  refine fw_putF hx hb hts ii_X4_init_X4 tyX4 tyX4_ok nmX4 hown hK hS 8 ef21 rfl (by decide) mm_X4_init_25 rfl rfl hnm rfl rfl rfl dX4_init_78 (fun H locs hS => ?_)
  refine lv_aload_n hx hb dX4_init_81 rfl (lv_at hl 0 rfl) ?_
  refine fw_new hx hb hts ii_X4_init_X1 tyX1 tyX1_ok hown mm_X4_init_19 mm_X4_init_20 mm_X4_init_21 hK hS (ci := 1) rfl [.null, .int 0] (fun j hj => by match j, hj with | 0, _ => rfl | 1, _ => rfl) (Nat.le_of_ble_eq_true rfl) (Nat.le_of_ble_eq_true rfl) dX4_init_82 (fun q22 H hq22 hS => ?_)
  have hv := hv q22 hq22
  refine lv_dup hx hb dX4_init_85 rfl ?_
  refine fw_callIN hx hb hml hown hts hK hZ hS [] [.ref q22, .ref h] hv ggX4_init_X1_init rfl 0 hZ.2.2.2.2.2.2.1 mm_X4_init_21 mm_X4_init_22 rfl (by decide +kernel) ⟨Nat.le_of_ble_eq_true rfl, Nat.le_of_ble_eq_true rfl⟩ rfl hl.1 rfl (Nat.le_of_ble_eq_true rfl) dX4_init_86 ⟨(Nat.le_of_ble_eq_true rfl), (Nat.le_of_ble_eq_true rfl)⟩ (fun f23 H locs hv hS => ?_)
  obtain ⟨f24, ef24, hv⟩ := hv
  refine fw_putF hx hb hts ii_X4_init_X4 tyX4 tyX4_ok nmX4 hown hK hS 9 ef24 rfl (by decide) mm_X4_init_26 rfl rfl hnm rfl rfl rfl dX4_init_89 (fun H locs hS => ?_)
  refine lv_aload_n hx hb dX4_init_92 rfl (lv_at hl 0 rfl) ?_
  refine fw_new hx hb hts ii_X4_init_X1 tyX1 tyX1_ok hown mm_X4_init_19 mm_X4_init_20 mm_X4_init_21 hK hS (ci := 1) rfl [.null, .int 0] (fun j hj => by match j, hj with | 0, _ => rfl | 1, _ => rfl) (Nat.le_of_ble_eq_true rfl) (Nat.le_of_ble_eq_true rfl) dX4_init_93 (fun q25 H hq25 hS => ?_)
  have hv := hv q25 hq25
  refine lv_dup hx hb dX4_init_96 rfl ?_
  refine fw_callIN hx hb hml hown hts hK hZ hS [] [.ref q25, .ref h] hv ggX4_init_X1_init rfl 0 hZ.2.2.2.2.2.2.1 mm_X4_init_21 mm_X4_init_22 rfl (by decide +kernel) ⟨Nat.le_of_ble_eq_true rfl, Nat.le_of_ble_eq_true rfl⟩ rfl hl.1 rfl (Nat.le_of_ble_eq_true rfl) dX4_init_97 ⟨(Nat.le_of_ble_eq_true rfl), (Nat.le_of_ble_eq_true rfl)⟩ (fun f26 H locs hv hS => ?_)
  obtain ⟨f27, ef27, hv⟩ := hv
  refine fw_putF hx hb hts ii_X4_init_X4 tyX4 tyX4_ok nmX4 hown hK hS 10 ef27 rfl (by decide) mm_X4_init_27 rfl rfl hnm rfl rfl rfl dX4_init_100 (fun H locs hS => ?_)
  refine lv_aload_n hx hb dX4_init_103 rfl (lv_at hl 0 rfl) ?_
  refine fw_new hx hb hts ii_X4_init_X1 tyX1 tyX1_ok hown mm_X4_init_19 mm_X4_init_20 mm_X4_init_21 hK hS (ci := 1) rfl [.null, .int 0] (fun j hj => by match j, hj with | 0, _ => rfl | 1, _ => rfl) (Nat.le_of_ble_eq_true rfl) (Nat.le_of_ble_eq_true rfl) dX4_init_104 (fun q28 H hq28 hS => ?_)
  have hv := hv q28 hq28
  refine lv_dup hx hb dX4_init_107 rfl ?_
  refine fw_callIN hx hb hml hown hts hK hZ hS [] [.ref q28, .ref h] hv ggX4_init_X1_init rfl 0 hZ.2.2.2.2.2.2.1 mm_X4_init_21 mm_X4_init_22 rfl (by decide +kernel) ⟨Nat.le_of_ble_eq_true rfl, Nat.le_of_ble_eq_true rfl⟩ rfl hl.1 rfl (Nat.le_of_ble_eq_true rfl) dX4_init_108 ⟨(Nat.le_of_ble_eq_true rfl), (Nat.le_of_ble_eq_true rfl)⟩ (fun f29 H locs hv hS => ?_)
  obtain ⟨f30, ef30, hv⟩ := hv
  refine fw_putF hx hb hts ii_X4_init_X4 tyX4 tyX4_ok nmX4 hown hK hS 11 ef30 rfl (by decide) mm_X4_init_28 rfl rfl hnm rfl rfl rfl dX4_init_111 (fun H locs hS => ?_)
  refine lv_aload_n hx hb dX4_init_114 rfl (lv_at hl 0 rfl) ?_
  refine fw_new hx hb hts ii_X4_init_X1 tyX1 tyX1_ok hown mm_X4_init_19 mm_X4_init_20 mm_X4_init_21 hK hS (ci := 1) rfl [.null, .int 0] (fun j hj => by match j, hj with | 0, _ => rfl | 1, _ => rfl) (Nat.le_of_ble_eq_true rfl) (Nat.le_of_ble_eq_true rfl) dX4_init_115 (fun q31 H hq31 hS => ?_)
  have hv := hv q31 hq31
  refine lv_dup hx hb dX4_init_118 rfl ?_
  refine fw_callIN hx hb hml hown hts hK hZ hS [] [.ref q31, .ref h] hv ggX4_init_X1_init rfl 0 hZ.2.2.2.2.2.2.1 mm_X4_init_21 mm_X4_init_22 rfl (by decide +kernel) ⟨Nat.le_of_ble_eq_true rfl, Nat.le_of_ble_eq_true rfl⟩ rfl hl.1 rfl (Nat.le_of_ble_eq_true rfl) dX4_init_119 ⟨(Nat.le_of_ble_eq_true rfl), (Nat.le_of_ble_eq_true rfl)⟩ (fun f32 H locs hv hS => ?_)
  obtain ⟨f33, ef33, hv⟩ := hv
  refine fw_putF hx hb hts ii_X4_init_X4 tyX4 tyX4_ok nmX4 hown hK hS 12 ef33 rfl (by decide) mm_X4_init_29 rfl rfl hnm rfl rfl rfl dX4_init_122 (fun H locs hS => ?_)
  refine lv_aload_n hx hb dX4_init_125 rfl (lv_at hl 0 rfl) ?_
  refine fw_new hx hb hts ii_X4_init_X1 tyX1 tyX1_ok hown mm_X4_init_19 mm_X4_init_20 mm_X4_init_21 hK hS (ci := 1) rfl [.null, .int 0] (fun j hj => by match j, hj with | 0, _ => rfl | 1, _ => rfl) (Nat.le_of_ble_eq_true rfl) (Nat.le_of_ble_eq_true rfl) dX4_init_126 (fun q34 H hq34 hS => ?_)
  have hv := hv q34 hq34
  refine lv_dup hx hb dX4_init_129 rfl ?_
  refine fw_callIN hx hb hml hown hts hK hZ hS [] [.ref q34, .ref h] hv ggX4_init_X1_init rfl 0 hZ.2.2.2.2.2.2.1 mm_X4_init_21 mm_X4_init_22 rfl (by decide +kernel) ⟨Nat.le_of_ble_eq_true rfl, Nat.le_of_ble_eq_true rfl⟩ rfl hl.1 rfl (Nat.le_of_ble_eq_true rfl) dX4_init_130 ⟨(Nat.le_of_ble_eq_true rfl), (Nat.le_of_ble_eq_true rfl)⟩ (fun f35 H locs hv hS => ?_)
  obtain ⟨f36, ef36, hv⟩ := hv
  refine fw_putF hx hb hts ii_X4_init_X4 tyX4 tyX4_ok nmX4 hown hK hS 13 ef36 rfl (by decide) mm_X4_init_30 rfl rfl hnm rfl rfl rfl dX4_init_133 (fun H locs hS => ?_)
  refine lv_aload_n hx hb dX4_init_136 rfl (lv_at hl 0 rfl) ?_
  refine lv_iload_n hx hb dX4_init_137 rfl (lv_at hl 2 rfl) ?_
  refine lv_bipush (v := 8) hx hb dX4_init_138 (by decide) ?_
  refine fw_callSi hx hb hml hown hts hK hS [.int p2, .int (8 : Int32)] [.ref h] hv gX4_init_X4_sizeOrOne rfl rfl rfl 2 (by decide +kernel) ⟨Nat.le_of_ble_eq_true rfl, Nat.le_of_ble_eq_true rfl⟩ rfl hl.1 rfl (Nat.le_of_ble_eq_true rfl) dX4_init_140 ⟨(Nat.le_of_ble_eq_true rfl), (Nat.le_of_ble_eq_true rfl)⟩ (fun r38 f37 H locs hv hS => ?_)
  obtain ⟨f39, ef39, hv⟩ := hv
  refine fw_putF hx hb hts ii_X4_init_X4 tyX4 tyX4_ok nmX4 hown hK hS 0 ef39 rfl (by decide) mm_X4_init_31 rfl rfl hnm rfl rfl rfl dX4_init_143 (fun H locs hS => ?_)
  refine lv_aload_n hx hb dX4_init_146 rfl (lv_at hl 0 rfl) ?_
  refine lv_iload_n hx hb dX4_init_147 rfl (lv_at hl 1 rfl) ?_
  refine lv_bipush (v := 8) hx hb dX4_init_148 (by decide) ?_
  refine fw_callSi hx hb hml hown hts hK hS [.int p1, .int (8 : Int32)] [.ref h] hv gX4_init_X4_sizeOrOne rfl rfl rfl 2 (by decide +kernel) ⟨Nat.le_of_ble_eq_true rfl, Nat.le_of_ble_eq_true rfl⟩ rfl hl.1 rfl (Nat.le_of_ble_eq_true rfl) dX4_init_150 ⟨(Nat.le_of_ble_eq_true rfl), (Nat.le_of_ble_eq_true rfl)⟩ (fun r41 f40 H locs hv hS => ?_)
  obtain ⟨N43, ⟨hn1, hn2, hn3⟩, hv⟩ := hv
  refine fw_newq hx hb hts hown mm_X4_init_3 hZ.2.2.2.2.2.2.2 hK hS 1 rfl N43 hn1 hn2 (by omega) (Nat.le_of_ble_eq_true rfl) (by show 504 + N43 ≤ 935; omega) dX4_init_153 (fun q42 H hq42 hS => ?_)
  have hv := hv q42 hq42
  refine W.widen (k := 49) (n := 512) (Nat.le_of_ble_eq_true rfl) (by show 504 + N43 ≤ 512; omega) ?_
  obtain ⟨f44, ef44, hv⟩ := hv
  refine fw_putF hx hb hts ii_X4_init_X4 tyX4 tyX4_ok nmX4 hown hK hS 1 ef44 rfl (by decide) mm_X4_init_32 rfl rfl hnm rfl rfl rfl dX4_init_156 (fun H locs hS => ?_)
  refine lv_iconst (v := 0) hx hb dX4_init_159 (by decide) ?_
  refine lv_istore_n (lv' := [(3, .int (0 : Int32)), (0, .ref h), (1, .int p1), (2, .int p2)]) hx hb dX4_init_160 rfl hl (by decide) rfl (fun ls hl => ?_)
  exact hL161 _ _ _ _ _ _ _ _ hv (lv_sub hl [1, 2, 3, 0] rfl) hS
set_option maxRecDepth 100000 in
set_option maxHeartbeats 4000000 in
theorem R_X4_init_161 {E : cx} {p : Program} {e : Env} {s : State} {m : MethodId} {below : List Frame} {meth : Method} {c : Code} {f0 : hm} {zh : Nat} {zp1 : Int32} {zp2 : Int32} (C : wB E.2.1 vwCl (eT E) yX4_init cX4_init 4 none wsX4_init [.ref zh, .int zp1, .int zp2] f0 p s m meth c) (a_0 : Nat) (x_1 : Int32) (x_2 : Int32) (x_3 : Int32) (f : hm) {L161 : Nat → Int32 → Int32 → Int32 → hm → Prop} {K : hm → Prop} (hv : X_X4_init_161 E a_0 x_1 x_2 x_3 f L161 K) {ls : Array Slot} {H : Heap} {locs : List Loc} (hl : lv_has ls 4 [(0, .ref a_0), (1, .int x_1), (2, .int x_2), (3, .int x_3)]) (hS : wS E.2.1 vwCl (wA f0 s.heap.size) s.heap f H locs) (hZ : zN s) {cs ss : Nat} (hcs : cs ≤ 89) (hss : ss ≤ 888) (hL161 : ∀ (y_0 : Nat) (y_1 : Int32) (y_2 : Int32) (y_3 : Int32) (f : hm) (ls : Array Slot) (H : Heap) (locs : List Loc), L161 y_0 y_1 y_2 y_3 f → lv_has ls 4 [(0, .ref y_0), (1, .int y_1), (2, .int y_2), (3, .int y_3)] → wS E.2.1 vwCl (wA f0 s.heap.size) s.heap f H locs → W p E.1 e ({ frames := 3, cells := 94, slots := 935, locals := 52 }) s m ([.ref zh, .int zp1, .int zp2] : List Value).toArray below meth c H locs (cs + 5) (ss + 47) (MQ below (wQv f0 E.2.1 vwCl K s) ([.ref zh, .int zp1, .int zp2] : List Value).toArray s 94 935 (wA f0 s.heap.size)) (F0 m 161 ls [])) : W p E.1 e ({ frames := 3, cells := 94, slots := 935, locals := 52 }) s m ([.ref zh, .int zp1, .int zp2] : List Value).toArray below meth c H locs cs ss (MQ below (wQv f0 E.2.1 vwCl K s) ([.ref zh, .int zp1, .int zp2] : List Value).toArray s 94 935 (wA f0 s.heap.size)) (F0 m 161 ls []) := by
  obtain ⟨hx, hb, hml, hown, hts, hr, hlk, hnm, hK, -⟩ := C
  unfold X_X4_init_161 at hv
  refine lv_iload_n hx hb dX4_init_161 rfl (lv_at hl 3 rfl) ?_
  refine lv_aload_n hx hb dX4_init_162 rfl (lv_at hl 0 rfl) ?_
  obtain ⟨v1, ev1, hv⟩ := hv
  refine fw_get hx hb hts ii_X4_init_X4 hown hK hS 1 ev1 rfl (by decide) mm_X4_init_32 rfl dX4_init_163 ?_
  obtain ⟨n2, en2, hv⟩ := hv
  refine fw_alen hx hb hK hS 1 rfl en2 dX4_init_166 ?_
  refine lv_icmp_ge (tgt := 202) hx hb dX4_init_167 (by decide) (fun c3 => ?_) (fun c3 => ?_)
  · have hv := hv.1 c3
    refine W.widen (k := 94) (n := 935) (by show cs + 0 ≤ 94; omega) (by show ss + 0 ≤ 935; omega) ?_
    exact fw_vret hx hb hr hlk hS hv dX4_init_202
  · have hv := hv.2 c3
    refine lv_aload_n hx hb dX4_init_170 rfl (lv_at hl 0 rfl) ?_
    obtain ⟨v4, ev4, hv⟩ := hv
    refine fw_get hx hb hts ii_X4_init_X4 hown hK hS 1 ev4 rfl (by decide) mm_X4_init_32 rfl dX4_init_171 ?_
    refine lv_iload_n hx hb dX4_init_174 rfl (lv_at hl 3 rfl) ?_
    refine fw_new hx hb hts ii_X4_init_X0 tyX0 tyX0_ok hown mm_X4_init_3 mm_X4_init_4 mm_X4_init_5 hK hS (ci := 0) rfl [.int 0, .null, .null] (fun j hj => by match j, hj with | 0, _ => rfl | 1, _ => rfl | 2, _ => rfl) (by show cs + 1 ≤ 94; omega) (by show ss + 3 ≤ 935; omega) dX4_init_175 (fun q5 H hq5 hS => ?_)
    have hv := hv q5 hq5
    refine lv_dup hx hb dX4_init_178 rfl ?_
    refine fw_callIN hx hb hml hown hts hK hZ hS [] [.ref q5, .int x_3, .ref v4] hv ggX4_init_X0_init rfl 0 hZ.1 mm_X4_init_5 mm_X4_init_6 rfl (by decide +kernel) ⟨Nat.le_of_ble_eq_true rfl, Nat.le_of_ble_eq_true rfl⟩ rfl hl.1 rfl (Nat.le_of_ble_eq_true rfl) dX4_init_179 ⟨(by show cs + 5 ≤ 94; omega), (by show ss + 47 ≤ 935; omega)⟩ (fun f6 H locs hv hS => ?_)
    obtain ⟨ho8, f7, ef7, hv⟩ := hv
    refine fw_aast (r := (RX0, TX0, 3)) hx hb hK hS 1 rfl ef7 (ci := 0) rfl ho8 dX4_init_182 (fun H locs hS => ?_)
    refine lv_aload_n hx hb dX4_init_183 rfl (lv_at hl 0 rfl) ?_
    obtain ⟨v9, ev9, hv⟩ := hv
    refine fw_get hx hb hts ii_X4_init_X4 hown hK hS 1 ev9 rfl (by decide) mm_X4_init_32 rfl dX4_init_184 ?_
    refine lv_iload_n hx hb dX4_init_187 rfl (lv_at hl 3 rfl) ?_
    obtain ⟨v10, ev10, hv⟩ := hv
    refine fw_aald hx hb hK hS 1 rfl ev10 dX4_init_188 ?_
    obtain ⟨v11, ev11, hv⟩ := hv
    refine fw_get hx hb hts ii_X4_init_X0 hown hK hS 2 ev11 rfl (by decide) mm_X4_init_33 rfl dX4_init_189 ?_
    refine lv_lconst (v := 1) hx hb dX4_init_192 (by decide) ?_
    obtain ⟨ho12, hv⟩ := hv
    refine fw_callVv hx hb hml hown hts hK hS [.long (1 : Int64)] [] hv gX4_init_X1_become rfl rfl rfl 1 (by decide +kernel) ⟨Nat.le_of_ble_eq_true rfl, Nat.le_of_ble_eq_true rfl⟩ rfl rfl ho12 rfl hl.1 rfl (Nat.le_of_ble_eq_true rfl) dX4_init_193 ⟨(by show cs + 5 ≤ 94; omega), (by show ss + 47 ≤ 935; omega)⟩ (fun f13 H locs hv hS => ?_)
    obtain ⟨x14, ex14⟩ : ∃ y : Int32, y = x_3 + (1) := ⟨_, rfl⟩
    have hv := hv x14 ex14
    refine lv_iinc (v := x14) (lv' := [(3, .int x14), (0, .ref a_0), (1, .int x_1), (2, .int x_2)]) hx hb dX4_init_196 hl (k := 3) rfl (by rw [ex14]; rfl) (by decide) rfl (fun ls hl => ?_)
    refine lv_goto (tgt := 161) hx hb dX4_init_199 (by decide) ?_
    exact hL161 _ _ _ _ _ _ _ _ hv (lv_sub hl [1, 2, 3, 0] rfl) hS
set_option maxRecDepth 100000 in
set_option maxHeartbeats 4000000 in
theorem T_X4_init {E : cx} {h : Nat} {p1 : Int32} {p2 : Int32} {f : hm} {K : hm → Prop} (I161 : Nat → Nat → Int32 → Int32 → Int32 → hm → Prop) (h0 : X_X4_init_0 E h p1 p2 f (fun (y_0 : Nat) (y_1 : Int32) (y_2 : Int32) (y_3 : Int32) (f : hm) => ∃ k : Nat, k ≤ 8 ∧ I161 k y_0 y_1 y_2 y_3 f) K) (h161 : ∀ (n : Nat) (a_0 : Nat) (x_1 : Int32) (x_2 : Int32) (x_3 : Int32) (f : hm), I161 n a_0 x_1 x_2 x_3 f → X_X4_init_161 E a_0 x_1 x_2 x_3 f (fun (y_0 : Nat) (y_1 : Int32) (y_2 : Int32) (y_3 : Int32) (f : hm) => ∃ k : Nat, k < n ∧ I161 k y_0 y_1 y_2 y_3 f) K) : S_X4_init E h p1 p2 f K := by
  refine MZ_of (cc := cX4_init) (maxL := 4) (ret := none) (by decide) rfl ?_
  intro p e s m below meth c C hZ
  have hl := lv_entry ([.ref h, .int p1, .int p2]) (n := 4) (Nat.le_of_ble_eq_true rfl)
  rw [lg_entry_eq]
  generalize (lg_sl ([.ref h, .int p1, .int p2]) ++ List.replicate (4 - (lg_sl ([.ref h, .int p1, .int p2])).length) Slot.unset).toArray = ls at hl ⊢
  have hl : lv_has ls 4 [(0, .ref h), (1, .int p1), (2, .int p2)] := hl
  have hS := C.2.2.2.2.2.2.2.2.2
  have key : ∀ n : Nat, (∀ (a_0 : Nat) (x_1 : Int32) (x_2 : Int32) (x_3 : Int32) (g : hm) (ls : Array Slot) (H : Heap) (locs : List Loc), I161 n a_0 x_1 x_2 x_3 g → lv_has ls 4 [(0, .ref a_0), (1, .int x_1), (2, .int x_2), (3, .int x_3)] → wS E.2.1 vwCl (wA f s.heap.size) s.heap g H locs → ∀ cs ss : Nat, cs + 5 * n ≤ 89 → ss + 47 * n ≤ 888 → W p E.1 e ({ frames := 3, cells := 94, slots := 935, locals := 52 }) s m ([.ref h, .int p1, .int p2] : List Value).toArray below meth c H locs cs ss (MQ below (wQv f E.2.1 vwCl K s) ([.ref h, .int p1, .int p2] : List Value).toArray s 94 935 (wA f s.heap.size)) (F0 m 161 ls [])) := by
    refine st_ind (fun n ih => ?_)
    intro a_0 x_1 x_2 x_3 g ls H locs hI hl hS cs ss hcs hss
    exact R_X4_init_161 C a_0 x_1 x_2 x_3 g (h161 n a_0 x_1 x_2 x_3 g hI) hl hS hZ (cs := cs) (ss := ss) (by omega) (by omega) (fun _ _ _ _ _ _ _ _ hI hl hS => by obtain ⟨k, hk, hI⟩ := hI; exact (ih k hk) _ _ _ _ _ _ _ _ hI hl hS _ _ (by omega) (by omega))
  exact R_X4_init_0 C h p1 p2 f h0 hl hS hZ (fun _ _ _ _ _ _ _ _ hI hl hS => by obtain ⟨k, hk, hI⟩ := hI; exact (key k) _ _ _ _ _ _ _ _ hI hl hS _ _ (by omega) (by omega))
