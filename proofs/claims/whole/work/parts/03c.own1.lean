/-! By program (wip/whole/gen.py), out of the printed names: do not edit. -/
/-! ContinuedRatios$Fraction.become(LContinuedRatios$Fraction;)V -/
def S_X0_become (E : cx) (h : Nat) (p1 : Nat) (f : hm) (K : hm → Prop) : Prop := MV E.1 E.2.1 vwCl (eT E) yX0_become wsX0_become ({ frames := 2, cells := 0, slots := 0, locals := 43 }) [.ref h, .ref p1] f K
theorem mm_X0_become_0 : Cond.fieldLink RX0 7 "ContinuedRatios$Fraction" "signum" "I" ∈ wsX0_become := by decide +kernel
theorem mm_X0_become_1 : Cond.fieldLink RX0 16 "ContinuedRatios$Fraction" "upper" "LContinuedRatios$Natural;" ∈ wsX0_become := by decide +kernel
theorem mm_X0_become_2 : Cond.fieldLink RX0 20 "ContinuedRatios$Fraction" "lower" "LContinuedRatios$Natural;" ∈ wsX0_become := by decide +kernel
theorem ii_X0_become_X0 : ∀ w ∈ u_ws RX0 TX0 3, w ∈ wsX0_become := by decide +kernel
def X_X0_become_0 (E : cx) (h : Nat) (p1 : Nat) (f : hm)  (K : hm → Prop) : Prop :=
  (∃ v1 : Int32, rdV f p1 0 0 = some (.int v1) ∧ (∃ f2 : hm, wrV f h 0 0 (.int v1) = some f2 ∧ (∃ v3 : Nat, rdV f2 h 0 1 = some (.ref v3) ∧ (∃ v4 : Nat, rdV f2 p1 0 1 = some (.ref v4) ∧ (isO f2 v3 1 ∧ S_X1_become_ E v3 v4 f2 (fun (f6 : hm) => (∃ v7 : Nat, rdV f6 h 0 2 = some (.ref v7) ∧ (∃ v8 : Nat, rdV f6 p1 0 2 = some (.ref v8) ∧ (isO f6 v7 1 ∧ S_X1_become_ E v7 v8 f6 (fun (f10 : hm) => K f10))))))))))
set_option maxRecDepth 100000 in
set_option maxHeartbeats 4000000 in
theorem R_X0_become_0 {E : cx} {p : Program} {e : Env} {s : State} {m : MethodId} {below : List Frame} {meth : Method} {c : Code} {f0 : hm} {zh : Nat} {zp1 : Nat} (C : wB E.2.1 vwCl (eT E) yX0_become cX0_become 2 none wsX0_become [.ref zh, .ref zp1] f0 p s m meth c) (h : Nat) (p1 : Nat) (f : hm)  {K : hm → Prop} (hv : X_X0_become_0 E h p1 f  K) {ls : Array Slot} {H : Heap} {locs : List Loc} (hl : lv_has ls 2 [(0, .ref h), (1, .ref p1)]) (hS : wS E.2.1 vwCl (wA f0 s.heap.size) s.heap f H locs)  : W p E.1 e ({ frames := 2, cells := 0, slots := 0, locals := 43 }) s m ([.ref zh, .ref zp1] : List Value).toArray below meth c H locs 0 0 (MQ below (wQv f0 E.2.1 vwCl K s) ([.ref zh, .ref zp1] : List Value).toArray s 0 0 (wA f0 s.heap.size)) (F0 m 0 ls []) := by
  obtain ⟨hx, hb, hml, hown, hts, hr, hlk, hnm, hK, -⟩ := C
  unfold X_X0_become_0 at hv
  refine lv_aload_n hx hb dX0_become_0 rfl (lv_at hl 0 rfl) ?_
  refine lv_aload_n hx hb dX0_become_1 rfl (lv_at hl 1 rfl) ?_
  obtain ⟨v1, ev1, hv⟩ := hv
  refine fw_get hx hb hts ii_X0_become_X0 hown hK hS 0 ev1 rfl (by decide) mm_X0_become_0 rfl dX0_become_2 ?_
  obtain ⟨f2, ef2, hv⟩ := hv
  refine fw_put hx hb hts ii_X0_become_X0 tyX0 tyX0_ok nmX0 hown hK hS 0 ef2 rfl (by decide) mm_X0_become_0 rfl rfl rfl rfl dX0_become_5 (fun H locs hS => ?_)
  refine lv_aload_n hx hb dX0_become_8 rfl (lv_at hl 0 rfl) ?_
  obtain ⟨v3, ev3, hv⟩ := hv
  refine fw_get hx hb hts ii_X0_become_X0 hown hK hS 1 ev3 rfl (by decide) mm_X0_become_1 rfl dX0_become_9 ?_
  refine lv_aload_n hx hb dX0_become_12 rfl (lv_at hl 1 rfl) ?_
  obtain ⟨v4, ev4, hv⟩ := hv
  refine fw_get hx hb hts ii_X0_become_X0 hown hK hS 1 ev4 rfl (by decide) mm_X0_become_1 rfl dX0_become_13 ?_
  obtain ⟨ho5, hv⟩ := hv
  refine fw_callVv hx hb hml hown hts hK hS [.ref v4] [] hv gX0_become_X1_become_ rfl rfl rfl 1 (by decide +kernel) ⟨Nat.le_of_ble_eq_true rfl, Nat.le_of_ble_eq_true rfl⟩ rfl rfl ho5 rfl hl.1 rfl (Nat.le_of_ble_eq_true rfl) dX0_become_16 ⟨Nat.zero_le _, Nat.zero_le _⟩ (fun f6 H locs hv hS => ?_)
  refine lv_aload_n hx hb dX0_become_19 rfl (lv_at hl 0 rfl) ?_
  obtain ⟨v7, ev7, hv⟩ := hv
  refine fw_get hx hb hts ii_X0_become_X0 hown hK hS 2 ev7 rfl (by decide) mm_X0_become_2 rfl dX0_become_20 ?_
  refine lv_aload_n hx hb dX0_become_23 rfl (lv_at hl 1 rfl) ?_
  obtain ⟨v8, ev8, hv⟩ := hv
  refine fw_get hx hb hts ii_X0_become_X0 hown hK hS 2 ev8 rfl (by decide) mm_X0_become_2 rfl dX0_become_24 ?_
  obtain ⟨ho9, hv⟩ := hv
  refine fw_callVv hx hb hml hown hts hK hS [.ref v8] [] hv gX0_become_X1_become_ rfl rfl rfl 1 (by decide +kernel) ⟨Nat.le_of_ble_eq_true rfl, Nat.le_of_ble_eq_true rfl⟩ rfl rfl ho9 rfl hl.1 rfl (Nat.le_of_ble_eq_true rfl) dX0_become_27 ⟨Nat.zero_le _, Nat.zero_le _⟩ (fun f10 H locs hv hS => ?_)
  exact fw_vret hx hb hr hlk hS hv dX0_become_30
set_option maxRecDepth 100000 in
set_option maxHeartbeats 4000000 in
theorem T_X0_become {E : cx} {h : Nat} {p1 : Nat} {f : hm} {K : hm → Prop}  (h0 : X_X0_become_0 E h p1 f  K) : S_X0_become E h p1 f K := by
  refine MV_of (cc := cX0_become) (maxL := 2) (ret := none) (by decide) rfl ?_
  intro p e s m below meth c C
  have hl := lv_entry ([.ref h, .ref p1]) (n := 2) (Nat.le_of_ble_eq_true rfl)
  rw [lg_entry_eq]
  generalize (lg_sl ([.ref h, .ref p1]) ++ List.replicate (2 - (lg_sl ([.ref h, .ref p1])).length) Slot.unset).toArray = ls at hl ⊢
  have hl : lv_has ls 2 [(0, .ref h), (1, .ref p1)] := hl
  have hS := C.2.2.2.2.2.2.2.2.2
  exact R_X0_become_0 C h p1 f h0 hl hS
/-! ContinuedRatios$Reducer.reduce(LContinuedRatios$Natural;LContinuedRatios$Natural;)V -/
def S_X3_reduce (E : cx) (h : Nat) (p1 : Nat) (p2 : Nat) (f : hm) (K : hm → Prop) : Prop := MV E.1 E.2.1 vwCl (eT E) yX3_reduce wsX3_reduce ({ frames := 4, cells := 0, slots := 0, locals := 114 }) [.ref h, .ref p1, .ref p2] f K
theorem mm_X3_reduce_0 : Cond.fieldLink RX3 10 "ContinuedRatios$Reducer" "divisor" "LContinuedRatios$Natural;" ∈ wsX3_reduce := by decide +kernel
theorem mm_X3_reduce_1 : Cond.fieldLink RX3 16 "ContinuedRatios$Reducer" "other" "LContinuedRatios$Natural;" ∈ wsX3_reduce := by decide +kernel
theorem mm_X3_reduce_2 : Cond.constant RX3 26 (100000) ∈ wsX3_reduce := by decide +kernel
theorem mm_X3_reduce_3 : Cond.fieldLink RX3 19 "ContinuedRatios$Reducer" "quotient" "LContinuedRatios$Natural;" ∈ wsX3_reduce := by decide +kernel
theorem ii_X3_reduce_X3 : ∀ w ∈ u_ws RX3 TX3 3, w ∈ wsX3_reduce := by decide +kernel
def X_X3_reduce_0 (E : cx) (h : Nat) (p1 : Nat) (p2 : Nat) (f : hm) (L18 : Nat → Nat → Nat → Int32 → hm → Prop) (K : hm → Prop) : Prop :=
  (∃ v1 : Nat, rdV f h 3 0 = some (.ref v1) ∧ (isO f v1 1 ∧ S_X1_become_ E v1 p1 f (fun (f3 : hm) => (∃ v4 : Nat, rdV f3 h 3 1 = some (.ref v4) ∧ (isO f3 v4 1 ∧ S_X1_become_ E v4 p2 f3 (fun (f6 : hm) => L18 h p1 p2 (0 : Int32) f6))))))
def X_X3_reduce_18 (E : cx) (a_0 : Nat) (a_1 : Nat) (a_2 : Nat) (x_3 : Int32) (f : hm) (L18 : Nat → Nat → Nat → Int32 → hm → Prop) (K : hm → Prop) : Prop :=
  (((100000 : Int32) ≤ x_3 → (∃ v2 : Nat, rdV f a_0 3 0 = some (.ref v2) ∧ (isO f v2 1 ∧ S_X1_isOne E v2 f (fun (r5 : Int32) (f4 : hm) => ((¬ r5 = 0 → K f4) ∧ (r5 = 0 → (∃ v7 : Nat, rdV f4 a_0 3 0 = some (.ref v7) ∧ (∃ v8 : Nat, rdV f4 a_0 3 2 = some (.ref v8) ∧ (isO f4 a_1 1 ∧ S_X1_divide E a_1 v7 v8 f4 (fun (f10 : hm) => (∃ v11 : Nat, rdV f10 a_0 3 2 = some (.ref v11) ∧ (isO f10 a_1 1 ∧ S_X1_become_ E a_1 v11 f10 (fun (f13 : hm) => (∃ v14 : Nat, rdV f13 a_0 3 0 = some (.ref v14) ∧ (∃ v15 : Nat, rdV f13 a_0 3 2 = some (.ref v15) ∧ (isO f13 a_2 1 ∧ S_X1_divide E a_2 v14 v15 f13 (fun (f17 : hm) => (∃ v18 : Nat, rdV f17 a_0 3 2 = some (.ref v18) ∧ (isO f17 a_2 1 ∧ S_X1_become_ E a_2 v18 f17 (fun (f20 : hm) => K f20)))))))))))))))))))) ∧ (¬ ((100000 : Int32) ≤ x_3) → (∃ v21 : Nat, rdV f a_0 3 1 = some (.ref v21) ∧ (isO f v21 1 ∧ S_X1_isZero E v21 f (fun (r24 : Int32) (f23 : hm) => ((¬ r24 = 0 → (∃ v26 : Nat, rdV f23 a_0 3 0 = some (.ref v26) ∧ (isO f23 v26 1 ∧ S_X1_isOne E v26 f23 (fun (r29 : Int32) (f28 : hm) => ((¬ r29 = 0 → K f28) ∧ (r29 = 0 → (∃ v31 : Nat, rdV f28 a_0 3 0 = some (.ref v31) ∧ (∃ v32 : Nat, rdV f28 a_0 3 2 = some (.ref v32) ∧ (isO f28 a_1 1 ∧ S_X1_divide E a_1 v31 v32 f28 (fun (f34 : hm) => (∃ v35 : Nat, rdV f34 a_0 3 2 = some (.ref v35) ∧ (isO f34 a_1 1 ∧ S_X1_become_ E a_1 v35 f34 (fun (f37 : hm) => (∃ v38 : Nat, rdV f37 a_0 3 0 = some (.ref v38) ∧ (∃ v39 : Nat, rdV f37 a_0 3 2 = some (.ref v39) ∧ (isO f37 a_2 1 ∧ S_X1_divide E a_2 v38 v39 f37 (fun (f41 : hm) => (∃ v42 : Nat, rdV f41 a_0 3 2 = some (.ref v42) ∧ (isO f41 a_2 1 ∧ S_X1_become_ E a_2 v42 f41 (fun (f44 : hm) => K f44)))))))))))))))))))) ∧ (r24 = 0 → (∃ v45 : Nat, rdV f23 a_0 3 0 = some (.ref v45) ∧ (∃ v46 : Nat, rdV f23 a_0 3 1 = some (.ref v46) ∧ (∃ v47 : Nat, rdV f23 a_0 3 2 = some (.ref v47) ∧ (isO f23 v45 1 ∧ S_X1_divide E v45 v46 v47 f23 (fun (f49 : hm) => (∃ v50 : Nat, rdV f49 a_0 3 0 = some (.ref v50) ∧ (∃ v51 : Nat, rdV f49 a_0 3 1 = some (.ref v51) ∧ (∃ f52 : hm, wrV f49 a_0 3 0 (.ref v51) = some f52 ∧ (∃ f53 : hm, wrV f52 a_0 3 1 (.ref v50) = some f53 ∧ (∀ x54 : Int32, x54 = x_3 + (1) → L18 a_0 a_1 a_2 x54 f53)))))))))))))))))
set_option maxRecDepth 100000 in
set_option maxHeartbeats 4000000 in
theorem R_X3_reduce_0 {E : cx} {p : Program} {e : Env} {s : State} {m : MethodId} {below : List Frame} {meth : Method} {c : Code} {f0 : hm} {zh : Nat} {zp1 : Nat} {zp2 : Nat} (C : wB E.2.1 vwCl (eT E) yX3_reduce cX3_reduce 5 none wsX3_reduce [.ref zh, .ref zp1, .ref zp2] f0 p s m meth c) (h : Nat) (p1 : Nat) (p2 : Nat) (f : hm) {L18 : Nat → Nat → Nat → Int32 → hm → Prop} {K : hm → Prop} (hv : X_X3_reduce_0 E h p1 p2 f L18 K) {ls : Array Slot} {H : Heap} {locs : List Loc} (hl : lv_has ls 5 [(0, .ref h), (1, .ref p1), (2, .ref p2)]) (hS : wS E.2.1 vwCl (wA f0 s.heap.size) s.heap f H locs) (hL18 : ∀ (y_0 : Nat) (y_1 : Nat) (y_2 : Nat) (y_3 : Int32) (f : hm) (ls : Array Slot) (H : Heap) (locs : List Loc), L18 y_0 y_1 y_2 y_3 f → lv_has ls 5 [(0, .ref y_0), (1, .ref y_1), (2, .ref y_2), (3, .int y_3)] → wS E.2.1 vwCl (wA f0 s.heap.size) s.heap f H locs → W p E.1 e ({ frames := 4, cells := 0, slots := 0, locals := 114 }) s m ([.ref zh, .ref zp1, .ref zp2] : List Value).toArray below meth c H locs 0 0 (MQ below (wQv f0 E.2.1 vwCl K s) ([.ref zh, .ref zp1, .ref zp2] : List Value).toArray s 0 0 (wA f0 s.heap.size)) (F0 m 18 ls [])) : W p E.1 e ({ frames := 4, cells := 0, slots := 0, locals := 114 }) s m ([.ref zh, .ref zp1, .ref zp2] : List Value).toArray below meth c H locs 0 0 (MQ below (wQv f0 E.2.1 vwCl K s) ([.ref zh, .ref zp1, .ref zp2] : List Value).toArray s 0 0 (wA f0 s.heap.size)) (F0 m 0 ls []) := by
  obtain ⟨hx, hb, hml, hown, hts, hr, hlk, hnm, hK, -⟩ := C
  unfold X_X3_reduce_0 at hv
  refine lv_aload_n hx hb dX3_reduce_0 rfl (lv_at hl 0 rfl) ?_
  obtain ⟨v1, ev1, hv⟩ := hv
  refine fw_get hx hb hts ii_X3_reduce_X3 hown hK hS 0 ev1 rfl (by decide) mm_X3_reduce_0 rfl dX3_reduce_1 ?_
  refine lv_aload_n hx hb dX3_reduce_4 rfl (lv_at hl 1 rfl) ?_
  obtain ⟨ho2, hv⟩ := hv
  refine fw_callVv hx hb hml hown hts hK hS [.ref p1] [] hv gX3_reduce_X1_become_ rfl rfl rfl 1 (by decide +kernel) ⟨Nat.le_of_ble_eq_true rfl, Nat.le_of_ble_eq_true rfl⟩ rfl rfl ho2 rfl hl.1 rfl (Nat.le_of_ble_eq_true rfl) dX3_reduce_5 ⟨Nat.zero_le _, Nat.zero_le _⟩ (fun f3 H locs hv hS => ?_)
  refine lv_aload_n hx hb dX3_reduce_8 rfl (lv_at hl 0 rfl) ?_
  obtain ⟨v4, ev4, hv⟩ := hv
  refine fw_get hx hb hts ii_X3_reduce_X3 hown hK hS 1 ev4 rfl (by decide) mm_X3_reduce_1 rfl dX3_reduce_9 ?_
  refine lv_aload_n hx hb dX3_reduce_12 rfl (lv_at hl 2 rfl) ?_
  obtain ⟨ho5, hv⟩ := hv
  refine fw_callVv hx hb hml hown hts hK hS [.ref p2] [] hv gX3_reduce_X1_become_ rfl rfl rfl 1 (by decide +kernel) ⟨Nat.le_of_ble_eq_true rfl, Nat.le_of_ble_eq_true rfl⟩ rfl rfl ho5 rfl hl.1 rfl (Nat.le_of_ble_eq_true rfl) dX3_reduce_13 ⟨Nat.zero_le _, Nat.zero_le _⟩ (fun f6 H locs hv hS => ?_)
  refine lv_iconst (v := 0) hx hb dX3_reduce_16 (by decide) ?_
  refine lv_istore_n (lv' := [(3, .int (0 : Int32)), (0, .ref h), (1, .ref p1), (2, .ref p2)]) hx hb dX3_reduce_17 rfl hl (by decide) rfl (fun ls hl => ?_)
  exact hL18 _ _ _ _ _ _ _ _ hv (lv_sub hl [1, 2, 3, 0] rfl) hS
set_option maxRecDepth 100000 in
set_option maxHeartbeats 4000000 in
theorem R_X3_reduce_18 {E : cx} {p : Program} {e : Env} {s : State} {m : MethodId} {below : List Frame} {meth : Method} {c : Code} {f0 : hm} {zh : Nat} {zp1 : Nat} {zp2 : Nat} (C : wB E.2.1 vwCl (eT E) yX3_reduce cX3_reduce 5 none wsX3_reduce [.ref zh, .ref zp1, .ref zp2] f0 p s m meth c) (a_0 : Nat) (a_1 : Nat) (a_2 : Nat) (x_3 : Int32) (f : hm) {L18 : Nat → Nat → Nat → Int32 → hm → Prop} {K : hm → Prop} (hv : X_X3_reduce_18 E a_0 a_1 a_2 x_3 f L18 K) {ls : Array Slot} {H : Heap} {locs : List Loc} (hl : lv_has ls 5 [(0, .ref a_0), (1, .ref a_1), (2, .ref a_2), (3, .int x_3)]) (hS : wS E.2.1 vwCl (wA f0 s.heap.size) s.heap f H locs) (hL18 : ∀ (y_0 : Nat) (y_1 : Nat) (y_2 : Nat) (y_3 : Int32) (f : hm) (ls : Array Slot) (H : Heap) (locs : List Loc), L18 y_0 y_1 y_2 y_3 f → lv_has ls 5 [(0, .ref y_0), (1, .ref y_1), (2, .ref y_2), (3, .int y_3)] → wS E.2.1 vwCl (wA f0 s.heap.size) s.heap f H locs → W p E.1 e ({ frames := 4, cells := 0, slots := 0, locals := 114 }) s m ([.ref zh, .ref zp1, .ref zp2] : List Value).toArray below meth c H locs 0 0 (MQ below (wQv f0 E.2.1 vwCl K s) ([.ref zh, .ref zp1, .ref zp2] : List Value).toArray s 0 0 (wA f0 s.heap.size)) (F0 m 18 ls [])) : W p E.1 e ({ frames := 4, cells := 0, slots := 0, locals := 114 }) s m ([.ref zh, .ref zp1, .ref zp2] : List Value).toArray below meth c H locs 0 0 (MQ below (wQv f0 E.2.1 vwCl K s) ([.ref zh, .ref zp1, .ref zp2] : List Value).toArray s 0 0 (wA f0 s.heap.size)) (F0 m 18 ls []) := by
  obtain ⟨hx, hb, hml, hown, hts, hr, hlk, hnm, hK, -⟩ := C
  unfold X_X3_reduce_18 at hv
  refine lv_iload_n hx hb dX3_reduce_18 rfl (lv_at hl 3 rfl) ?_
  refine lv_ldc (v := (100000)) hx hb hown (hts _ mm_X3_reduce_2) dX3_reduce_19 ?_
  refine lv_icmp_ge (tgt := 75) hx hb dX3_reduce_21 (by decide) (fun c1 => ?_) (fun c1 => ?_)
  · have hv := hv.1 c1
    refine lv_aload_n hx hb dX3_reduce_75 rfl (lv_at hl 0 rfl) ?_
    obtain ⟨v2, ev2, hv⟩ := hv
    refine fw_get hx hb hts ii_X3_reduce_X3 hown hK hS 0 ev2 rfl (by decide) mm_X3_reduce_0 rfl dX3_reduce_76 ?_
    obtain ⟨ho3, hv⟩ := hv
    refine fw_callVi hx hb hml hown hts hK hS [] [] hv gX3_reduce_X1_isOne rfl rfl rfl 0 (by decide +kernel) ⟨Nat.le_of_ble_eq_true rfl, Nat.le_of_ble_eq_true rfl⟩ rfl rfl ho3 rfl hl.1 rfl (Nat.le_of_ble_eq_true rfl) dX3_reduce_79 ⟨Nat.zero_le _, Nat.zero_le _⟩ (fun r5 f4 H locs hv hS => ?_)
    refine lv_if_ne (tgt := 125) hx hb dX3_reduce_82 (by decide) (fun c6 => ?_) (fun c6 => ?_)
    · have hv := hv.1 c6
      exact fw_vret hx hb hr hlk hS hv dX3_reduce_125
    · have hv := hv.2 c6
      refine lv_aload_n hx hb dX3_reduce_85 rfl (lv_at hl 1 rfl) ?_
      refine lv_aload_n hx hb dX3_reduce_86 rfl (lv_at hl 0 rfl) ?_
      obtain ⟨v7, ev7, hv⟩ := hv
      refine fw_get hx hb hts ii_X3_reduce_X3 hown hK hS 0 ev7 rfl (by decide) mm_X3_reduce_0 rfl dX3_reduce_87 ?_
      refine lv_aload_n hx hb dX3_reduce_90 rfl (lv_at hl 0 rfl) ?_
      obtain ⟨v8, ev8, hv⟩ := hv
      refine fw_get hx hb hts ii_X3_reduce_X3 hown hK hS 2 ev8 rfl (by decide) mm_X3_reduce_3 rfl dX3_reduce_91 ?_
      obtain ⟨ho9, hv⟩ := hv
      refine fw_callVv hx hb hml hown hts hK hS [.ref v7, .ref v8] [] hv gX3_reduce_X1_divide rfl rfl rfl 2 (by decide +kernel) ⟨Nat.le_of_ble_eq_true rfl, Nat.le_of_ble_eq_true rfl⟩ rfl rfl ho9 rfl hl.1 rfl (Nat.le_of_ble_eq_true rfl) dX3_reduce_94 ⟨Nat.zero_le _, Nat.zero_le _⟩ (fun f10 H locs hv hS => ?_)
      refine lv_aload_n hx hb dX3_reduce_97 rfl (lv_at hl 1 rfl) ?_
      refine lv_aload_n hx hb dX3_reduce_98 rfl (lv_at hl 0 rfl) ?_
      obtain ⟨v11, ev11, hv⟩ := hv
      refine fw_get hx hb hts ii_X3_reduce_X3 hown hK hS 2 ev11 rfl (by decide) mm_X3_reduce_3 rfl dX3_reduce_99 ?_
      obtain ⟨ho12, hv⟩ := hv
      refine fw_callVv hx hb hml hown hts hK hS [.ref v11] [] hv gX3_reduce_X1_become_ rfl rfl rfl 1 (by decide +kernel) ⟨Nat.le_of_ble_eq_true rfl, Nat.le_of_ble_eq_true rfl⟩ rfl rfl ho12 rfl hl.1 rfl (Nat.le_of_ble_eq_true rfl) dX3_reduce_102 ⟨Nat.zero_le _, Nat.zero_le _⟩ (fun f13 H locs hv hS => ?_)
      refine lv_aload_n hx hb dX3_reduce_105 rfl (lv_at hl 2 rfl) ?_
      refine lv_aload_n hx hb dX3_reduce_106 rfl (lv_at hl 0 rfl) ?_
      obtain ⟨v14, ev14, hv⟩ := hv
      refine fw_get hx hb hts ii_X3_reduce_X3 hown hK hS 0 ev14 rfl (by decide) mm_X3_reduce_0 rfl dX3_reduce_107 ?_
      refine lv_aload_n hx hb dX3_reduce_110 rfl (lv_at hl 0 rfl) ?_
      obtain ⟨v15, ev15, hv⟩ := hv
      refine fw_get hx hb hts ii_X3_reduce_X3 hown hK hS 2 ev15 rfl (by decide) mm_X3_reduce_3 rfl dX3_reduce_111 ?_
      obtain ⟨ho16, hv⟩ := hv
      refine fw_callVv hx hb hml hown hts hK hS [.ref v14, .ref v15] [] hv gX3_reduce_X1_divide rfl rfl rfl 2 (by decide +kernel) ⟨Nat.le_of_ble_eq_true rfl, Nat.le_of_ble_eq_true rfl⟩ rfl rfl ho16 rfl hl.1 rfl (Nat.le_of_ble_eq_true rfl) dX3_reduce_114 ⟨Nat.zero_le _, Nat.zero_le _⟩ (fun f17 H locs hv hS => ?_)
      refine lv_aload_n hx hb dX3_reduce_117 rfl (lv_at hl 2 rfl) ?_
      refine lv_aload_n hx hb dX3_reduce_118 rfl (lv_at hl 0 rfl) ?_
      obtain ⟨v18, ev18, hv⟩ := hv
      refine fw_get hx hb hts ii_X3_reduce_X3 hown hK hS 2 ev18 rfl (by decide) mm_X3_reduce_3 rfl dX3_reduce_119 ?_
      obtain ⟨ho19, hv⟩ := hv
      refine fw_callVv hx hb hml hown hts hK hS [.ref v18] [] hv gX3_reduce_X1_become_ rfl rfl rfl 1 (by decide +kernel) ⟨Nat.le_of_ble_eq_true rfl, Nat.le_of_ble_eq_true rfl⟩ rfl rfl ho19 rfl hl.1 rfl (Nat.le_of_ble_eq_true rfl) dX3_reduce_122 ⟨Nat.zero_le _, Nat.zero_le _⟩ (fun f20 H locs hv hS => ?_)
      exact fw_vret hx hb hr hlk hS hv dX3_reduce_125
  · have hv := hv.2 c1
    refine lv_aload_n hx hb dX3_reduce_24 rfl (lv_at hl 0 rfl) ?_
    obtain ⟨v21, ev21, hv⟩ := hv
    refine fw_get hx hb hts ii_X3_reduce_X3 hown hK hS 1 ev21 rfl (by decide) mm_X3_reduce_1 rfl dX3_reduce_25 ?_
    obtain ⟨ho22, hv⟩ := hv
    refine fw_callVi hx hb hml hown hts hK hS [] [] hv gX3_reduce_X1_isZero rfl rfl rfl 0 (by decide +kernel) ⟨Nat.le_of_ble_eq_true rfl, Nat.le_of_ble_eq_true rfl⟩ rfl rfl ho22 rfl hl.1 rfl (Nat.le_of_ble_eq_true rfl) dX3_reduce_28 ⟨Nat.zero_le _, Nat.zero_le _⟩ (fun r24 f23 H locs hv hS => ?_)
    refine lv_if_ne (tgt := 75) hx hb dX3_reduce_31 (by decide) (fun c25 => ?_) (fun c25 => ?_)
    · have hv := hv.1 c25
      refine lv_aload_n hx hb dX3_reduce_75 rfl (lv_at hl 0 rfl) ?_
      obtain ⟨v26, ev26, hv⟩ := hv
      refine fw_get hx hb hts ii_X3_reduce_X3 hown hK hS 0 ev26 rfl (by decide) mm_X3_reduce_0 rfl dX3_reduce_76 ?_
      obtain ⟨ho27, hv⟩ := hv
      refine fw_callVi hx hb hml hown hts hK hS [] [] hv gX3_reduce_X1_isOne rfl rfl rfl 0 (by decide +kernel) ⟨Nat.le_of_ble_eq_true rfl, Nat.le_of_ble_eq_true rfl⟩ rfl rfl ho27 rfl hl.1 rfl (Nat.le_of_ble_eq_true rfl) dX3_reduce_79 ⟨Nat.zero_le _, Nat.zero_le _⟩ (fun r29 f28 H locs hv hS => ?_)
      refine lv_if_ne (tgt := 125) hx hb dX3_reduce_82 (by decide) (fun c30 => ?_) (fun c30 => ?_)
      · have hv := hv.1 c30
        exact fw_vret hx hb hr hlk hS hv dX3_reduce_125
      · have hv := hv.2 c30
        refine lv_aload_n hx hb dX3_reduce_85 rfl (lv_at hl 1 rfl) ?_
        refine lv_aload_n hx hb dX3_reduce_86 rfl (lv_at hl 0 rfl) ?_
        obtain ⟨v31, ev31, hv⟩ := hv
        refine fw_get hx hb hts ii_X3_reduce_X3 hown hK hS 0 ev31 rfl (by decide) mm_X3_reduce_0 rfl dX3_reduce_87 ?_
        refine lv_aload_n hx hb dX3_reduce_90 rfl (lv_at hl 0 rfl) ?_
        obtain ⟨v32, ev32, hv⟩ := hv
        refine fw_get hx hb hts ii_X3_reduce_X3 hown hK hS 2 ev32 rfl (by decide) mm_X3_reduce_3 rfl dX3_reduce_91 ?_
        obtain ⟨ho33, hv⟩ := hv
        refine fw_callVv hx hb hml hown hts hK hS [.ref v31, .ref v32] [] hv gX3_reduce_X1_divide rfl rfl rfl 2 (by decide +kernel) ⟨Nat.le_of_ble_eq_true rfl, Nat.le_of_ble_eq_true rfl⟩ rfl rfl ho33 rfl hl.1 rfl (Nat.le_of_ble_eq_true rfl) dX3_reduce_94 ⟨Nat.zero_le _, Nat.zero_le _⟩ (fun f34 H locs hv hS => ?_)
        refine lv_aload_n hx hb dX3_reduce_97 rfl (lv_at hl 1 rfl) ?_
        refine lv_aload_n hx hb dX3_reduce_98 rfl (lv_at hl 0 rfl) ?_
        obtain ⟨v35, ev35, hv⟩ := hv
        refine fw_get hx hb hts ii_X3_reduce_X3 hown hK hS 2 ev35 rfl (by decide) mm_X3_reduce_3 rfl dX3_reduce_99 ?_
        obtain ⟨ho36, hv⟩ := hv
        refine fw_callVv hx hb hml hown hts hK hS [.ref v35] [] hv gX3_reduce_X1_become_ rfl rfl rfl 1 (by decide +kernel) ⟨Nat.le_of_ble_eq_true rfl, Nat.le_of_ble_eq_true rfl⟩ rfl rfl ho36 rfl hl.1 rfl (Nat.le_of_ble_eq_true rfl) dX3_reduce_102 ⟨Nat.zero_le _, Nat.zero_le _⟩ (fun f37 H locs hv hS => ?_)
        refine lv_aload_n hx hb dX3_reduce_105 rfl (lv_at hl 2 rfl) ?_
        refine lv_aload_n hx hb dX3_reduce_106 rfl (lv_at hl 0 rfl) ?_
        obtain ⟨v38, ev38, hv⟩ := hv
        refine fw_get hx hb hts ii_X3_reduce_X3 hown hK hS 0 ev38 rfl (by decide) mm_X3_reduce_0 rfl dX3_reduce_107 ?_
        refine lv_aload_n hx hb dX3_reduce_110 rfl (lv_at hl 0 rfl) ?_
        obtain ⟨v39, ev39, hv⟩ := hv
        refine fw_get hx hb hts ii_X3_reduce_X3 hown hK hS 2 ev39 rfl (by decide) mm_X3_reduce_3 rfl dX3_reduce_111 ?_
        obtain ⟨ho40, hv⟩ := hv
        refine fw_callVv hx hb hml hown hts hK hS [.ref v38, .ref v39] [] hv gX3_reduce_X1_divide rfl rfl rfl 2 (by decide +kernel) ⟨Nat.le_of_ble_eq_true rfl, Nat.le_of_ble_eq_true rfl⟩ rfl rfl ho40 rfl hl.1 rfl (Nat.le_of_ble_eq_true rfl) dX3_reduce_114 ⟨Nat.zero_le _, Nat.zero_le _⟩ (fun f41 H locs hv hS => ?_)
        refine lv_aload_n hx hb dX3_reduce_117 rfl (lv_at hl 2 rfl) ?_
        refine lv_aload_n hx hb dX3_reduce_118 rfl (lv_at hl 0 rfl) ?_
        obtain ⟨v42, ev42, hv⟩ := hv
        refine fw_get hx hb hts ii_X3_reduce_X3 hown hK hS 2 ev42 rfl (by decide) mm_X3_reduce_3 rfl dX3_reduce_119 ?_
        obtain ⟨ho43, hv⟩ := hv
        refine fw_callVv hx hb hml hown hts hK hS [.ref v42] [] hv gX3_reduce_X1_become_ rfl rfl rfl 1 (by decide +kernel) ⟨Nat.le_of_ble_eq_true rfl, Nat.le_of_ble_eq_true rfl⟩ rfl rfl ho43 rfl hl.1 rfl (Nat.le_of_ble_eq_true rfl) dX3_reduce_122 ⟨Nat.zero_le _, Nat.zero_le _⟩ (fun f44 H locs hv hS => ?_)
        exact fw_vret hx hb hr hlk hS hv dX3_reduce_125
    · have hv := hv.2 c25
      refine lv_aload_n hx hb dX3_reduce_34 rfl (lv_at hl 0 rfl) ?_
      obtain ⟨v45, ev45, hv⟩ := hv
      refine fw_get hx hb hts ii_X3_reduce_X3 hown hK hS 0 ev45 rfl (by decide) mm_X3_reduce_0 rfl dX3_reduce_35 ?_
      refine lv_aload_n hx hb dX3_reduce_38 rfl (lv_at hl 0 rfl) ?_
      obtain ⟨v46, ev46, hv⟩ := hv
      refine fw_get hx hb hts ii_X3_reduce_X3 hown hK hS 1 ev46 rfl (by decide) mm_X3_reduce_1 rfl dX3_reduce_39 ?_
      refine lv_aload_n hx hb dX3_reduce_42 rfl (lv_at hl 0 rfl) ?_
      obtain ⟨v47, ev47, hv⟩ := hv
      refine fw_get hx hb hts ii_X3_reduce_X3 hown hK hS 2 ev47 rfl (by decide) mm_X3_reduce_3 rfl dX3_reduce_43 ?_
      obtain ⟨ho48, hv⟩ := hv
      refine fw_callVv hx hb hml hown hts hK hS [.ref v46, .ref v47] [] hv gX3_reduce_X1_divide rfl rfl rfl 2 (by decide +kernel) ⟨Nat.le_of_ble_eq_true rfl, Nat.le_of_ble_eq_true rfl⟩ rfl rfl ho48 rfl hl.1 rfl (Nat.le_of_ble_eq_true rfl) dX3_reduce_46 ⟨Nat.zero_le _, Nat.zero_le _⟩ (fun f49 H locs hv hS => ?_)
      refine lv_aload_n hx hb dX3_reduce_49 rfl (lv_at hl 0 rfl) ?_
      obtain ⟨v50, ev50, hv⟩ := hv
      refine fw_get hx hb hts ii_X3_reduce_X3 hown hK hS 0 ev50 rfl (by decide) mm_X3_reduce_0 rfl dX3_reduce_50 ?_
      refine lv_astore (lv' := [(4, .ref v50), (0, .ref a_0), (1, .ref a_1), (2, .ref a_2), (3, .int x_3)]) hx hb dX3_reduce_53 hl (by decide) rfl (fun ls hl => ?_)
      refine lv_aload_n hx hb dX3_reduce_55 rfl (lv_at hl 1 rfl) ?_
      refine lv_aload_n hx hb dX3_reduce_56 rfl (lv_at hl 1 rfl) ?_
      obtain ⟨v51, ev51, hv⟩ := hv
      refine fw_get hx hb hts ii_X3_reduce_X3 hown hK hS 1 ev51 rfl (by decide) mm_X3_reduce_1 rfl dX3_reduce_57 ?_
      obtain ⟨f52, ef52, hv⟩ := hv
      refine fw_put hx hb hts ii_X3_reduce_X3 tyX3 tyX3_ok nmX3 hown hK hS 0 ef52 rfl (by decide) mm_X3_reduce_0 rfl rfl rfl rfl dX3_reduce_60 (fun H locs hS => ?_)
      refine lv_aload_n hx hb dX3_reduce_63 rfl (lv_at hl 1 rfl) ?_
      refine lv_aload hx hb dX3_reduce_64 (lv_at hl 0 rfl) ?_
      obtain ⟨f53, ef53, hv⟩ := hv
      refine fw_put hx hb hts ii_X3_reduce_X3 tyX3 tyX3_ok nmX3 hown hK hS 1 ef53 rfl (by decide) mm_X3_reduce_1 rfl rfl rfl rfl dX3_reduce_66 (fun H locs hS => ?_)
      obtain ⟨x54, ex54⟩ : ∃ y : Int32, y = x_3 + (1) := ⟨_, rfl⟩
      have hv := hv x54 ex54
      refine lv_iinc (v := x54) (lv' := [(3, .int x54), (4, .ref v50), (0, .ref a_0), (1, .ref a_1), (2, .ref a_2)]) hx hb dX3_reduce_69 hl (k := 4) rfl (by rw [ex54]; rfl) (by decide) rfl (fun ls hl => ?_)
      refine lv_goto (tgt := 18) hx hb dX3_reduce_72 (by decide) ?_
      exact hL18 _ _ _ _ _ _ _ _ hv (lv_sub hl [2, 3, 4, 0] rfl) hS
set_option maxRecDepth 100000 in
set_option maxHeartbeats 4000000 in
theorem T_X3_reduce {E : cx} {h : Nat} {p1 : Nat} {p2 : Nat} {f : hm} {K : hm → Prop} (I18 : Nat → Nat → Nat → Nat → Int32 → hm → Prop) (h0 : X_X3_reduce_0 E h p1 p2 f (fun (y_0 : Nat) (y_1 : Nat) (y_2 : Nat) (y_3 : Int32) (f : hm) => ∃ k : Nat, I18 k y_0 y_1 y_2 y_3 f) K) (h18 : ∀ (n : Nat) (a_0 : Nat) (a_1 : Nat) (a_2 : Nat) (x_3 : Int32) (f : hm), I18 n a_0 a_1 a_2 x_3 f → X_X3_reduce_18 E a_0 a_1 a_2 x_3 f (fun (y_0 : Nat) (y_1 : Nat) (y_2 : Nat) (y_3 : Int32) (f : hm) => ∃ k : Nat, k < n ∧ I18 k y_0 y_1 y_2 y_3 f) K) : S_X3_reduce E h p1 p2 f K := by
  refine MV_of (cc := cX3_reduce) (maxL := 5) (ret := none) (by decide) rfl ?_
  intro p e s m below meth c C
  have hl := lv_entry ([.ref h, .ref p1, .ref p2]) (n := 5) (Nat.le_of_ble_eq_true rfl)
  rw [lg_entry_eq]
  generalize (lg_sl ([.ref h, .ref p1, .ref p2]) ++ List.replicate (5 - (lg_sl ([.ref h, .ref p1, .ref p2])).length) Slot.unset).toArray = ls at hl ⊢
  have hl : lv_has ls 5 [(0, .ref h), (1, .ref p1), (2, .ref p2)] := hl
  have hS := C.2.2.2.2.2.2.2.2.2
  have key : ∀ n : Nat, (∀ (a_0 : Nat) (a_1 : Nat) (a_2 : Nat) (x_3 : Int32) (g : hm) (ls : Array Slot) (H : Heap) (locs : List Loc), I18 n a_0 a_1 a_2 x_3 g → lv_has ls 5 [(0, .ref a_0), (1, .ref a_1), (2, .ref a_2), (3, .int x_3)] → wS E.2.1 vwCl (wA f s.heap.size) s.heap g H locs → W p E.1 e ({ frames := 4, cells := 0, slots := 0, locals := 114 }) s m ([.ref h, .ref p1, .ref p2] : List Value).toArray below meth c H locs 0 0 (MQ below (wQv f E.2.1 vwCl K s) ([.ref h, .ref p1, .ref p2] : List Value).toArray s 0 0 (wA f s.heap.size)) (F0 m 18 ls [])) := by
    refine st_ind (fun n ih => ?_)
    intro a_0 a_1 a_2 x_3 g ls H locs hI hl hS
    exact R_X3_reduce_18 C a_0 a_1 a_2 x_3 g (h18 n a_0 a_1 a_2 x_3 g hI) hl hS (fun _ _ _ _ _ _ _ _ hI hl hS => by obtain ⟨k, hk, hI⟩ := hI; exact (ih k hk) _ _ _ _ _ _ _ _ hI hl hS)
  exact R_X3_reduce_0 C h p1 p2 f h0 hl hS (fun _ _ _ _ _ _ _ _ hI hl hS => by obtain ⟨k, hI⟩ := hI; exact (key k) _ _ _ _ _ _ _ _ hI hl hS)
/-! ContinuedRatios$NearestSearch.moveOn(I)Z -/
def S_X2_moveOn (E : cx) (h : Nat) (p1 : Int32) (f : hm) (K : Int32 → hm → Prop) : Prop := MI E.1 E.2.1 vwCl (eT E) yX2_moveOn wsX2_moveOn ({ frames := 4, cells := 0, slots := 0, locals := 114 }) [.ref h, .int p1] f K
theorem mm_X2_moveOn_0 : Cond.fieldLink RX2 32 "ContinuedRatios$NearestSearch" "nextGap" "LContinuedRatios$Natural;" ∈ wsX2_moveOn := by decide +kernel
theorem mm_X2_moveOn_1 : Cond.fieldLink RX2 29 "ContinuedRatios$NearestSearch" "olderGap" "LContinuedRatios$Natural;" ∈ wsX2_moveOn := by decide +kernel
theorem mm_X2_moveOn_2 : Cond.fieldLink RX2 25 "ContinuedRatios$NearestSearch" "gap" "LContinuedRatios$Natural;" ∈ wsX2_moveOn := by decide +kernel
theorem mm_X2_moveOn_3 : Cond.fieldLink RX2 35 "ContinuedRatios$NearestSearch" "quotient" "LContinuedRatios$Natural;" ∈ wsX2_moveOn := by decide +kernel
theorem mm_X2_moveOn_4 : Cond.fieldLink RX2 19 "ContinuedRatios$NearestSearch" "olderLower" "J" ∈ wsX2_moveOn := by decide +kernel
theorem mm_X2_moveOn_5 : Cond.fieldLink RX2 13 "ContinuedRatios$NearestSearch" "lower" "J" ∈ wsX2_moveOn := by decide +kernel
theorem mm_X2_moveOn_6 : Cond.fieldLink RX2 16 "ContinuedRatios$NearestSearch" "olderUpper" "J" ∈ wsX2_moveOn := by decide +kernel
theorem mm_X2_moveOn_7 : Cond.fieldLink RX2 7 "ContinuedRatios$NearestSearch" "upper" "J" ∈ wsX2_moveOn := by decide +kernel
theorem ii_X2_moveOn_X2 : ∀ w ∈ u_ws RX2 TX2 11, w ∈ wsX2_moveOn := by decide +kernel
def X_X2_moveOn_0 (E : cx) (h : Nat) (p1 : Int32) (f : hm)  (K : Int32 → hm → Prop) : Prop :=
  (∃ v1 : Nat, rdV f h 2 6 = some (.ref v1) ∧ (∃ v2 : Nat, rdV f h 2 5 = some (.ref v2) ∧ (isO f v1 1 ∧ S_X1_become_ E v1 v2 f (fun (f4 : hm) => (∃ v5 : Nat, rdV f4 h 2 6 = some (.ref v5) ∧ (∃ v6 : Nat, rdV f4 h 2 4 = some (.ref v6) ∧ (∃ v7 : Nat, rdV f4 h 2 7 = some (.ref v7) ∧ (isO f4 v5 1 ∧ S_X1_divide E v5 v6 v7 f4 (fun (f9 : hm) => (∃ v10 : Nat, rdV f9 h 2 7 = some (.ref v10) ∧ (isO f9 v10 1 ∧ S_X1_capped E v10 f9 (fun (r13 : Int64) (f12 : hm) => (∃ v14 : Int64, rdV f12 h 2 3 = some (.long v14) ∧ (∃ v15 : Int64, rdV f12 h 2 1 = some (.long v15) ∧ (∀ x16 : Int64, x16 = (v14 + (r13 * v15)) → (((lg_cmp x16 p1.toInt64) ≤ 0 → (∃ v18 : Int64, rdV f12 h 2 2 = some (.long v18) ∧ (∃ v19 : Int64, rdV f12 h 2 0 = some (.long v19) ∧ (∀ x20 : Int64, x20 = (v18 + (r13 * v19)) → (∃ v21 : Nat, rdV f12 h 2 5 = some (.ref v21) ∧ (∃ v22 : Nat, rdV f12 h 2 4 = some (.ref v22) ∧ (∃ f23 : hm, wrV f12 h 2 5 (.ref v22) = some f23 ∧ (∃ v24 : Nat, rdV f23 h 2 6 = some (.ref v24) ∧ (∃ f25 : hm, wrV f23 h 2 4 (.ref v24) = some f25 ∧ (∃ f26 : hm, wrV f25 h 2 6 (.ref v21) = some f26 ∧ (∃ v27 : Int64, rdV f26 h 2 0 = some (.long v27) ∧ (∃ f28 : hm, wrV f26 h 2 2 (.long v27) = some f28 ∧ (∃ v29 : Int64, rdV f28 h 2 1 = some (.long v29) ∧ (∃ f30 : hm, wrV f28 h 2 3 (.long v29) = some f30 ∧ (∃ f31 : hm, wrV f30 h 2 0 (.long x20) = some f31 ∧ (∃ f32 : hm, wrV f31 h 2 1 (.long x16) = some f32 ∧ (narrow .boolean (.int (1 : Int32)) = .int (1 : Int32) ∧ K (1 : Int32) f32))))))))))))))))) ∧ (¬ ((lg_cmp x16 p1.toInt64) ≤ 0) → (narrow .boolean (.int (0 : Int32)) = .int (0 : Int32) ∧ K (0 : Int32) f12))))))))))))))))))
set_option maxRecDepth 100000 in
set_option maxHeartbeats 4000000 in
theorem R_X2_moveOn_0 {E : cx} {p : Program} {e : Env} {s : State} {m : MethodId} {below : List Frame} {meth : Method} {c : Code} {f0 : hm} {zh : Nat} {zp1 : Int32} (C : wB E.2.1 vwCl (eT E) yX2_moveOn cX2_moveOn 9 (some .boolean) wsX2_moveOn [.ref zh, .int zp1] f0 p s m meth c) (h : Nat) (p1 : Int32) (f : hm)  {K : Int32 → hm → Prop} (hv : X_X2_moveOn_0 E h p1 f  K) {ls : Array Slot} {H : Heap} {locs : List Loc} (hl : lv_has ls 9 [(0, .ref h), (1, .int p1)]) (hS : wS E.2.1 vwCl (wA f0 s.heap.size) s.heap f H locs)  : W p E.1 e ({ frames := 4, cells := 0, slots := 0, locals := 114 }) s m ([.ref zh, .int zp1] : List Value).toArray below meth c H locs 0 0 (MQ below (wQi f0 E.2.1 vwCl K s) ([.ref zh, .int zp1] : List Value).toArray s 0 0 (wA f0 s.heap.size)) (F0 m 0 ls []) := by
  obtain ⟨hx, hb, hml, hown, hts, hr, hlk, hnm, hK, -⟩ := C
  unfold X_X2_moveOn_0 at hv
  refine lv_aload_n hx hb dX2_moveOn_0 rfl (lv_at hl 0 rfl) ?_
  obtain ⟨v1, ev1, hv⟩ := hv
  refine fw_get hx hb hts ii_X2_moveOn_X2 hown hK hS 6 ev1 rfl (by decide) mm_X2_moveOn_0 rfl dX2_moveOn_1 ?_
  refine lv_aload_n hx hb dX2_moveOn_4 rfl (lv_at hl 0 rfl) ?_
  obtain ⟨v2, ev2, hv⟩ := hv
  refine fw_get hx hb hts ii_X2_moveOn_X2 hown hK hS 5 ev2 rfl (by decide) mm_X2_moveOn_1 rfl dX2_moveOn_5 ?_
  obtain ⟨ho3, hv⟩ := hv
  refine fw_callVv hx hb hml hown hts hK hS [.ref v2] [] hv gX2_moveOn_X1_become_ rfl rfl rfl 1 (by decide +kernel) ⟨Nat.le_of_ble_eq_true rfl, Nat.le_of_ble_eq_true rfl⟩ rfl rfl ho3 rfl hl.1 rfl (Nat.le_of_ble_eq_true rfl) dX2_moveOn_8 ⟨Nat.zero_le _, Nat.zero_le _⟩ (fun f4 H locs hv hS => ?_)
  refine lv_aload_n hx hb dX2_moveOn_11 rfl (lv_at hl 0 rfl) ?_
  obtain ⟨v5, ev5, hv⟩ := hv
  refine fw_get hx hb hts ii_X2_moveOn_X2 hown hK hS 6 ev5 rfl (by decide) mm_X2_moveOn_0 rfl dX2_moveOn_12 ?_
  refine lv_aload_n hx hb dX2_moveOn_15 rfl (lv_at hl 0 rfl) ?_
  obtain ⟨v6, ev6, hv⟩ := hv
  refine fw_get hx hb hts ii_X2_moveOn_X2 hown hK hS 4 ev6 rfl (by decide) mm_X2_moveOn_2 rfl dX2_moveOn_16 ?_
  refine lv_aload_n hx hb dX2_moveOn_19 rfl (lv_at hl 0 rfl) ?_
  obtain ⟨v7, ev7, hv⟩ := hv
  refine fw_get hx hb hts ii_X2_moveOn_X2 hown hK hS 7 ev7 rfl (by decide) mm_X2_moveOn_3 rfl dX2_moveOn_20 ?_
  obtain ⟨ho8, hv⟩ := hv
  refine fw_callVv hx hb hml hown hts hK hS [.ref v6, .ref v7] [] hv gX2_moveOn_X1_divide rfl rfl rfl 2 (by decide +kernel) ⟨Nat.le_of_ble_eq_true rfl, Nat.le_of_ble_eq_true rfl⟩ rfl rfl ho8 rfl hl.1 rfl (Nat.le_of_ble_eq_true rfl) dX2_moveOn_23 ⟨Nat.zero_le _, Nat.zero_le _⟩ (fun f9 H locs hv hS => ?_)
  refine lv_aload_n hx hb dX2_moveOn_26 rfl (lv_at hl 0 rfl) ?_
  obtain ⟨v10, ev10, hv⟩ := hv
  refine fw_get hx hb hts ii_X2_moveOn_X2 hown hK hS 7 ev10 rfl (by decide) mm_X2_moveOn_3 rfl dX2_moveOn_27 ?_
  obtain ⟨ho11, hv⟩ := hv
  refine fw_callVl hx hb hml hown hts hK hS [] [] hv gX2_moveOn_X1_capped rfl rfl rfl 0 (by decide +kernel) ⟨Nat.le_of_ble_eq_true rfl, Nat.le_of_ble_eq_true rfl⟩ rfl rfl ho11 rfl hl.1 rfl (Nat.le_of_ble_eq_true rfl) dX2_moveOn_30 ⟨Nat.zero_le _, Nat.zero_le _⟩ (fun r13 f12 H locs hv hS => ?_)
  refine lv_lstore_n (lv' := [(2, .long r13), (0, .ref h), (1, .int p1)]) hx hb dX2_moveOn_33 rfl hl (by decide) rfl (fun ls hl => ?_)
  refine lv_aload_n hx hb dX2_moveOn_34 rfl (lv_at hl 1 rfl) ?_
  obtain ⟨v14, ev14, hv⟩ := hv
  refine fw_get hx hb hts ii_X2_moveOn_X2 hown hK hS 3 ev14 rfl (by decide) mm_X2_moveOn_4 rfl dX2_moveOn_35 ?_
  refine lv_lload_n hx hb dX2_moveOn_38 rfl (lv_at hl 0 rfl) ?_
  refine lv_aload_n hx hb dX2_moveOn_39 rfl (lv_at hl 1 rfl) ?_
  obtain ⟨v15, ev15, hv⟩ := hv
  refine fw_get hx hb hts ii_X2_moveOn_X2 hown hK hS 1 ev15 rfl (by decide) mm_X2_moveOn_5 rfl dX2_moveOn_40 ?_
  refine lv_lmul hx hb dX2_moveOn_43 ?_
  refine lv_ladd hx hb dX2_moveOn_44 ?_
  refine lv_topl (fun x16 ex16 => ?_)
  have hv := hv x16 ex16
  refine lv_lstore (lv' := [(4, .long x16), (2, .long r13), (0, .ref h), (1, .int p1)]) hx hb dX2_moveOn_45 hl (by decide) rfl (fun ls hl => ?_)
  refine lv_lload hx hb dX2_moveOn_47 (lv_at hl 0 rfl) ?_
  refine lv_iload_n hx hb dX2_moveOn_49 rfl (lv_at hl 3 rfl) ?_
  refine lv_i2l hx hb dX2_moveOn_50 rfl ?_
  refine W.lcmp hx hb dX2_moveOn_51 ?_
  refine lv_if_le (tgt := 57) hx hb dX2_moveOn_52 (by decide) (fun c17 => ?_) (fun c17 => ?_)
  · have hv := hv.1 c17
    refine lv_aload_n hx hb dX2_moveOn_57 rfl (lv_at hl 2 rfl) ?_
    obtain ⟨v18, ev18, hv⟩ := hv
    refine fw_get hx hb hts ii_X2_moveOn_X2 hown hK hS 2 ev18 rfl (by decide) mm_X2_moveOn_6 rfl dX2_moveOn_58 ?_
    refine lv_lload_n hx hb dX2_moveOn_61 rfl (lv_at hl 1 rfl) ?_
    refine lv_aload_n hx hb dX2_moveOn_62 rfl (lv_at hl 2 rfl) ?_
    obtain ⟨v19, ev19, hv⟩ := hv
    refine fw_get hx hb hts ii_X2_moveOn_X2 hown hK hS 0 ev19 rfl (by decide) mm_X2_moveOn_7 rfl dX2_moveOn_63 ?_
    refine lv_lmul hx hb dX2_moveOn_66 ?_
    refine lv_ladd hx hb dX2_moveOn_67 ?_
    refine lv_topl (fun x20 ex20 => ?_)
    have hv := hv x20 ex20
    refine lv_lstore (lv' := [(6, .long x20), (4, .long x16), (2, .long r13), (0, .ref h), (1, .int p1)]) hx hb dX2_moveOn_68 hl (by decide) rfl (fun ls hl => ?_)
    refine lv_aload_n hx hb dX2_moveOn_70 rfl (lv_at hl 3 rfl) ?_
    obtain ⟨v21, ev21, hv⟩ := hv
    refine fw_get hx hb hts ii_X2_moveOn_X2 hown hK hS 5 ev21 rfl (by decide) mm_X2_moveOn_1 rfl dX2_moveOn_71 ?_
    refine lv_astore (lv' := [(8, .ref v21), (6, .long x20), (4, .long x16), (2, .long r13), (0, .ref h), (1, .int p1)]) hx hb dX2_moveOn_74 hl (by decide) rfl (fun ls hl => ?_)
    refine lv_aload_n hx hb dX2_moveOn_76 rfl (lv_at hl 4 rfl) ?_
    refine lv_aload_n hx hb dX2_moveOn_77 rfl (lv_at hl 4 rfl) ?_
    obtain ⟨v22, ev22, hv⟩ := hv
    refine fw_get hx hb hts ii_X2_moveOn_X2 hown hK hS 4 ev22 rfl (by decide) mm_X2_moveOn_2 rfl dX2_moveOn_78 ?_
    obtain ⟨f23, ef23, hv⟩ := hv
    refine fw_put hx hb hts ii_X2_moveOn_X2 tyX2 tyX2_ok nmX2 hown hK hS 5 ef23 rfl (by decide) mm_X2_moveOn_1 rfl rfl rfl rfl dX2_moveOn_81 (fun H locs hS => ?_)
    refine lv_aload_n hx hb dX2_moveOn_84 rfl (lv_at hl 4 rfl) ?_
    refine lv_aload_n hx hb dX2_moveOn_85 rfl (lv_at hl 4 rfl) ?_
    obtain ⟨v24, ev24, hv⟩ := hv
    refine fw_get hx hb hts ii_X2_moveOn_X2 hown hK hS 6 ev24 rfl (by decide) mm_X2_moveOn_0 rfl dX2_moveOn_86 ?_
    obtain ⟨f25, ef25, hv⟩ := hv
    refine fw_put hx hb hts ii_X2_moveOn_X2 tyX2 tyX2_ok nmX2 hown hK hS 4 ef25 rfl (by decide) mm_X2_moveOn_2 rfl rfl rfl rfl dX2_moveOn_89 (fun H locs hS => ?_)
    refine lv_aload_n hx hb dX2_moveOn_92 rfl (lv_at hl 4 rfl) ?_
    refine lv_aload hx hb dX2_moveOn_93 (lv_at hl 0 rfl) ?_
    obtain ⟨f26, ef26, hv⟩ := hv
    refine fw_put hx hb hts ii_X2_moveOn_X2 tyX2 tyX2_ok nmX2 hown hK hS 6 ef26 rfl (by decide) mm_X2_moveOn_0 rfl rfl rfl rfl dX2_moveOn_95 (fun H locs hS => ?_)
    refine lv_aload_n hx hb dX2_moveOn_98 rfl (lv_at hl 4 rfl) ?_
    refine lv_aload_n hx hb dX2_moveOn_99 rfl (lv_at hl 4 rfl) ?_
    obtain ⟨v27, ev27, hv⟩ := hv
    refine fw_get hx hb hts ii_X2_moveOn_X2 hown hK hS 0 ev27 rfl (by decide) mm_X2_moveOn_7 rfl dX2_moveOn_100 ?_
    obtain ⟨f28, ef28, hv⟩ := hv
    refine fw_put hx hb hts ii_X2_moveOn_X2 tyX2 tyX2_ok nmX2 hown hK hS 2 ef28 rfl (by decide) mm_X2_moveOn_6 rfl rfl rfl rfl dX2_moveOn_103 (fun H locs hS => ?_)
    refine lv_aload_n hx hb dX2_moveOn_106 rfl (lv_at hl 4 rfl) ?_
    refine lv_aload_n hx hb dX2_moveOn_107 rfl (lv_at hl 4 rfl) ?_
    obtain ⟨v29, ev29, hv⟩ := hv
    refine fw_get hx hb hts ii_X2_moveOn_X2 hown hK hS 1 ev29 rfl (by decide) mm_X2_moveOn_5 rfl dX2_moveOn_108 ?_
    obtain ⟨f30, ef30, hv⟩ := hv
    refine fw_put hx hb hts ii_X2_moveOn_X2 tyX2 tyX2_ok nmX2 hown hK hS 3 ef30 rfl (by decide) mm_X2_moveOn_4 rfl rfl rfl rfl dX2_moveOn_111 (fun H locs hS => ?_)
    refine lv_aload_n hx hb dX2_moveOn_114 rfl (lv_at hl 4 rfl) ?_
    refine lv_lload hx hb dX2_moveOn_115 (lv_at hl 1 rfl) ?_
    obtain ⟨f31, ef31, hv⟩ := hv
    refine fw_put hx hb hts ii_X2_moveOn_X2 tyX2 tyX2_ok nmX2 hown hK hS 0 ef31 rfl (by decide) mm_X2_moveOn_7 rfl rfl rfl rfl dX2_moveOn_117 (fun H locs hS => ?_)
    refine lv_aload_n hx hb dX2_moveOn_120 rfl (lv_at hl 4 rfl) ?_
    refine lv_lload hx hb dX2_moveOn_121 (lv_at hl 2 rfl) ?_
    obtain ⟨f32, ef32, hv⟩ := hv
    refine fw_put hx hb hts ii_X2_moveOn_X2 tyX2 tyX2_ok nmX2 hown hK hS 1 ef32 rfl (by decide) mm_X2_moveOn_5 rfl rfl rfl rfl dX2_moveOn_123 (fun H locs hS => ?_)
    refine lv_iconst (v := 1) hx hb dX2_moveOn_126 (by decide) ?_
    exact fw_zret hx hb hr hlk hS hv dX2_moveOn_127
  · have hv := hv.2 c17
    refine lv_iconst (v := 0) hx hb dX2_moveOn_55 (by decide) ?_
    exact fw_zret hx hb hr hlk hS hv dX2_moveOn_56
set_option maxRecDepth 100000 in
set_option maxHeartbeats 4000000 in
theorem T_X2_moveOn {E : cx} {h : Nat} {p1 : Int32} {f : hm} {K : Int32 → hm → Prop}  (h0 : X_X2_moveOn_0 E h p1 f  K) : S_X2_moveOn E h p1 f K := by
  refine MI_of (cc := cX2_moveOn) (maxL := 9) (ret := (some .boolean)) (by decide) rfl ?_
  intro p e s m below meth c C
  have hl := lv_entry ([.ref h, .int p1]) (n := 9) (Nat.le_of_ble_eq_true rfl)
  rw [lg_entry_eq]
  generalize (lg_sl ([.ref h, .int p1]) ++ List.replicate (9 - (lg_sl ([.ref h, .int p1])).length) Slot.unset).toArray = ls at hl ⊢
  have hl : lv_has ls 9 [(0, .ref h), (1, .int p1)] := hl
  have hS := C.2.2.2.2.2.2.2.2.2
  exact R_X2_moveOn_0 C h p1 f h0 hl hS
/-! ContinuedRatios$NearestSearch.isBetter(JJ)Z -/
def S_X2_isBetter (E : cx) (h : Nat) (p1 : Int64) (p2 : Int64) (f : hm) (K : Int32 → hm → Prop) : Prop := MI E.1 E.2.1 vwCl (eT E) yX2_isBetter wsX2_isBetter ({ frames := 3, cells := 0, slots := 0, locals := 74 }) [.ref h, .long p1, .long p2] f K
theorem mm_X2_isBetter_0 : Cond.fieldLink RX2 38 "ContinuedRatios$NearestSearch" "factor" "LContinuedRatios$Natural;" ∈ wsX2_isBetter := by decide +kernel
theorem mm_X2_isBetter_1 : Cond.fieldLink RX2 13 "ContinuedRatios$NearestSearch" "lower" "J" ∈ wsX2_isBetter := by decide +kernel
theorem mm_X2_isBetter_2 : Cond.fieldLink RX2 41 "ContinuedRatios$NearestSearch" "leftProduct" "LContinuedRatios$Natural;" ∈ wsX2_isBetter := by decide +kernel
theorem mm_X2_isBetter_3 : Cond.fieldLink RX2 32 "ContinuedRatios$NearestSearch" "nextGap" "LContinuedRatios$Natural;" ∈ wsX2_isBetter := by decide +kernel
theorem mm_X2_isBetter_4 : Cond.fieldLink RX2 44 "ContinuedRatios$NearestSearch" "rightProduct" "LContinuedRatios$Natural;" ∈ wsX2_isBetter := by decide +kernel
theorem mm_X2_isBetter_5 : Cond.fieldLink RX2 25 "ContinuedRatios$NearestSearch" "gap" "LContinuedRatios$Natural;" ∈ wsX2_isBetter := by decide +kernel
theorem mm_X2_isBetter_6 : Cond.fieldLink RX2 7 "ContinuedRatios$NearestSearch" "upper" "J" ∈ wsX2_isBetter := by decide +kernel
theorem ii_X2_isBetter_X2 : ∀ w ∈ u_ws RX2 TX2 11, w ∈ wsX2_isBetter := by decide +kernel
def X_X2_isBetter_0 (E : cx) (h : Nat) (p1 : Int64) (p2 : Int64) (f : hm)  (K : Int32 → hm → Prop) : Prop :=
  (∃ v1 : Nat, rdV f h 2 8 = some (.ref v1) ∧ (∃ v2 : Int64, rdV f h 2 1 = some (.long v2) ∧ (isO f v1 1 ∧ S_X1_become E v1 v2 f (fun (f4 : hm) => (∃ v5 : Nat, rdV f4 h 2 9 = some (.ref v5) ∧ (∃ v6 : Nat, rdV f4 h 2 6 = some (.ref v6) ∧ (∃ v7 : Nat, rdV f4 h 2 8 = some (.ref v7) ∧ (isO f4 v5 1 ∧ S_X1_becomeProduct E v5 v6 v7 f4 (fun (f9 : hm) => (∃ v10 : Nat, rdV f9 h 2 8 = some (.ref v10) ∧ (isO f9 v10 1 ∧ S_X1_become E v10 p2 f9 (fun (f12 : hm) => (∃ v13 : Nat, rdV f12 h 2 10 = some (.ref v13) ∧ (∃ v14 : Nat, rdV f12 h 2 4 = some (.ref v14) ∧ (∃ v15 : Nat, rdV f12 h 2 8 = some (.ref v15) ∧ (isO f12 v13 1 ∧ S_X1_becomeProduct E v13 v14 v15 f12 (fun (f17 : hm) => (∃ v18 : Nat, rdV f17 h 2 9 = some (.ref v18) ∧ (∃ v19 : Nat, rdV f17 h 2 10 = some (.ref v19) ∧ (isO f17 v18 1 ∧ S_X1_compareWith E v18 v19 f17 (fun (r22 : Int32) (f21 : hm) => ((r22 = 0 → (∃ v24 : Int64, rdV f21 h 2 1 = some (.long v24) ∧ (((lg_cmp p2 v24) = 0 → (∃ v26 : Int64, rdV f21 h 2 0 = some (.long v26) ∧ ((0 ≤ (lg_cmp p1 v26) → (narrow .boolean (.int (0 : Int32)) = .int (0 : Int32) ∧ K (0 : Int32) f21)) ∧ (¬ (0 ≤ (lg_cmp p1 v26)) → (narrow .boolean (.int (1 : Int32)) = .int (1 : Int32) ∧ K (1 : Int32) f21))))) ∧ (¬ ((lg_cmp p2 v24) = 0) → (∃ v28 : Int64, rdV f21 h 2 1 = some (.long v28) ∧ ((0 ≤ (lg_cmp p2 v28) → (narrow .boolean (.int (0 : Int32)) = .int (0 : Int32) ∧ K (0 : Int32) f21)) ∧ (¬ (0 ≤ (lg_cmp p2 v28)) → (narrow .boolean (.int (1 : Int32)) = .int (1 : Int32) ∧ K (1 : Int32) f21)))))))) ∧ (¬ (r22 = 0) → ((0 ≤ r22 → (narrow .boolean (.int (0 : Int32)) = .int (0 : Int32) ∧ K (0 : Int32) f21)) ∧ (¬ (0 ≤ r22) → (narrow .boolean (.int (1 : Int32)) = .int (1 : Int32) ∧ K (1 : Int32) f21))))))))))))))))))))))))))
set_option maxRecDepth 100000 in
set_option maxHeartbeats 4000000 in
theorem R_X2_isBetter_0 {E : cx} {p : Program} {e : Env} {s : State} {m : MethodId} {below : List Frame} {meth : Method} {c : Code} {f0 : hm} {zh : Nat} {zp1 : Int64} {zp2 : Int64} (C : wB E.2.1 vwCl (eT E) yX2_isBetter cX2_isBetter 6 (some .boolean) wsX2_isBetter [.ref zh, .long zp1, .long zp2] f0 p s m meth c) (h : Nat) (p1 : Int64) (p2 : Int64) (f : hm)  {K : Int32 → hm → Prop} (hv : X_X2_isBetter_0 E h p1 p2 f  K) {ls : Array Slot} {H : Heap} {locs : List Loc} (hl : lv_has ls 6 [(0, .ref h), (1, .long p1), (3, .long p2)]) (hS : wS E.2.1 vwCl (wA f0 s.heap.size) s.heap f H locs)  : W p E.1 e ({ frames := 3, cells := 0, slots := 0, locals := 74 }) s m ([.ref zh, .long zp1, .long zp2] : List Value).toArray below meth c H locs 0 0 (MQ below (wQi f0 E.2.1 vwCl K s) ([.ref zh, .long zp1, .long zp2] : List Value).toArray s 0 0 (wA f0 s.heap.size)) (F0 m 0 ls []) := by
  obtain ⟨hx, hb, hml, hown, hts, hr, hlk, hnm, hK, -⟩ := C
  unfold X_X2_isBetter_0 at hv
  refine lv_aload_n hx hb dX2_isBetter_0 rfl (lv_at hl 0 rfl) ?_
  obtain ⟨v1, ev1, hv⟩ := hv
  refine fw_get hx hb hts ii_X2_isBetter_X2 hown hK hS 8 ev1 rfl (by decide) mm_X2_isBetter_0 rfl dX2_isBetter_1 ?_
  refine lv_aload_n hx hb dX2_isBetter_4 rfl (lv_at hl 0 rfl) ?_
  obtain ⟨v2, ev2, hv⟩ := hv
  refine fw_get hx hb hts ii_X2_isBetter_X2 hown hK hS 1 ev2 rfl (by decide) mm_X2_isBetter_1 rfl dX2_isBetter_5 ?_
  obtain ⟨ho3, hv⟩ := hv
  refine fw_callVv hx hb hml hown hts hK hS [.long v2] [] hv gX2_isBetter_X1_become rfl rfl rfl 1 (by decide +kernel) ⟨Nat.le_of_ble_eq_true rfl, Nat.le_of_ble_eq_true rfl⟩ rfl rfl ho3 rfl hl.1 rfl (Nat.le_of_ble_eq_true rfl) dX2_isBetter_8 ⟨Nat.zero_le _, Nat.zero_le _⟩ (fun f4 H locs hv hS => ?_)
  refine lv_aload_n hx hb dX2_isBetter_11 rfl (lv_at hl 0 rfl) ?_
  obtain ⟨v5, ev5, hv⟩ := hv
  refine fw_get hx hb hts ii_X2_isBetter_X2 hown hK hS 9 ev5 rfl (by decide) mm_X2_isBetter_2 rfl dX2_isBetter_12 ?_
  refine lv_aload_n hx hb dX2_isBetter_15 rfl (lv_at hl 0 rfl) ?_
  obtain ⟨v6, ev6, hv⟩ := hv
  refine fw_get hx hb hts ii_X2_isBetter_X2 hown hK hS 6 ev6 rfl (by decide) mm_X2_isBetter_3 rfl dX2_isBetter_16 ?_
  refine lv_aload_n hx hb dX2_isBetter_19 rfl (lv_at hl 0 rfl) ?_
  obtain ⟨v7, ev7, hv⟩ := hv
  refine fw_get hx hb hts ii_X2_isBetter_X2 hown hK hS 8 ev7 rfl (by decide) mm_X2_isBetter_0 rfl dX2_isBetter_20 ?_
  obtain ⟨ho8, hv⟩ := hv
  refine fw_callVv hx hb hml hown hts hK hS [.ref v6, .ref v7] [] hv gX2_isBetter_X1_becomeProduct rfl rfl rfl 2 (by decide +kernel) ⟨Nat.le_of_ble_eq_true rfl, Nat.le_of_ble_eq_true rfl⟩ rfl rfl ho8 rfl hl.1 rfl (Nat.le_of_ble_eq_true rfl) dX2_isBetter_23 ⟨Nat.zero_le _, Nat.zero_le _⟩ (fun f9 H locs hv hS => ?_)
  refine lv_aload_n hx hb dX2_isBetter_26 rfl (lv_at hl 0 rfl) ?_
  obtain ⟨v10, ev10, hv⟩ := hv
  refine fw_get hx hb hts ii_X2_isBetter_X2 hown hK hS 8 ev10 rfl (by decide) mm_X2_isBetter_0 rfl dX2_isBetter_27 ?_
  refine lv_lload_n hx hb dX2_isBetter_30 rfl (lv_at hl 2 rfl) ?_
  obtain ⟨ho11, hv⟩ := hv
  refine fw_callVv hx hb hml hown hts hK hS [.long p2] [] hv gX2_isBetter_X1_become rfl rfl rfl 1 (by decide +kernel) ⟨Nat.le_of_ble_eq_true rfl, Nat.le_of_ble_eq_true rfl⟩ rfl rfl ho11 rfl hl.1 rfl (Nat.le_of_ble_eq_true rfl) dX2_isBetter_31 ⟨Nat.zero_le _, Nat.zero_le _⟩ (fun f12 H locs hv hS => ?_)
  refine lv_aload_n hx hb dX2_isBetter_34 rfl (lv_at hl 0 rfl) ?_
  obtain ⟨v13, ev13, hv⟩ := hv
  refine fw_get hx hb hts ii_X2_isBetter_X2 hown hK hS 10 ev13 rfl (by decide) mm_X2_isBetter_4 rfl dX2_isBetter_35 ?_
  refine lv_aload_n hx hb dX2_isBetter_38 rfl (lv_at hl 0 rfl) ?_
  obtain ⟨v14, ev14, hv⟩ := hv
  refine fw_get hx hb hts ii_X2_isBetter_X2 hown hK hS 4 ev14 rfl (by decide) mm_X2_isBetter_5 rfl dX2_isBetter_39 ?_
  refine lv_aload_n hx hb dX2_isBetter_42 rfl (lv_at hl 0 rfl) ?_
  obtain ⟨v15, ev15, hv⟩ := hv
  refine fw_get hx hb hts ii_X2_isBetter_X2 hown hK hS 8 ev15 rfl (by decide) mm_X2_isBetter_0 rfl dX2_isBetter_43 ?_
  obtain ⟨ho16, hv⟩ := hv
  refine fw_callVv hx hb hml hown hts hK hS [.ref v14, .ref v15] [] hv gX2_isBetter_X1_becomeProduct rfl rfl rfl 2 (by decide +kernel) ⟨Nat.le_of_ble_eq_true rfl, Nat.le_of_ble_eq_true rfl⟩ rfl rfl ho16 rfl hl.1 rfl (Nat.le_of_ble_eq_true rfl) dX2_isBetter_46 ⟨Nat.zero_le _, Nat.zero_le _⟩ (fun f17 H locs hv hS => ?_)
  refine lv_aload_n hx hb dX2_isBetter_49 rfl (lv_at hl 0 rfl) ?_
  obtain ⟨v18, ev18, hv⟩ := hv
  refine fw_get hx hb hts ii_X2_isBetter_X2 hown hK hS 9 ev18 rfl (by decide) mm_X2_isBetter_2 rfl dX2_isBetter_50 ?_
  refine lv_aload_n hx hb dX2_isBetter_53 rfl (lv_at hl 0 rfl) ?_
  obtain ⟨v19, ev19, hv⟩ := hv
  refine fw_get hx hb hts ii_X2_isBetter_X2 hown hK hS 10 ev19 rfl (by decide) mm_X2_isBetter_4 rfl dX2_isBetter_54 ?_
  obtain ⟨ho20, hv⟩ := hv
  refine fw_callVi hx hb hml hown hts hK hS [.ref v19] [] hv gX2_isBetter_X1_compareWith rfl rfl rfl 1 (by decide +kernel) ⟨Nat.le_of_ble_eq_true rfl, Nat.le_of_ble_eq_true rfl⟩ rfl rfl ho20 rfl hl.1 rfl (Nat.le_of_ble_eq_true rfl) dX2_isBetter_57 ⟨Nat.zero_le _, Nat.zero_le _⟩ (fun r22 f21 H locs hv hS => ?_)
  refine lv_istore (lv' := [(5, .int r22), (0, .ref h), (1, .long p1), (3, .long p2)]) hx hb dX2_isBetter_60 hl (by decide) rfl (fun ls hl => ?_)
  refine lv_iload hx hb dX2_isBetter_62 (lv_at hl 0 rfl) ?_
  refine lv_if_eq (tgt := 78) hx hb dX2_isBetter_64 (by decide) (fun c23 => ?_) (fun c23 => ?_)
  · have hv := hv.1 c23
    refine lv_lload_n hx hb dX2_isBetter_78 rfl (lv_at hl 3 rfl) ?_
    refine lv_aload_n hx hb dX2_isBetter_79 rfl (lv_at hl 1 rfl) ?_
    obtain ⟨v24, ev24, hv⟩ := hv
    refine fw_get hx hb hts ii_X2_isBetter_X2 hown hK hS 1 ev24 rfl (by decide) mm_X2_isBetter_1 rfl dX2_isBetter_80 ?_
    refine W.lcmp hx hb dX2_isBetter_83 ?_
    refine lv_if_eq (tgt := 104) hx hb dX2_isBetter_84 (by decide) (fun c25 => ?_) (fun c25 => ?_)
    · have hv := hv.1 c25
      refine lv_lload_n hx hb dX2_isBetter_104 rfl (lv_at hl 2 rfl) ?_
      refine lv_aload_n hx hb dX2_isBetter_105 rfl (lv_at hl 1 rfl) ?_
      obtain ⟨v26, ev26, hv⟩ := hv
      refine fw_get hx hb hts ii_X2_isBetter_X2 hown hK hS 0 ev26 rfl (by decide) mm_X2_isBetter_6 rfl dX2_isBetter_106 ?_
      refine W.lcmp hx hb dX2_isBetter_109 ?_
      refine lv_if_ge (tgt := 117) hx hb dX2_isBetter_110 (by decide) (fun c27 => ?_) (fun c27 => ?_)
      · have hv := hv.1 c27
        refine lv_iconst (v := 0) hx hb dX2_isBetter_117 (by decide) ?_
        exact fw_zret hx hb hr hlk hS hv dX2_isBetter_118
      · have hv := hv.2 c27
        refine lv_iconst (v := 1) hx hb dX2_isBetter_113 (by decide) ?_
        refine lv_goto (tgt := 118) hx hb dX2_isBetter_114 (by decide) ?_
        exact fw_zret hx hb hr hlk hS hv dX2_isBetter_118
    · have hv := hv.2 c25
      refine lv_lload_n hx hb dX2_isBetter_87 rfl (lv_at hl 3 rfl) ?_
      refine lv_aload_n hx hb dX2_isBetter_88 rfl (lv_at hl 1 rfl) ?_
      obtain ⟨v28, ev28, hv⟩ := hv
      refine fw_get hx hb hts ii_X2_isBetter_X2 hown hK hS 1 ev28 rfl (by decide) mm_X2_isBetter_1 rfl dX2_isBetter_89 ?_
      refine W.lcmp hx hb dX2_isBetter_92 ?_
      refine lv_if_ge (tgt := 100) hx hb dX2_isBetter_93 (by decide) (fun c29 => ?_) (fun c29 => ?_)
      · have hv := hv.1 c29
        refine lv_iconst (v := 0) hx hb dX2_isBetter_100 (by decide) ?_
        refine lv_goto (tgt := 118) hx hb dX2_isBetter_101 (by decide) ?_
        exact fw_zret hx hb hr hlk hS hv dX2_isBetter_118
      · have hv := hv.2 c29
        refine lv_iconst (v := 1) hx hb dX2_isBetter_96 (by decide) ?_
        refine lv_goto (tgt := 118) hx hb dX2_isBetter_97 (by decide) ?_
        exact fw_zret hx hb hr hlk hS hv dX2_isBetter_118
  · have hv := hv.2 c23
    refine lv_iload hx hb dX2_isBetter_67 (lv_at hl 0 rfl) ?_
    refine lv_if_ge (tgt := 76) hx hb dX2_isBetter_69 (by decide) (fun c30 => ?_) (fun c30 => ?_)
    · have hv := hv.1 c30
      refine lv_iconst (v := 0) hx hb dX2_isBetter_76 (by decide) ?_
      exact fw_zret hx hb hr hlk hS hv dX2_isBetter_77
    · have hv := hv.2 c30
      refine lv_iconst (v := 1) hx hb dX2_isBetter_72 (by decide) ?_
      refine lv_goto (tgt := 77) hx hb dX2_isBetter_73 (by decide) ?_
      exact fw_zret hx hb hr hlk hS hv dX2_isBetter_77
set_option maxRecDepth 100000 in
set_option maxHeartbeats 4000000 in
theorem T_X2_isBetter {E : cx} {h : Nat} {p1 : Int64} {p2 : Int64} {f : hm} {K : Int32 → hm → Prop}  (h0 : X_X2_isBetter_0 E h p1 p2 f  K) : S_X2_isBetter E h p1 p2 f K := by
  refine MI_of (cc := cX2_isBetter) (maxL := 6) (ret := (some .boolean)) (by decide) rfl ?_
  intro p e s m below meth c C
  have hl := lv_entry ([.ref h, .long p1, .long p2]) (n := 6) (Nat.le_of_ble_eq_true rfl)
  rw [lg_entry_eq]
  generalize (lg_sl ([.ref h, .long p1, .long p2]) ++ List.replicate (6 - (lg_sl ([.ref h, .long p1, .long p2])).length) Slot.unset).toArray = ls at hl ⊢
  have hl : lv_has ls 6 [(0, .ref h), (1, .long p1), (3, .long p2)] := hl
  have hS := C.2.2.2.2.2.2.2.2.2
  exact R_X2_isBetter_0 C h p1 p2 f h0 hl hS
/-! ContinuedRatios$NearestSearch.chooseNearer(I)V -/
def S_X2_chooseNearer (E : cx) (h : Nat) (p1 : Int32) (f : hm) (K : hm → Prop) : Prop := MV E.1 E.2.1 vwCl (eT E) yX2_chooseNearer wsX2_chooseNearer ({ frames := 4, cells := 0, slots := 0, locals := 99 }) [.ref h, .int p1] f K
theorem mm_X2_chooseNearer_0 : Cond.fieldLink RX2 13 "ContinuedRatios$NearestSearch" "lower" "J" ∈ wsX2_chooseNearer := by decide +kernel
theorem mm_X2_chooseNearer_1 : Cond.fieldLink RX2 19 "ContinuedRatios$NearestSearch" "olderLower" "J" ∈ wsX2_chooseNearer := by decide +kernel
theorem mm_X2_chooseNearer_2 : Cond.fieldLink RX2 16 "ContinuedRatios$NearestSearch" "olderUpper" "J" ∈ wsX2_chooseNearer := by decide +kernel
theorem mm_X2_chooseNearer_3 : Cond.fieldLink RX2 7 "ContinuedRatios$NearestSearch" "upper" "J" ∈ wsX2_chooseNearer := by decide +kernel
theorem mm_X2_chooseNearer_4 : Cond.fieldLink RX2 32 "ContinuedRatios$NearestSearch" "nextGap" "LContinuedRatios$Natural;" ∈ wsX2_chooseNearer := by decide +kernel
theorem mm_X2_chooseNearer_5 : Cond.fieldLink RX2 29 "ContinuedRatios$NearestSearch" "olderGap" "LContinuedRatios$Natural;" ∈ wsX2_chooseNearer := by decide +kernel
theorem mm_X2_chooseNearer_6 : Cond.fieldLink RX2 25 "ContinuedRatios$NearestSearch" "gap" "LContinuedRatios$Natural;" ∈ wsX2_chooseNearer := by decide +kernel
theorem ii_X2_chooseNearer_X2 : ∀ w ∈ u_ws RX2 TX2 11, w ∈ wsX2_chooseNearer := by decide +kernel
def X_X2_chooseNearer_0 (E : cx) (h : Nat) (p1 : Int32) (f : hm)  (K : hm → Prop) : Prop :=
  (∃ v1 : Int64, rdV f h 2 1 = some (.long v1) ∧ ((0 ≤ (lg_cmp v1 (1 : Int64)) → (∃ v3 : Int64, rdV f h 2 3 = some (.long v3) ∧ (∃ v4 : Int64, rdV f h 2 1 = some (.long v4) ∧ (¬ v4 = 0 ∧ (∀ x6 : Int64, x6 = ((p1.toInt64 - v3) / v4) → (∃ v7 : Int64, rdV f h 2 2 = some (.long v7) ∧ (∃ v8 : Int64, rdV f h 2 0 = some (.long v8) ∧ (∀ x9 : Int64, x9 = (v7 + (x6 * v8)) → (∃ v10 : Int64, rdV f h 2 3 = some (.long v10) ∧ (∃ v11 : Int64, rdV f h 2 1 = some (.long v11) ∧ (∀ x12 : Int64, x12 = (v10 + (x6 * v11)) → (∃ v13 : Nat, rdV f h 2 6 = some (.ref v13) ∧ (∃ v14 : Nat, rdV f h 2 5 = some (.ref v14) ∧ (isO f v13 1 ∧ S_X1_become_ E v13 v14 f (fun (f16 : hm) => (∃ v17 : Nat, rdV f16 h 2 6 = some (.ref v17) ∧ (∃ v18 : Nat, rdV f16 h 2 4 = some (.ref v18) ∧ (isO f16 v17 1 ∧ S_X1_takeAway E v17 v18 x6 f16 (fun (f20 : hm) => (isO f20 h 2 ∧ S_X2_isBetter E h x9 x12 f20 (fun (r23 : Int32) (f22 : hm) => ((r23 = 0 → K f22) ∧ (¬ (r23 = 0) → (∃ f25 : hm, wrV f22 h 2 0 (.long x9) = some f25 ∧ (∃ f26 : hm, wrV f25 h 2 1 (.long x12) = some f26 ∧ K f26))))))))))))))))))))))))) ∧ (¬ (0 ≤ (lg_cmp v1 (1 : Int64))) → (∃ v27 : Int64, rdV f h 2 2 = some (.long v27) ∧ (∃ v28 : Int64, rdV f h 2 0 = some (.long v28) ∧ (∀ x29 : Int64, x29 = (v27 + ((0 : Int64) * v28)) → (∃ v30 : Int64, rdV f h 2 3 = some (.long v30) ∧ (∃ v31 : Int64, rdV f h 2 1 = some (.long v31) ∧ (∀ x32 : Int64, x32 = (v30 + ((0 : Int64) * v31)) → (∃ v33 : Nat, rdV f h 2 6 = some (.ref v33) ∧ (∃ v34 : Nat, rdV f h 2 5 = some (.ref v34) ∧ (isO f v33 1 ∧ S_X1_become_ E v33 v34 f (fun (f36 : hm) => (∃ v37 : Nat, rdV f36 h 2 6 = some (.ref v37) ∧ (∃ v38 : Nat, rdV f36 h 2 4 = some (.ref v38) ∧ (isO f36 v37 1 ∧ S_X1_takeAway E v37 v38 (0 : Int64) f36 (fun (f40 : hm) => (isO f40 h 2 ∧ S_X2_isBetter E h x29 x32 f40 (fun (r43 : Int32) (f42 : hm) => ((r43 = 0 → K f42) ∧ (¬ (r43 = 0) → (∃ f45 : hm, wrV f42 h 2 0 (.long x29) = some f45 ∧ (∃ f46 : hm, wrV f45 h 2 1 (.long x32) = some f46 ∧ K f46)))))))))))))))))))))))
set_option maxRecDepth 100000 in
set_option maxHeartbeats 4000000 in
theorem R_X2_chooseNearer_0 {E : cx} {p : Program} {e : Env} {s : State} {m : MethodId} {below : List Frame} {meth : Method} {c : Code} {f0 : hm} {zh : Nat} {zp1 : Int32} (C : wB E.2.1 vwCl (eT E) yX2_chooseNearer cX2_chooseNearer 8 none wsX2_chooseNearer [.ref zh, .int zp1] f0 p s m meth c) (h : Nat) (p1 : Int32) (f : hm)  {K : hm → Prop} (hv : X_X2_chooseNearer_0 E h p1 f  K) {ls : Array Slot} {H : Heap} {locs : List Loc} (hl : lv_has ls 8 [(0, .ref h), (1, .int p1)]) (hS : wS E.2.1 vwCl (wA f0 s.heap.size) s.heap f H locs)  : W p E.1 e ({ frames := 4, cells := 0, slots := 0, locals := 99 }) s m ([.ref zh, .int zp1] : List Value).toArray below meth c H locs 0 0 (MQ below (wQv f0 E.2.1 vwCl K s) ([.ref zh, .int zp1] : List Value).toArray s 0 0 (wA f0 s.heap.size)) (F0 m 0 ls []) := by
  obtain ⟨hx, hb, hml, hown, hts, hr, hlk, hnm, hK, -⟩ := C
  unfold X_X2_chooseNearer_0 at hv
  refine lv_aload_n hx hb dX2_chooseNearer_0 rfl (lv_at hl 0 rfl) ?_
  obtain ⟨v1, ev1, hv⟩ := hv
  refine fw_get hx hb hts ii_X2_chooseNearer_X2 hown hK hS 1 ev1 rfl (by decide) mm_X2_chooseNearer_0 rfl dX2_chooseNearer_1 ?_
  refine lv_lconst (v := 1) hx hb dX2_chooseNearer_4 (by decide) ?_
  refine W.lcmp hx hb dX2_chooseNearer_5 ?_
  refine lv_if_ge (tgt := 13) hx hb dX2_chooseNearer_6 (by decide) (fun c2 => ?_) (fun c2 => ?_)
  · have hv := hv.1 c2
    refine lv_iload_n hx hb dX2_chooseNearer_13 rfl (lv_at hl 1 rfl) ?_
    refine lv_i2l hx hb dX2_chooseNearer_14 rfl ?_
    refine lv_aload_n hx hb dX2_chooseNearer_15 rfl (lv_at hl 0 rfl) ?_
    obtain ⟨v3, ev3, hv⟩ := hv
    refine fw_get hx hb hts ii_X2_chooseNearer_X2 hown hK hS 3 ev3 rfl (by decide) mm_X2_chooseNearer_1 rfl dX2_chooseNearer_16 ?_
    refine lv_lsub hx hb dX2_chooseNearer_19 ?_
    refine lv_aload_n hx hb dX2_chooseNearer_20 rfl (lv_at hl 0 rfl) ?_
    obtain ⟨v4, ev4, hv⟩ := hv
    refine fw_get hx hb hts ii_X2_chooseNearer_X2 hown hK hS 1 ev4 rfl (by decide) mm_X2_chooseNearer_0 rfl dX2_chooseNearer_21 ?_
    obtain ⟨hz5, hv⟩ := hv
    refine lv_ldiv hx hb dX2_chooseNearer_24 hz5 ?_
    refine lv_topl (fun x6 ex6 => ?_)
    have hv := hv x6 ex6
    refine lv_lstore_n (lv' := [(2, .long x6), (0, .ref h), (1, .int p1)]) hx hb dX2_chooseNearer_25 rfl hl (by decide) rfl (fun ls hl => ?_)
    refine lv_aload_n hx hb dX2_chooseNearer_26 rfl (lv_at hl 1 rfl) ?_
    obtain ⟨v7, ev7, hv⟩ := hv
    refine fw_get hx hb hts ii_X2_chooseNearer_X2 hown hK hS 2 ev7 rfl (by decide) mm_X2_chooseNearer_2 rfl dX2_chooseNearer_27 ?_
    refine lv_lload_n hx hb dX2_chooseNearer_30 rfl (lv_at hl 0 rfl) ?_
    refine lv_aload_n hx hb dX2_chooseNearer_31 rfl (lv_at hl 1 rfl) ?_
    obtain ⟨v8, ev8, hv⟩ := hv
    refine fw_get hx hb hts ii_X2_chooseNearer_X2 hown hK hS 0 ev8 rfl (by decide) mm_X2_chooseNearer_3 rfl dX2_chooseNearer_32 ?_
    refine lv_lmul hx hb dX2_chooseNearer_35 ?_
    refine lv_ladd hx hb dX2_chooseNearer_36 ?_
    refine lv_topl (fun x9 ex9 => ?_)
    have hv := hv x9 ex9
    refine lv_lstore (lv' := [(4, .long x9), (2, .long x6), (0, .ref h), (1, .int p1)]) hx hb dX2_chooseNearer_37 hl (by decide) rfl (fun ls hl => ?_)
    refine lv_aload_n hx hb dX2_chooseNearer_39 rfl (lv_at hl 2 rfl) ?_
    obtain ⟨v10, ev10, hv⟩ := hv
    refine fw_get hx hb hts ii_X2_chooseNearer_X2 hown hK hS 3 ev10 rfl (by decide) mm_X2_chooseNearer_1 rfl dX2_chooseNearer_40 ?_
    refine lv_lload_n hx hb dX2_chooseNearer_43 rfl (lv_at hl 1 rfl) ?_
    refine lv_aload_n hx hb dX2_chooseNearer_44 rfl (lv_at hl 2 rfl) ?_
    obtain ⟨v11, ev11, hv⟩ := hv
    refine fw_get hx hb hts ii_X2_chooseNearer_X2 hown hK hS 1 ev11 rfl (by decide) mm_X2_chooseNearer_0 rfl dX2_chooseNearer_45 ?_
    refine lv_lmul hx hb dX2_chooseNearer_48 ?_
    refine lv_ladd hx hb dX2_chooseNearer_49 ?_
    refine lv_topl (fun x12 ex12 => ?_)
    have hv := hv x12 ex12
    refine lv_lstore (lv' := [(6, .long x12), (4, .long x9), (2, .long x6), (0, .ref h), (1, .int p1)]) hx hb dX2_chooseNearer_50 hl (by decide) rfl (fun ls hl => ?_)
    refine lv_aload_n hx hb dX2_chooseNearer_52 rfl (lv_at hl 3 rfl) ?_
    obtain ⟨v13, ev13, hv⟩ := hv
    refine fw_get hx hb hts ii_X2_chooseNearer_X2 hown hK hS 6 ev13 rfl (by decide) mm_X2_chooseNearer_4 rfl dX2_chooseNearer_53 ?_
    refine lv_aload_n hx hb dX2_chooseNearer_56 rfl (lv_at hl 3 rfl) ?_
    obtain ⟨v14, ev14, hv⟩ := hv
    refine fw_get hx hb hts ii_X2_chooseNearer_X2 hown hK hS 5 ev14 rfl (by decide) mm_X2_chooseNearer_5 rfl dX2_chooseNearer_57 ?_
    obtain ⟨ho15, hv⟩ := hv
    refine fw_callVv hx hb hml hown hts hK hS [.ref v14] [] hv gX2_chooseNearer_X1_become_ rfl rfl rfl 1 (by decide +kernel) ⟨Nat.le_of_ble_eq_true rfl, Nat.le_of_ble_eq_true rfl⟩ rfl rfl ho15 rfl hl.1 rfl (Nat.le_of_ble_eq_true rfl) dX2_chooseNearer_60 ⟨Nat.zero_le _, Nat.zero_le _⟩ (fun f16 H locs hv hS => ?_)
    refine lv_aload_n hx hb dX2_chooseNearer_63 rfl (lv_at hl 3 rfl) ?_
    obtain ⟨v17, ev17, hv⟩ := hv
    refine fw_get hx hb hts ii_X2_chooseNearer_X2 hown hK hS 6 ev17 rfl (by decide) mm_X2_chooseNearer_4 rfl dX2_chooseNearer_64 ?_
    refine lv_aload_n hx hb dX2_chooseNearer_67 rfl (lv_at hl 3 rfl) ?_
    obtain ⟨v18, ev18, hv⟩ := hv
    refine fw_get hx hb hts ii_X2_chooseNearer_X2 hown hK hS 4 ev18 rfl (by decide) mm_X2_chooseNearer_6 rfl dX2_chooseNearer_68 ?_
    refine lv_lload_n hx hb dX2_chooseNearer_71 rfl (lv_at hl 2 rfl) ?_
    obtain ⟨ho19, hv⟩ := hv
    refine fw_callVv hx hb hml hown hts hK hS [.ref v18, .long x6] [] hv gX2_chooseNearer_X1_takeAway rfl rfl rfl 2 (by decide +kernel) ⟨Nat.le_of_ble_eq_true rfl, Nat.le_of_ble_eq_true rfl⟩ rfl rfl ho19 rfl hl.1 rfl (Nat.le_of_ble_eq_true rfl) dX2_chooseNearer_72 ⟨Nat.zero_le _, Nat.zero_le _⟩ (fun f20 H locs hv hS => ?_)
    refine lv_aload_n hx hb dX2_chooseNearer_75 rfl (lv_at hl 3 rfl) ?_
    refine lv_lload hx hb dX2_chooseNearer_76 (lv_at hl 1 rfl) ?_
    refine lv_lload hx hb dX2_chooseNearer_78 (lv_at hl 0 rfl) ?_
    obtain ⟨ho21, hv⟩ := hv
    refine fw_callVi hx hb hml hown hts hK hS [.long x9, .long x12] [] hv gX2_chooseNearer_X2_isBetter rfl rfl rfl 2 (by decide +kernel) ⟨Nat.le_of_ble_eq_true rfl, Nat.le_of_ble_eq_true rfl⟩ rfl rfl ho21 rfl hl.1 rfl (Nat.le_of_ble_eq_true rfl) dX2_chooseNearer_80 ⟨Nat.zero_le _, Nat.zero_le _⟩ (fun r23 f22 H locs hv hS => ?_)
    refine lv_if_eq (tgt := 98) hx hb dX2_chooseNearer_83 (by decide) (fun c24 => ?_) (fun c24 => ?_)
    · have hv := hv.1 c24
      exact fw_vret hx hb hr hlk hS hv dX2_chooseNearer_98
    · have hv := hv.2 c24
      refine lv_aload_n hx hb dX2_chooseNearer_86 rfl (lv_at hl 3 rfl) ?_
      refine lv_lload hx hb dX2_chooseNearer_87 (lv_at hl 1 rfl) ?_
      obtain ⟨f25, ef25, hv⟩ := hv
      refine fw_put hx hb hts ii_X2_chooseNearer_X2 tyX2 tyX2_ok nmX2 hown hK hS 0 ef25 rfl (by decide) mm_X2_chooseNearer_3 rfl rfl rfl rfl dX2_chooseNearer_89 (fun H locs hS => ?_)
      refine lv_aload_n hx hb dX2_chooseNearer_92 rfl (lv_at hl 3 rfl) ?_
      refine lv_lload hx hb dX2_chooseNearer_93 (lv_at hl 0 rfl) ?_
      obtain ⟨f26, ef26, hv⟩ := hv
      refine fw_put hx hb hts ii_X2_chooseNearer_X2 tyX2 tyX2_ok nmX2 hown hK hS 1 ef26 rfl (by decide) mm_X2_chooseNearer_0 rfl rfl rfl rfl dX2_chooseNearer_95 (fun H locs hS => ?_)
      exact fw_vret hx hb hr hlk hS hv dX2_chooseNearer_98
  · have hv := hv.2 c2
    refine lv_lconst (v := 0) hx hb dX2_chooseNearer_9 (by decide) ?_
    refine lv_goto (tgt := 25) hx hb dX2_chooseNearer_10 (by decide) ?_
    refine lv_lstore_n (lv' := [(2, .long (0 : Int64)), (0, .ref h), (1, .int p1)]) hx hb dX2_chooseNearer_25 rfl hl (by decide) rfl (fun ls hl => ?_)
    refine lv_aload_n hx hb dX2_chooseNearer_26 rfl (lv_at hl 1 rfl) ?_
    obtain ⟨v27, ev27, hv⟩ := hv
    refine fw_get hx hb hts ii_X2_chooseNearer_X2 hown hK hS 2 ev27 rfl (by decide) mm_X2_chooseNearer_2 rfl dX2_chooseNearer_27 ?_
    refine lv_lload_n hx hb dX2_chooseNearer_30 rfl (lv_at hl 0 rfl) ?_
    refine lv_aload_n hx hb dX2_chooseNearer_31 rfl (lv_at hl 1 rfl) ?_
    obtain ⟨v28, ev28, hv⟩ := hv
    refine fw_get hx hb hts ii_X2_chooseNearer_X2 hown hK hS 0 ev28 rfl (by decide) mm_X2_chooseNearer_3 rfl dX2_chooseNearer_32 ?_
    refine lv_lmul hx hb dX2_chooseNearer_35 ?_
    refine lv_ladd hx hb dX2_chooseNearer_36 ?_
    refine lv_topl (fun x29 ex29 => ?_)
    have hv := hv x29 ex29
    refine lv_lstore (lv' := [(4, .long x29), (2, .long (0 : Int64)), (0, .ref h), (1, .int p1)]) hx hb dX2_chooseNearer_37 hl (by decide) rfl (fun ls hl => ?_)
    refine lv_aload_n hx hb dX2_chooseNearer_39 rfl (lv_at hl 2 rfl) ?_
    obtain ⟨v30, ev30, hv⟩ := hv
    refine fw_get hx hb hts ii_X2_chooseNearer_X2 hown hK hS 3 ev30 rfl (by decide) mm_X2_chooseNearer_1 rfl dX2_chooseNearer_40 ?_
    refine lv_lload_n hx hb dX2_chooseNearer_43 rfl (lv_at hl 1 rfl) ?_
    refine lv_aload_n hx hb dX2_chooseNearer_44 rfl (lv_at hl 2 rfl) ?_
    obtain ⟨v31, ev31, hv⟩ := hv
    refine fw_get hx hb hts ii_X2_chooseNearer_X2 hown hK hS 1 ev31 rfl (by decide) mm_X2_chooseNearer_0 rfl dX2_chooseNearer_45 ?_
    refine lv_lmul hx hb dX2_chooseNearer_48 ?_
    refine lv_ladd hx hb dX2_chooseNearer_49 ?_
    refine lv_topl (fun x32 ex32 => ?_)
    have hv := hv x32 ex32
    refine lv_lstore (lv' := [(6, .long x32), (4, .long x29), (2, .long (0 : Int64)), (0, .ref h), (1, .int p1)]) hx hb dX2_chooseNearer_50 hl (by decide) rfl (fun ls hl => ?_)
    refine lv_aload_n hx hb dX2_chooseNearer_52 rfl (lv_at hl 3 rfl) ?_
    obtain ⟨v33, ev33, hv⟩ := hv
    refine fw_get hx hb hts ii_X2_chooseNearer_X2 hown hK hS 6 ev33 rfl (by decide) mm_X2_chooseNearer_4 rfl dX2_chooseNearer_53 ?_
    refine lv_aload_n hx hb dX2_chooseNearer_56 rfl (lv_at hl 3 rfl) ?_
    obtain ⟨v34, ev34, hv⟩ := hv
    refine fw_get hx hb hts ii_X2_chooseNearer_X2 hown hK hS 5 ev34 rfl (by decide) mm_X2_chooseNearer_5 rfl dX2_chooseNearer_57 ?_
    obtain ⟨ho35, hv⟩ := hv
    refine fw_callVv hx hb hml hown hts hK hS [.ref v34] [] hv gX2_chooseNearer_X1_become_ rfl rfl rfl 1 (by decide +kernel) ⟨Nat.le_of_ble_eq_true rfl, Nat.le_of_ble_eq_true rfl⟩ rfl rfl ho35 rfl hl.1 rfl (Nat.le_of_ble_eq_true rfl) dX2_chooseNearer_60 ⟨Nat.zero_le _, Nat.zero_le _⟩ (fun f36 H locs hv hS => ?_)
    refine lv_aload_n hx hb dX2_chooseNearer_63 rfl (lv_at hl 3 rfl) ?_
    obtain ⟨v37, ev37, hv⟩ := hv
    refine fw_get hx hb hts ii_X2_chooseNearer_X2 hown hK hS 6 ev37 rfl (by decide) mm_X2_chooseNearer_4 rfl dX2_chooseNearer_64 ?_
    refine lv_aload_n hx hb dX2_chooseNearer_67 rfl (lv_at hl 3 rfl) ?_
    obtain ⟨v38, ev38, hv⟩ := hv
    refine fw_get hx hb hts ii_X2_chooseNearer_X2 hown hK hS 4 ev38 rfl (by decide) mm_X2_chooseNearer_6 rfl dX2_chooseNearer_68 ?_
    refine lv_lload_n hx hb dX2_chooseNearer_71 rfl (lv_at hl 2 rfl) ?_
    obtain ⟨ho39, hv⟩ := hv
    refine fw_callVv hx hb hml hown hts hK hS [.ref v38, .long (0 : Int64)] [] hv gX2_chooseNearer_X1_takeAway rfl rfl rfl 2 (by decide +kernel) ⟨Nat.le_of_ble_eq_true rfl, Nat.le_of_ble_eq_true rfl⟩ rfl rfl ho39 rfl hl.1 rfl (Nat.le_of_ble_eq_true rfl) dX2_chooseNearer_72 ⟨Nat.zero_le _, Nat.zero_le _⟩ (fun f40 H locs hv hS => ?_)
    refine lv_aload_n hx hb dX2_chooseNearer_75 rfl (lv_at hl 3 rfl) ?_
    refine lv_lload hx hb dX2_chooseNearer_76 (lv_at hl 1 rfl) ?_
    refine lv_lload hx hb dX2_chooseNearer_78 (lv_at hl 0 rfl) ?_
    obtain ⟨ho41, hv⟩ := hv
    refine fw_callVi hx hb hml hown hts hK hS [.long x29, .long x32] [] hv gX2_chooseNearer_X2_isBetter rfl rfl rfl 2 (by decide +kernel) ⟨Nat.le_of_ble_eq_true rfl, Nat.le_of_ble_eq_true rfl⟩ rfl rfl ho41 rfl hl.1 rfl (Nat.le_of_ble_eq_true rfl) dX2_chooseNearer_80 ⟨Nat.zero_le _, Nat.zero_le _⟩ (fun r43 f42 H locs hv hS => ?_)
    refine lv_if_eq (tgt := 98) hx hb dX2_chooseNearer_83 (by decide) (fun c44 => ?_) (fun c44 => ?_)
    · have hv := hv.1 c44
      exact fw_vret hx hb hr hlk hS hv dX2_chooseNearer_98
    · have hv := hv.2 c44
      refine lv_aload_n hx hb dX2_chooseNearer_86 rfl (lv_at hl 3 rfl) ?_
      refine lv_lload hx hb dX2_chooseNearer_87 (lv_at hl 1 rfl) ?_
      obtain ⟨f45, ef45, hv⟩ := hv
      refine fw_put hx hb hts ii_X2_chooseNearer_X2 tyX2 tyX2_ok nmX2 hown hK hS 0 ef45 rfl (by decide) mm_X2_chooseNearer_3 rfl rfl rfl rfl dX2_chooseNearer_89 (fun H locs hS => ?_)
      refine lv_aload_n hx hb dX2_chooseNearer_92 rfl (lv_at hl 3 rfl) ?_
      refine lv_lload hx hb dX2_chooseNearer_93 (lv_at hl 0 rfl) ?_
      obtain ⟨f46, ef46, hv⟩ := hv
      refine fw_put hx hb hts ii_X2_chooseNearer_X2 tyX2 tyX2_ok nmX2 hown hK hS 1 ef46 rfl (by decide) mm_X2_chooseNearer_0 rfl rfl rfl rfl dX2_chooseNearer_95 (fun H locs hS => ?_)
      exact fw_vret hx hb hr hlk hS hv dX2_chooseNearer_98
set_option maxRecDepth 100000 in
set_option maxHeartbeats 4000000 in
theorem T_X2_chooseNearer {E : cx} {h : Nat} {p1 : Int32} {f : hm} {K : hm → Prop}  (h0 : X_X2_chooseNearer_0 E h p1 f  K) : S_X2_chooseNearer E h p1 f K := by
  refine MV_of (cc := cX2_chooseNearer) (maxL := 8) (ret := none) (by decide) rfl ?_
  intro p e s m below meth c C
  have hl := lv_entry ([.ref h, .int p1]) (n := 8) (Nat.le_of_ble_eq_true rfl)
  rw [lg_entry_eq]
  generalize (lg_sl ([.ref h, .int p1]) ++ List.replicate (8 - (lg_sl ([.ref h, .int p1])).length) Slot.unset).toArray = ls at hl ⊢
  have hl : lv_has ls 8 [(0, .ref h), (1, .int p1)] := hl
  have hS := C.2.2.2.2.2.2.2.2.2
  exact R_X2_chooseNearer_0 C h p1 f h0 hl hS
/-! ContinuedRatios$NearestSearch.seek(JLContinuedRatios$Natural;LContinuedRatios$Natural;I)V -/
def S_X2_seek (E : cx) (h : Nat) (p1 : Int64) (p2 : Nat) (p3 : Nat) (p4 : Int32) (f : hm) (K : hm → Prop) : Prop := MV E.1 E.2.1 vwCl (eT E) yX2_seek wsX2_seek ({ frames := 5, cells := 0, slots := 0, locals := 142 }) [.ref h, .long p1, .ref p2, .ref p3, .int p4] f K
theorem mm_X2_seek_0 : Cond.fieldLink RX2 16 "ContinuedRatios$NearestSearch" "olderUpper" "J" ∈ wsX2_seek := by decide +kernel
theorem mm_X2_seek_1 : Cond.fieldLink RX2 19 "ContinuedRatios$NearestSearch" "olderLower" "J" ∈ wsX2_seek := by decide +kernel
theorem mm_X2_seek_2 : Cond.fieldLink RX2 29 "ContinuedRatios$NearestSearch" "olderGap" "LContinuedRatios$Natural;" ∈ wsX2_seek := by decide +kernel
theorem mm_X2_seek_3 : Cond.fieldLink RX2 7 "ContinuedRatios$NearestSearch" "upper" "J" ∈ wsX2_seek := by decide +kernel
theorem mm_X2_seek_4 : Cond.fieldLink RX2 13 "ContinuedRatios$NearestSearch" "lower" "J" ∈ wsX2_seek := by decide +kernel
theorem mm_X2_seek_5 : Cond.fieldLink RX2 25 "ContinuedRatios$NearestSearch" "gap" "LContinuedRatios$Natural;" ∈ wsX2_seek := by decide +kernel
theorem ii_X2_seek_X2 : ∀ w ∈ u_ws RX2 TX2 11, w ∈ wsX2_seek := by decide +kernel
def X_X2_seek_0 (E : cx) (h : Nat) (p1 : Int64) (p2 : Nat) (p3 : Nat) (p4 : Int32) (f : hm) (L43 : Nat → Int64 → Nat → Nat → Int32 → Int32 → Int32 → hm → Prop) (K : hm → Prop) : Prop :=
  (∃ f1 : hm, wrV f h 2 2 (.long (1 : Int64)) = some f1 ∧ (∃ f2 : hm, wrV f1 h 2 3 (.long (0 : Int64)) = some f2 ∧ (∃ v3 : Nat, rdV f2 h 2 5 = some (.ref v3) ∧ (isO f2 v3 1 ∧ S_X1_become_ E v3 p3 f2 (fun (f5 : hm) => (∃ f6 : hm, wrV f5 h 2 0 (.long p1) = some f6 ∧ (∃ f7 : hm, wrV f6 h 2 1 (.long (1 : Int64)) = some f7 ∧ (∃ v8 : Nat, rdV f7 h 2 4 = some (.ref v8) ∧ (isO f7 v8 1 ∧ S_X1_become_ E v8 p2 f7 (fun (f10 : hm) => L43 h p1 p2 p3 p4 (1 : Int32) (0 : Int32) f10))))))))))
def X_X2_seek_43 (E : cx) (a_0 : Nat) (x_1 : Int64) (a_3 : Nat) (a_4 : Nat) (x_5 : Int32) (x_6 : Int32) (x_7 : Int32) (f : hm) (L43 : Nat → Int64 → Nat → Nat → Int32 → Int32 → Int32 → hm → Prop) (K : hm → Prop) : Prop :=
  (((10000 : Int32) ≤ x_7 → (∃ v2 : Nat, rdV f a_0 2 4 = some (.ref v2) ∧ (isO f v2 1 ∧ S_X1_isZero E v2 f (fun (r5 : Int32) (f4 : hm) => ((¬ r5 = 0 → K f4) ∧ (r5 = 0 → (isO f4 a_0 2 ∧ S_X2_chooseNearer E a_0 x_5 f4 (fun (f8 : hm) => K f8)))))))) ∧ (¬ ((10000 : Int32) ≤ x_7) → ((x_6 = 0 → (∃ v10 : Nat, rdV f a_0 2 4 = some (.ref v10) ∧ (isO f v10 1 ∧ S_X1_isZero E v10 f (fun (r13 : Int32) (f12 : hm) => ((¬ r13 = 0 → K f12) ∧ (r13 = 0 → (isO f12 a_0 2 ∧ S_X2_chooseNearer E a_0 x_5 f12 (fun (f16 : hm) => K f16)))))))) ∧ (¬ (x_6 = 0) → (∃ v17 : Nat, rdV f a_0 2 4 = some (.ref v17) ∧ (isO f v17 1 ∧ S_X1_isZero E v17 f (fun (r20 : Int32) (f19 : hm) => ((¬ r20 = 0 → (∀ x22 : Int32, x22 = x_7 + (1) → L43 a_0 x_1 a_3 a_4 x_5 (0 : Int32) x22 f19)) ∧ (r20 = 0 → (isO f19 a_0 2 ∧ S_X2_moveOn E a_0 x_5 f19 (fun (r25 : Int32) (f24 : hm) => ((r25 = 0 → (∀ x27 : Int32, x27 = x_7 + (1) → L43 a_0 x_1 a_3 a_4 x_5 (0 : Int32) x27 f24)) ∧ (¬ (r25 = 0) → (∀ x28 : Int32, x28 = x_7 + (1) → L43 a_0 x_1 a_3 a_4 x_5 (1 : Int32) x28 f24))))))))))))))
set_option maxRecDepth 100000 in
set_option maxHeartbeats 4000000 in
theorem R_X2_seek_0 {E : cx} {p : Program} {e : Env} {s : State} {m : MethodId} {below : List Frame} {meth : Method} {c : Code} {f0 : hm} {zh : Nat} {zp1 : Int64} {zp2 : Nat} {zp3 : Nat} {zp4 : Int32} (C : wB E.2.1 vwCl (eT E) yX2_seek cX2_seek 8 none wsX2_seek [.ref zh, .long zp1, .ref zp2, .ref zp3, .int zp4] f0 p s m meth c) (h : Nat) (p1 : Int64) (p2 : Nat) (p3 : Nat) (p4 : Int32) (f : hm) {L43 : Nat → Int64 → Nat → Nat → Int32 → Int32 → Int32 → hm → Prop} {K : hm → Prop} (hv : X_X2_seek_0 E h p1 p2 p3 p4 f L43 K) {ls : Array Slot} {H : Heap} {locs : List Loc} (hl : lv_has ls 8 [(0, .ref h), (1, .long p1), (3, .ref p2), (4, .ref p3), (5, .int p4)]) (hS : wS E.2.1 vwCl (wA f0 s.heap.size) s.heap f H locs) (hL43 : ∀ (y_0 : Nat) (y_1 : Int64) (y_3 : Nat) (y_4 : Nat) (y_5 : Int32) (y_6 : Int32) (y_7 : Int32) (f : hm) (ls : Array Slot) (H : Heap) (locs : List Loc), L43 y_0 y_1 y_3 y_4 y_5 y_6 y_7 f → lv_has ls 8 [(0, .ref y_0), (1, .long y_1), (3, .ref y_3), (4, .ref y_4), (5, .int y_5), (6, .int y_6), (7, .int y_7)] → wS E.2.1 vwCl (wA f0 s.heap.size) s.heap f H locs → W p E.1 e ({ frames := 5, cells := 0, slots := 0, locals := 142 }) s m ([.ref zh, .long zp1, .ref zp2, .ref zp3, .int zp4] : List Value).toArray below meth c H locs 0 0 (MQ below (wQv f0 E.2.1 vwCl K s) ([.ref zh, .long zp1, .ref zp2, .ref zp3, .int zp4] : List Value).toArray s 0 0 (wA f0 s.heap.size)) (F0 m 43 ls [])) : W p E.1 e ({ frames := 5, cells := 0, slots := 0, locals := 142 }) s m ([.ref zh, .long zp1, .ref zp2, .ref zp3, .int zp4] : List Value).toArray below meth c H locs 0 0 (MQ below (wQv f0 E.2.1 vwCl K s) ([.ref zh, .long zp1, .ref zp2, .ref zp3, .int zp4] : List Value).toArray s 0 0 (wA f0 s.heap.size)) (F0 m 0 ls []) := by
  obtain ⟨hx, hb, hml, hown, hts, hr, hlk, hnm, hK, -⟩ := C
  unfold X_X2_seek_0 at hv
  refine lv_aload_n hx hb dX2_seek_0 rfl (lv_at hl 0 rfl) ?_
  refine lv_lconst (v := 1) hx hb dX2_seek_1 (by decide) ?_
  obtain ⟨f1, ef1, hv⟩ := hv
  refine fw_put hx hb hts ii_X2_seek_X2 tyX2 tyX2_ok nmX2 hown hK hS 2 ef1 rfl (by decide) mm_X2_seek_0 rfl rfl rfl rfl dX2_seek_2 (fun H locs hS => ?_)
  refine lv_aload_n hx hb dX2_seek_5 rfl (lv_at hl 0 rfl) ?_
  refine lv_lconst (v := 0) hx hb dX2_seek_6 (by decide) ?_
  obtain ⟨f2, ef2, hv⟩ := hv
  refine fw_put hx hb hts ii_X2_seek_X2 tyX2 tyX2_ok nmX2 hown hK hS 3 ef2 rfl (by decide) mm_X2_seek_1 rfl rfl rfl rfl dX2_seek_7 (fun H locs hS => ?_)
  refine lv_aload_n hx hb dX2_seek_10 rfl (lv_at hl 0 rfl) ?_
  obtain ⟨v3, ev3, hv⟩ := hv
  refine fw_get hx hb hts ii_X2_seek_X2 hown hK hS 5 ev3 rfl (by decide) mm_X2_seek_2 rfl dX2_seek_11 ?_
  refine lv_aload hx hb dX2_seek_14 (lv_at hl 3 rfl) ?_
  obtain ⟨ho4, hv⟩ := hv
  refine fw_callVv hx hb hml hown hts hK hS [.ref p3] [] hv gX2_seek_X1_become_ rfl rfl rfl 1 (by decide +kernel) ⟨Nat.le_of_ble_eq_true rfl, Nat.le_of_ble_eq_true rfl⟩ rfl rfl ho4 rfl hl.1 rfl (Nat.le_of_ble_eq_true rfl) dX2_seek_16 ⟨Nat.zero_le _, Nat.zero_le _⟩ (fun f5 H locs hv hS => ?_)
  refine lv_aload_n hx hb dX2_seek_19 rfl (lv_at hl 0 rfl) ?_
  refine lv_lload_n hx hb dX2_seek_20 rfl (lv_at hl 1 rfl) ?_
  obtain ⟨f6, ef6, hv⟩ := hv
  refine fw_put hx hb hts ii_X2_seek_X2 tyX2 tyX2_ok nmX2 hown hK hS 0 ef6 rfl (by decide) mm_X2_seek_3 rfl rfl rfl rfl dX2_seek_21 (fun H locs hS => ?_)
  refine lv_aload_n hx hb dX2_seek_24 rfl (lv_at hl 0 rfl) ?_
  refine lv_lconst (v := 1) hx hb dX2_seek_25 (by decide) ?_
  obtain ⟨f7, ef7, hv⟩ := hv
  refine fw_put hx hb hts ii_X2_seek_X2 tyX2 tyX2_ok nmX2 hown hK hS 1 ef7 rfl (by decide) mm_X2_seek_4 rfl rfl rfl rfl dX2_seek_26 (fun H locs hS => ?_)
  refine lv_aload_n hx hb dX2_seek_29 rfl (lv_at hl 0 rfl) ?_
  obtain ⟨v8, ev8, hv⟩ := hv
  refine fw_get hx hb hts ii_X2_seek_X2 hown hK hS 4 ev8 rfl (by decide) mm_X2_seek_5 rfl dX2_seek_30 ?_
  refine lv_aload_n hx hb dX2_seek_33 rfl (lv_at hl 2 rfl) ?_
  obtain ⟨ho9, hv⟩ := hv
  refine fw_callVv hx hb hml hown hts hK hS [.ref p2] [] hv gX2_seek_X1_become_ rfl rfl rfl 1 (by decide +kernel) ⟨Nat.le_of_ble_eq_true rfl, Nat.le_of_ble_eq_true rfl⟩ rfl rfl ho9 rfl hl.1 rfl (Nat.le_of_ble_eq_true rfl) dX2_seek_34 ⟨Nat.zero_le _, Nat.zero_le _⟩ (fun f10 H locs hv hS => ?_)
  refine lv_iconst (v := 1) hx hb dX2_seek_37 (by decide) ?_
  refine lv_istore (lv' := [(6, .int (1 : Int32)), (0, .ref h), (1, .long p1), (3, .ref p2), (4, .ref p3), (5, .int p4)]) hx hb dX2_seek_38 hl (by decide) rfl (fun ls hl => ?_)
  refine lv_iconst (v := 0) hx hb dX2_seek_40 (by decide) ?_
  refine lv_istore (lv' := [(7, .int (0 : Int32)), (6, .int (1 : Int32)), (0, .ref h), (1, .long p1), (3, .ref p2), (4, .ref p3), (5, .int p4)]) hx hb dX2_seek_41 hl (by decide) rfl (fun ls hl => ?_)
  exact hL43 _ _ _ _ _ _ _ _ _ _ _ hv (lv_sub hl [2, 3, 4, 5, 6, 1, 0] rfl) hS
set_option maxRecDepth 100000 in
set_option maxHeartbeats 4000000 in
theorem R_X2_seek_43 {E : cx} {p : Program} {e : Env} {s : State} {m : MethodId} {below : List Frame} {meth : Method} {c : Code} {f0 : hm} {zh : Nat} {zp1 : Int64} {zp2 : Nat} {zp3 : Nat} {zp4 : Int32} (C : wB E.2.1 vwCl (eT E) yX2_seek cX2_seek 8 none wsX2_seek [.ref zh, .long zp1, .ref zp2, .ref zp3, .int zp4] f0 p s m meth c) (a_0 : Nat) (x_1 : Int64) (a_3 : Nat) (a_4 : Nat) (x_5 : Int32) (x_6 : Int32) (x_7 : Int32) (f : hm) {L43 : Nat → Int64 → Nat → Nat → Int32 → Int32 → Int32 → hm → Prop} {K : hm → Prop} (hv : X_X2_seek_43 E a_0 x_1 a_3 a_4 x_5 x_6 x_7 f L43 K) {ls : Array Slot} {H : Heap} {locs : List Loc} (hl : lv_has ls 8 [(0, .ref a_0), (1, .long x_1), (3, .ref a_3), (4, .ref a_4), (5, .int x_5), (6, .int x_6), (7, .int x_7)]) (hS : wS E.2.1 vwCl (wA f0 s.heap.size) s.heap f H locs) (hL43 : ∀ (y_0 : Nat) (y_1 : Int64) (y_3 : Nat) (y_4 : Nat) (y_5 : Int32) (y_6 : Int32) (y_7 : Int32) (f : hm) (ls : Array Slot) (H : Heap) (locs : List Loc), L43 y_0 y_1 y_3 y_4 y_5 y_6 y_7 f → lv_has ls 8 [(0, .ref y_0), (1, .long y_1), (3, .ref y_3), (4, .ref y_4), (5, .int y_5), (6, .int y_6), (7, .int y_7)] → wS E.2.1 vwCl (wA f0 s.heap.size) s.heap f H locs → W p E.1 e ({ frames := 5, cells := 0, slots := 0, locals := 142 }) s m ([.ref zh, .long zp1, .ref zp2, .ref zp3, .int zp4] : List Value).toArray below meth c H locs 0 0 (MQ below (wQv f0 E.2.1 vwCl K s) ([.ref zh, .long zp1, .ref zp2, .ref zp3, .int zp4] : List Value).toArray s 0 0 (wA f0 s.heap.size)) (F0 m 43 ls [])) : W p E.1 e ({ frames := 5, cells := 0, slots := 0, locals := 142 }) s m ([.ref zh, .long zp1, .ref zp2, .ref zp3, .int zp4] : List Value).toArray below meth c H locs 0 0 (MQ below (wQv f0 E.2.1 vwCl K s) ([.ref zh, .long zp1, .ref zp2, .ref zp3, .int zp4] : List Value).toArray s 0 0 (wA f0 s.heap.size)) (F0 m 43 ls []) := by
  obtain ⟨hx, hb, hml, hown, hts, hr, hlk, hnm, hK, -⟩ := C
  unfold X_X2_seek_43 at hv
  refine lv_iload hx hb dX2_seek_43 (lv_at hl 6 rfl) ?_
  refine lv_sipush (v := 10000) hx hb dX2_seek_45 (by decide) ?_
  refine lv_icmp_ge (tgt := 88) hx hb dX2_seek_48 (by decide) (fun c1 => ?_) (fun c1 => ?_)
  · have hv := hv.1 c1
    refine lv_aload_n hx hb dX2_seek_88 rfl (lv_at hl 0 rfl) ?_
    obtain ⟨v2, ev2, hv⟩ := hv
    refine fw_get hx hb hts ii_X2_seek_X2 hown hK hS 4 ev2 rfl (by decide) mm_X2_seek_5 rfl dX2_seek_89 ?_
    obtain ⟨ho3, hv⟩ := hv
    refine fw_callVi hx hb hml hown hts hK hS [] [] hv gX2_seek_X1_isZero rfl rfl rfl 0 (by decide +kernel) ⟨Nat.le_of_ble_eq_true rfl, Nat.le_of_ble_eq_true rfl⟩ rfl rfl ho3 rfl hl.1 rfl (Nat.le_of_ble_eq_true rfl) dX2_seek_92 ⟨Nat.zero_le _, Nat.zero_le _⟩ (fun r5 f4 H locs hv hS => ?_)
    refine lv_if_ne (tgt := 104) hx hb dX2_seek_95 (by decide) (fun c6 => ?_) (fun c6 => ?_)
    · have hv := hv.1 c6
      exact fw_vret hx hb hr hlk hS hv dX2_seek_104
    · have hv := hv.2 c6
      refine lv_aload_n hx hb dX2_seek_98 rfl (lv_at hl 0 rfl) ?_
      refine lv_iload hx hb dX2_seek_99 (lv_at hl 4 rfl) ?_
      obtain ⟨ho7, hv⟩ := hv
      refine fw_callVv hx hb hml hown hts hK hS [.int x_5] [] hv gX2_seek_X2_chooseNearer rfl rfl rfl 1 (by decide +kernel) ⟨Nat.le_of_ble_eq_true rfl, Nat.le_of_ble_eq_true rfl⟩ rfl rfl ho7 rfl hl.1 rfl (Nat.le_of_ble_eq_true rfl) dX2_seek_101 ⟨Nat.zero_le _, Nat.zero_le _⟩ (fun f8 H locs hv hS => ?_)
      exact fw_vret hx hb hr hlk hS hv dX2_seek_104
  · have hv := hv.2 c1
    refine lv_iload hx hb dX2_seek_51 (lv_at hl 5 rfl) ?_
    refine lv_if_eq (tgt := 88) hx hb dX2_seek_53 (by decide) (fun c9 => ?_) (fun c9 => ?_)
    · have hv := hv.1 c9
      refine lv_aload_n hx hb dX2_seek_88 rfl (lv_at hl 0 rfl) ?_
      obtain ⟨v10, ev10, hv⟩ := hv
      refine fw_get hx hb hts ii_X2_seek_X2 hown hK hS 4 ev10 rfl (by decide) mm_X2_seek_5 rfl dX2_seek_89 ?_
      obtain ⟨ho11, hv⟩ := hv
      refine fw_callVi hx hb hml hown hts hK hS [] [] hv gX2_seek_X1_isZero rfl rfl rfl 0 (by decide +kernel) ⟨Nat.le_of_ble_eq_true rfl, Nat.le_of_ble_eq_true rfl⟩ rfl rfl ho11 rfl hl.1 rfl (Nat.le_of_ble_eq_true rfl) dX2_seek_92 ⟨Nat.zero_le _, Nat.zero_le _⟩ (fun r13 f12 H locs hv hS => ?_)
      refine lv_if_ne (tgt := 104) hx hb dX2_seek_95 (by decide) (fun c14 => ?_) (fun c14 => ?_)
      · have hv := hv.1 c14
        exact fw_vret hx hb hr hlk hS hv dX2_seek_104
      · have hv := hv.2 c14
        refine lv_aload_n hx hb dX2_seek_98 rfl (lv_at hl 0 rfl) ?_
        refine lv_iload hx hb dX2_seek_99 (lv_at hl 4 rfl) ?_
        obtain ⟨ho15, hv⟩ := hv
        refine fw_callVv hx hb hml hown hts hK hS [.int x_5] [] hv gX2_seek_X2_chooseNearer rfl rfl rfl 1 (by decide +kernel) ⟨Nat.le_of_ble_eq_true rfl, Nat.le_of_ble_eq_true rfl⟩ rfl rfl ho15 rfl hl.1 rfl (Nat.le_of_ble_eq_true rfl) dX2_seek_101 ⟨Nat.zero_le _, Nat.zero_le _⟩ (fun f16 H locs hv hS => ?_)
        exact fw_vret hx hb hr hlk hS hv dX2_seek_104
    · have hv := hv.2 c9
      refine lv_aload_n hx hb dX2_seek_56 rfl (lv_at hl 0 rfl) ?_
      obtain ⟨v17, ev17, hv⟩ := hv
      refine fw_get hx hb hts ii_X2_seek_X2 hown hK hS 4 ev17 rfl (by decide) mm_X2_seek_5 rfl dX2_seek_57 ?_
      obtain ⟨ho18, hv⟩ := hv
      refine fw_callVi hx hb hml hown hts hK hS [] [] hv gX2_seek_X1_isZero rfl rfl rfl 0 (by decide +kernel) ⟨Nat.le_of_ble_eq_true rfl, Nat.le_of_ble_eq_true rfl⟩ rfl rfl ho18 rfl hl.1 rfl (Nat.le_of_ble_eq_true rfl) dX2_seek_60 ⟨Nat.zero_le _, Nat.zero_le _⟩ (fun r20 f19 H locs hv hS => ?_)
      refine lv_if_ne (tgt := 79) hx hb dX2_seek_63 (by decide) (fun c21 => ?_) (fun c21 => ?_)
      · have hv := hv.1 c21
        refine lv_iconst (v := 0) hx hb dX2_seek_79 (by decide) ?_
        refine lv_istore (lv' := [(6, .int (0 : Int32)), (0, .ref a_0), (1, .long x_1), (3, .ref a_3), (4, .ref a_4), (5, .int x_5), (7, .int x_7)]) hx hb dX2_seek_80 hl (by decide) rfl (fun ls hl => ?_)
        obtain ⟨x22, ex22⟩ : ∃ y : Int32, y = x_7 + (1) := ⟨_, rfl⟩
        have hv := hv x22 ex22
        refine lv_iinc (v := x22) (lv' := [(7, .int x22), (6, .int (0 : Int32)), (0, .ref a_0), (1, .long x_1), (3, .ref a_3), (4, .ref a_4), (5, .int x_5)]) hx hb dX2_seek_82 hl (k := 6) rfl (by rw [ex22]; rfl) (by decide) rfl (fun ls hl => ?_)
        refine lv_goto (tgt := 43) hx hb dX2_seek_85 (by decide) ?_
        exact hL43 _ _ _ _ _ _ _ _ _ _ _ hv (lv_sub hl [2, 3, 4, 5, 6, 1, 0] rfl) hS
      · have hv := hv.2 c21
        refine lv_aload_n hx hb dX2_seek_66 rfl (lv_at hl 0 rfl) ?_
        refine lv_iload hx hb dX2_seek_67 (lv_at hl 4 rfl) ?_
        obtain ⟨ho23, hv⟩ := hv
        refine fw_callVi hx hb hml hown hts hK hS [.int x_5] [] hv gX2_seek_X2_moveOn rfl rfl rfl 1 (by decide +kernel) ⟨Nat.le_of_ble_eq_true rfl, Nat.le_of_ble_eq_true rfl⟩ rfl rfl ho23 rfl hl.1 rfl (Nat.le_of_ble_eq_true rfl) dX2_seek_69 ⟨Nat.zero_le _, Nat.zero_le _⟩ (fun r25 f24 H locs hv hS => ?_)
        refine lv_if_eq (tgt := 79) hx hb dX2_seek_72 (by decide) (fun c26 => ?_) (fun c26 => ?_)
        · have hv := hv.1 c26
          refine lv_iconst (v := 0) hx hb dX2_seek_79 (by decide) ?_
          refine lv_istore (lv' := [(6, .int (0 : Int32)), (0, .ref a_0), (1, .long x_1), (3, .ref a_3), (4, .ref a_4), (5, .int x_5), (7, .int x_7)]) hx hb dX2_seek_80 hl (by decide) rfl (fun ls hl => ?_)
          obtain ⟨x27, ex27⟩ : ∃ y : Int32, y = x_7 + (1) := ⟨_, rfl⟩
          have hv := hv x27 ex27
          refine lv_iinc (v := x27) (lv' := [(7, .int x27), (6, .int (0 : Int32)), (0, .ref a_0), (1, .long x_1), (3, .ref a_3), (4, .ref a_4), (5, .int x_5)]) hx hb dX2_seek_82 hl (k := 6) rfl (by rw [ex27]; rfl) (by decide) rfl (fun ls hl => ?_)
          refine lv_goto (tgt := 43) hx hb dX2_seek_85 (by decide) ?_
          exact hL43 _ _ _ _ _ _ _ _ _ _ _ hv (lv_sub hl [2, 3, 4, 5, 6, 1, 0] rfl) hS
        · have hv := hv.2 c26
          refine lv_iconst (v := 1) hx hb dX2_seek_75 (by decide) ?_
          refine lv_goto (tgt := 80) hx hb dX2_seek_76 (by decide) ?_
          refine lv_istore (lv' := [(6, .int (1 : Int32)), (0, .ref a_0), (1, .long x_1), (3, .ref a_3), (4, .ref a_4), (5, .int x_5), (7, .int x_7)]) hx hb dX2_seek_80 hl (by decide) rfl (fun ls hl => ?_)
          obtain ⟨x28, ex28⟩ : ∃ y : Int32, y = x_7 + (1) := ⟨_, rfl⟩
          have hv := hv x28 ex28
          refine lv_iinc (v := x28) (lv' := [(7, .int x28), (6, .int (1 : Int32)), (0, .ref a_0), (1, .long x_1), (3, .ref a_3), (4, .ref a_4), (5, .int x_5)]) hx hb dX2_seek_82 hl (k := 6) rfl (by rw [ex28]; rfl) (by decide) rfl (fun ls hl => ?_)
          refine lv_goto (tgt := 43) hx hb dX2_seek_85 (by decide) ?_
          exact hL43 _ _ _ _ _ _ _ _ _ _ _ hv (lv_sub hl [2, 3, 4, 5, 6, 1, 0] rfl) hS
set_option maxRecDepth 100000 in
set_option maxHeartbeats 4000000 in
theorem T_X2_seek {E : cx} {h : Nat} {p1 : Int64} {p2 : Nat} {p3 : Nat} {p4 : Int32} {f : hm} {K : hm → Prop} (I43 : Nat → Nat → Int64 → Nat → Nat → Int32 → Int32 → Int32 → hm → Prop) (h0 : X_X2_seek_0 E h p1 p2 p3 p4 f (fun (y_0 : Nat) (y_1 : Int64) (y_3 : Nat) (y_4 : Nat) (y_5 : Int32) (y_6 : Int32) (y_7 : Int32) (f : hm) => ∃ k : Nat, I43 k y_0 y_1 y_3 y_4 y_5 y_6 y_7 f) K) (h43 : ∀ (n : Nat) (a_0 : Nat) (x_1 : Int64) (a_3 : Nat) (a_4 : Nat) (x_5 : Int32) (x_6 : Int32) (x_7 : Int32) (f : hm), I43 n a_0 x_1 a_3 a_4 x_5 x_6 x_7 f → X_X2_seek_43 E a_0 x_1 a_3 a_4 x_5 x_6 x_7 f (fun (y_0 : Nat) (y_1 : Int64) (y_3 : Nat) (y_4 : Nat) (y_5 : Int32) (y_6 : Int32) (y_7 : Int32) (f : hm) => ∃ k : Nat, k < n ∧ I43 k y_0 y_1 y_3 y_4 y_5 y_6 y_7 f) K) : S_X2_seek E h p1 p2 p3 p4 f K := by
  refine MV_of (cc := cX2_seek) (maxL := 8) (ret := none) (by decide) rfl ?_
  intro p e s m below meth c C
  have hl := lv_entry ([.ref h, .long p1, .ref p2, .ref p3, .int p4]) (n := 8) (Nat.le_of_ble_eq_true rfl)
  rw [lg_entry_eq]
  generalize (lg_sl ([.ref h, .long p1, .ref p2, .ref p3, .int p4]) ++ List.replicate (8 - (lg_sl ([.ref h, .long p1, .ref p2, .ref p3, .int p4])).length) Slot.unset).toArray = ls at hl ⊢
  have hl : lv_has ls 8 [(0, .ref h), (1, .long p1), (3, .ref p2), (4, .ref p3), (5, .int p4)] := hl
  have hS := C.2.2.2.2.2.2.2.2.2
  have key : ∀ n : Nat, (∀ (a_0 : Nat) (x_1 : Int64) (a_3 : Nat) (a_4 : Nat) (x_5 : Int32) (x_6 : Int32) (x_7 : Int32) (g : hm) (ls : Array Slot) (H : Heap) (locs : List Loc), I43 n a_0 x_1 a_3 a_4 x_5 x_6 x_7 g → lv_has ls 8 [(0, .ref a_0), (1, .long x_1), (3, .ref a_3), (4, .ref a_4), (5, .int x_5), (6, .int x_6), (7, .int x_7)] → wS E.2.1 vwCl (wA f s.heap.size) s.heap g H locs → W p E.1 e ({ frames := 5, cells := 0, slots := 0, locals := 142 }) s m ([.ref h, .long p1, .ref p2, .ref p3, .int p4] : List Value).toArray below meth c H locs 0 0 (MQ below (wQv f E.2.1 vwCl K s) ([.ref h, .long p1, .ref p2, .ref p3, .int p4] : List Value).toArray s 0 0 (wA f s.heap.size)) (F0 m 43 ls [])) := by
    refine st_ind (fun n ih => ?_)
    intro a_0 x_1 a_3 a_4 x_5 x_6 x_7 g ls H locs hI hl hS
    exact R_X2_seek_43 C a_0 x_1 a_3 a_4 x_5 x_6 x_7 g (h43 n a_0 x_1 a_3 a_4 x_5 x_6 x_7 g hI) hl hS (fun _ _ _ _ _ _ _ _ _ _ _ hI hl hS => by obtain ⟨k, hk, hI⟩ := hI; exact (ih k hk) _ _ _ _ _ _ _ _ _ _ _ hI hl hS)
  exact R_X2_seek_0 C h p1 p2 p3 p4 f h0 hl hS (fun _ _ _ _ _ _ _ _ _ _ _ hI hl hS => by obtain ⟨k, hI⟩ := hI; exact (key k) _ _ _ _ _ _ _ _ _ _ _ hI hl hS)
