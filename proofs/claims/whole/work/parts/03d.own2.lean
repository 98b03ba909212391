/-! By program (wip/whole/gen.py), out of the printed names: do not edit. -/
/-! ContinuedRatios.isInt(J)Z -/
def S_X4_isInt (E : cx) (p1 : Int64) (f : hm) (K : Int32 → hm → Prop) : Prop := MI E.1 E.2.1 vwCl (eT E) yX4_isInt wsX4_isInt ({ frames := 0, cells := 0, slots := 0, locals := 0 }) [.long p1] f K
theorem mm_X4_isInt_0 : Cond.constantLong RX4 145 (-2147483648) ∈ wsX4_isInt := by decide +kernel
theorem mm_X4_isInt_1 : Cond.constantLong RX4 165 (2147483647) ∈ wsX4_isInt := by decide +kernel
def X_X4_isInt_0 (E : cx) (p1 : Int64) (f : hm)  (K : Int32 → hm → Prop) : Prop :=
  (((lg_cmp p1 (-2147483648 : Int64)) < 0 → (narrow .boolean (.int (0 : Int32)) = .int (0 : Int32) ∧ K (0 : Int32) f)) ∧ (¬ ((lg_cmp p1 (-2147483648 : Int64)) < 0) → ((0 < (lg_cmp p1 (2147483647 : Int64)) → (narrow .boolean (.int (0 : Int32)) = .int (0 : Int32) ∧ K (0 : Int32) f)) ∧ (¬ (0 < (lg_cmp p1 (2147483647 : Int64))) → (narrow .boolean (.int (1 : Int32)) = .int (1 : Int32) ∧ K (1 : Int32) f)))))
set_option maxRecDepth 100000 in
set_option maxHeartbeats 4000000 in
theorem R_X4_isInt_0 {E : cx} {p : Program} {e : Env} {s : State} {m : MethodId} {below : List Frame} {meth : Method} {c : Code} {f0 : hm} {zp1 : Int64} (C : wB E.2.1 vwCl (eT E) yX4_isInt cX4_isInt 2 (some .boolean) wsX4_isInt [.long zp1] f0 p s m meth c) (p1 : Int64) (f : hm)  {K : Int32 → hm → Prop} (hv : X_X4_isInt_0 E p1 f  K) {ls : Array Slot} {H : Heap} {locs : List Loc} (hl : lv_has ls 2 [(0, .long p1)]) (hS : wS E.2.1 vwCl (wA f0 s.heap.size) s.heap f H locs)  : W p E.1 e ({ frames := 0, cells := 0, slots := 0, locals := 0 }) s m ([.long zp1] : List Value).toArray below meth c H locs 0 0 (MQ below (wQi f0 E.2.1 vwCl K s) ([.long zp1] : List Value).toArray s 0 0 (wA f0 s.heap.size)) (F0 m 0 ls []) := by
  obtain ⟨hx, hb, hml, hown, hts, hr, hlk, hnm, hK, -⟩ := C
  unfold X_X4_isInt_0 at hv
  refine lv_lload_n hx hb dX4_isInt_0 rfl (lv_at hl 0 rfl) ?_
  refine lv_ldc2 (v := (-2147483648)) hx hb hown (hts _ mm_X4_isInt_0) dX4_isInt_1 ?_
  refine W.lcmp hx hb dX4_isInt_4 ?_
  refine lv_if_lt (tgt := 20) hx hb dX4_isInt_5 (by decide) (fun c1 => ?_) (fun c1 => ?_)
  · have hv := hv.1 c1
    refine lv_iconst (v := 0) hx hb dX4_isInt_20 (by decide) ?_
    exact fw_zret hx hb hr hlk hS hv dX4_isInt_21
  · have hv := hv.2 c1
    refine lv_lload_n hx hb dX4_isInt_8 rfl (lv_at hl 0 rfl) ?_
    refine lv_ldc2 (v := (2147483647)) hx hb hown (hts _ mm_X4_isInt_1) dX4_isInt_9 ?_
    refine W.lcmp hx hb dX4_isInt_12 ?_
    refine lv_if_gt (tgt := 20) hx hb dX4_isInt_13 (by decide) (fun c2 => ?_) (fun c2 => ?_)
    · have hv := hv.1 c2
      refine lv_iconst (v := 0) hx hb dX4_isInt_20 (by decide) ?_
      exact fw_zret hx hb hr hlk hS hv dX4_isInt_21
    · have hv := hv.2 c2
      refine lv_iconst (v := 1) hx hb dX4_isInt_16 (by decide) ?_
      refine lv_goto (tgt := 21) hx hb dX4_isInt_17 (by decide) ?_
      exact fw_zret hx hb hr hlk hS hv dX4_isInt_21
set_option maxRecDepth 100000 in
set_option maxHeartbeats 4000000 in
theorem T_X4_isInt {E : cx} {p1 : Int64} {f : hm} {K : Int32 → hm → Prop}  (h0 : X_X4_isInt_0 E p1 f  K) : S_X4_isInt E p1 f K := by
  refine MI_of (cc := cX4_isInt) (maxL := 2) (ret := (some .boolean)) (by decide) rfl ?_
  intro p e s m below meth c C
  have hl := lv_entry ([.long p1]) (n := 2) (Nat.le_of_ble_eq_true rfl)
  rw [lg_entry_eq]
  generalize (lg_sl ([.long p1]) ++ List.replicate (2 - (lg_sl ([.long p1])).length) Slot.unset).toArray = ls at hl ⊢
  have hl : lv_has ls 2 [(0, .long p1)] := hl
  have hS := C.2.2.2.2.2.2.2.2.2
  exact R_X4_isInt_0 C p1 f h0 hl hS
/-! ContinuedRatios.isRegister(I)Z -/
def S_X4_isRegister (E : cx) (h : Nat) (p1 : Int32) (f : hm) (K : Int32 → hm → Prop) : Prop := MI E.1 E.2.1 vwCl (eT E) yX4_isRegister wsX4_isRegister ({ frames := 0, cells := 0, slots := 0, locals := 0 }) [.ref h, .int p1] f K
theorem mm_X4_isRegister_0 : Cond.fieldLink RX4 73 "ContinuedRatios" "registers" "[LContinuedRatios$Fraction;" ∈ wsX4_isRegister := by decide +kernel
theorem ii_X4_isRegister_X4 : ∀ w ∈ u_ws RX4 TX4 14, w ∈ wsX4_isRegister := by decide +kernel
def X_X4_isRegister_0 (E : cx) (h : Nat) (p1 : Int32) (f : hm)  (K : Int32 → hm → Prop) : Prop :=
  ((p1 < 0 → (narrow .boolean (.int (0 : Int32)) = .int (0 : Int32) ∧ K (0 : Int32) f)) ∧ (¬ (p1 < 0) → (∃ v2 : Nat, rdV f h 4 1 = some (.ref v2) ∧ (∃ n3 : Nat, rdN (eF E) f v2 = some n3 ∧ (((nI n3) ≤ p1 → (narrow .boolean (.int (0 : Int32)) = .int (0 : Int32) ∧ K (0 : Int32) f)) ∧ (¬ ((nI n3) ≤ p1) → (narrow .boolean (.int (1 : Int32)) = .int (1 : Int32) ∧ K (1 : Int32) f)))))))
set_option maxRecDepth 100000 in
set_option maxHeartbeats 4000000 in
theorem R_X4_isRegister_0 {E : cx} {p : Program} {e : Env} {s : State} {m : MethodId} {below : List Frame} {meth : Method} {c : Code} {f0 : hm} {zh : Nat} {zp1 : Int32} (C : wB E.2.1 vwCl (eT E) yX4_isRegister cX4_isRegister 2 (some .boolean) wsX4_isRegister [.ref zh, .int zp1] f0 p s m meth c) (h : Nat) (p1 : Int32) (f : hm)  {K : Int32 → hm → Prop} (hv : X_X4_isRegister_0 E h p1 f  K) {ls : Array Slot} {H : Heap} {locs : List Loc} (hl : lv_has ls 2 [(0, .ref h), (1, .int p1)]) (hS : wS E.2.1 vwCl (wA f0 s.heap.size) s.heap f H locs)  : W p E.1 e ({ frames := 0, cells := 0, slots := 0, locals := 0 }) s m ([.ref zh, .int zp1] : List Value).toArray below meth c H locs 0 0 (MQ below (wQi f0 E.2.1 vwCl K s) ([.ref zh, .int zp1] : List Value).toArray s 0 0 (wA f0 s.heap.size)) (F0 m 0 ls []) := by
  obtain ⟨hx, hb, hml, hown, hts, hr, hlk, hnm, hK, -⟩ := C
  unfold X_X4_isRegister_0 at hv
  refine lv_iload_n hx hb dX4_isRegister_0 rfl (lv_at hl 1 rfl) ?_
  refine lv_if_lt (tgt := 17) hx hb dX4_isRegister_1 (by decide) (fun c1 => ?_) (fun c1 => ?_)
  · have hv := hv.1 c1
    refine lv_iconst (v := 0) hx hb dX4_isRegister_17 (by decide) ?_
    exact fw_zret hx hb hr hlk hS hv dX4_isRegister_18
  · have hv := hv.2 c1
    refine lv_iload_n hx hb dX4_isRegister_4 rfl (lv_at hl 1 rfl) ?_
    refine lv_aload_n hx hb dX4_isRegister_5 rfl (lv_at hl 0 rfl) ?_
    obtain ⟨v2, ev2, hv⟩ := hv
    refine fw_get hx hb hts ii_X4_isRegister_X4 hown hK hS 1 ev2 rfl (by decide) mm_X4_isRegister_0 rfl dX4_isRegister_6 ?_
    obtain ⟨n3, en3, hv⟩ := hv
    refine fw_alen hx hb hK hS 1 rfl en3 dX4_isRegister_9 ?_
    refine lv_icmp_ge (tgt := 17) hx hb dX4_isRegister_10 (by decide) (fun c4 => ?_) (fun c4 => ?_)
    · have hv := hv.1 c4
      refine lv_iconst (v := 0) hx hb dX4_isRegister_17 (by decide) ?_
      exact fw_zret hx hb hr hlk hS hv dX4_isRegister_18
    · have hv := hv.2 c4
      refine lv_iconst (v := 1) hx hb dX4_isRegister_13 (by decide) ?_
      refine lv_goto (tgt := 18) hx hb dX4_isRegister_14 (by decide) ?_
      exact fw_zret hx hb hr hlk hS hv dX4_isRegister_18
set_option maxRecDepth 100000 in
set_option maxHeartbeats 4000000 in
theorem T_X4_isRegister {E : cx} {h : Nat} {p1 : Int32} {f : hm} {K : Int32 → hm → Prop}  (h0 : X_X4_isRegister_0 E h p1 f  K) : S_X4_isRegister E h p1 f K := by
  refine MI_of (cc := cX4_isRegister) (maxL := 2) (ret := (some .boolean)) (by decide) rfl ?_
  intro p e s m below meth c C
  have hl := lv_entry ([.ref h, .int p1]) (n := 2) (Nat.le_of_ble_eq_true rfl)
  rw [lg_entry_eq]
  generalize (lg_sl ([.ref h, .int p1]) ++ List.replicate (2 - (lg_sl ([.ref h, .int p1])).length) Slot.unset).toArray = ls at hl ⊢
  have hl : lv_has ls 2 [(0, .ref h), (1, .int p1)] := hl
  have hS := C.2.2.2.2.2.2.2.2.2
  exact R_X4_isRegister_0 C h p1 f h0 hl hS
/-! ContinuedRatios.areRegisters(III)Z -/
def S_X4_areRegisters (E : cx) (h : Nat) (p1 : Int32) (p2 : Int32) (p3 : Int32) (f : hm) (K : Int32 → hm → Prop) : Prop := MI E.1 E.2.1 vwCl (eT E) yX4_areRegisters wsX4_areRegisters ({ frames := 1, cells := 0, slots := 0, locals := 21 }) [.ref h, .int p1, .int p2, .int p3] f K
def X_X4_areRegisters_0 (E : cx) (h : Nat) (p1 : Int32) (p2 : Int32) (p3 : Int32) (f : hm)  (K : Int32 → hm → Prop) : Prop :=
  (isO f h 4 ∧ S_X4_isRegister E h p1 f (fun (r3 : Int32) (f2 : hm) => ((r3 = 0 → (narrow .boolean (.int (0 : Int32)) = .int (0 : Int32) ∧ K (0 : Int32) f2)) ∧ (¬ (r3 = 0) → (isO f2 h 4 ∧ S_X4_isRegister E h p2 f2 (fun (r7 : Int32) (f6 : hm) => ((r7 = 0 → (narrow .boolean (.int (0 : Int32)) = .int (0 : Int32) ∧ K (0 : Int32) f6)) ∧ (¬ (r7 = 0) → (isO f6 h 4 ∧ S_X4_isRegister E h p3 f6 (fun (r11 : Int32) (f10 : hm) => ((r11 = 0 → (narrow .boolean (.int (0 : Int32)) = .int (0 : Int32) ∧ K (0 : Int32) f10)) ∧ (¬ (r11 = 0) → (narrow .boolean (.int (1 : Int32)) = .int (1 : Int32) ∧ K (1 : Int32) f10)))))))))))))
set_option maxRecDepth 100000 in
set_option maxHeartbeats 4000000 in
theorem R_X4_areRegisters_0 {E : cx} {p : Program} {e : Env} {s : State} {m : MethodId} {below : List Frame} {meth : Method} {c : Code} {f0 : hm} {zh : Nat} {zp1 : Int32} {zp2 : Int32} {zp3 : Int32} (C : wB E.2.1 vwCl (eT E) yX4_areRegisters cX4_areRegisters 4 (some .boolean) wsX4_areRegisters [.ref zh, .int zp1, .int zp2, .int zp3] f0 p s m meth c) (h : Nat) (p1 : Int32) (p2 : Int32) (p3 : Int32) (f : hm)  {K : Int32 → hm → Prop} (hv : X_X4_areRegisters_0 E h p1 p2 p3 f  K) {ls : Array Slot} {H : Heap} {locs : List Loc} (hl : lv_has ls 4 [(0, .ref h), (1, .int p1), (2, .int p2), (3, .int p3)]) (hS : wS E.2.1 vwCl (wA f0 s.heap.size) s.heap f H locs)  : W p E.1 e ({ frames := 1, cells := 0, slots := 0, locals := 21 }) s m ([.ref zh, .int zp1, .int zp2, .int zp3] : List Value).toArray below meth c H locs 0 0 (MQ below (wQi f0 E.2.1 vwCl K s) ([.ref zh, .int zp1, .int zp2, .int zp3] : List Value).toArray s 0 0 (wA f0 s.heap.size)) (F0 m 0 ls []) := by
  obtain ⟨hx, hb, hml, hown, hts, hr, hlk, hnm, hK, -⟩ := C
  unfold X_X4_areRegisters_0 at hv
  refine lv_aload_n hx hb dX4_areRegisters_0 rfl (lv_at hl 0 rfl) ?_
  refine lv_iload_n hx hb dX4_areRegisters_1 rfl (lv_at hl 1 rfl) ?_
  obtain ⟨ho1, hv⟩ := hv
  refine fw_callVi hx hb hml hown hts hK hS [.int p1] [] hv gX4_areRegisters_X4_isRegister rfl rfl rfl 1 (by decide +kernel) ⟨Nat.le_of_ble_eq_true rfl, Nat.le_of_ble_eq_true rfl⟩ rfl rfl ho1 rfl hl.1 rfl (Nat.le_of_ble_eq_true rfl) dX4_areRegisters_2 ⟨Nat.zero_le _, Nat.zero_le _⟩ (fun r3 f2 H locs hv hS => ?_)
  refine lv_if_eq (tgt := 28) hx hb dX4_areRegisters_5 (by decide) (fun c4 => ?_) (fun c4 => ?_)
  · have hv := hv.1 c4
    refine lv_iconst (v := 0) hx hb dX4_areRegisters_28 (by decide) ?_
    exact fw_zret hx hb hr hlk hS hv dX4_areRegisters_29
  · have hv := hv.2 c4
    refine lv_aload_n hx hb dX4_areRegisters_8 rfl (lv_at hl 0 rfl) ?_
    refine lv_iload_n hx hb dX4_areRegisters_9 rfl (lv_at hl 2 rfl) ?_
    obtain ⟨ho5, hv⟩ := hv
    refine fw_callVi hx hb hml hown hts hK hS [.int p2] [] hv gX4_areRegisters_X4_isRegister rfl rfl rfl 1 (by decide +kernel) ⟨Nat.le_of_ble_eq_true rfl, Nat.le_of_ble_eq_true rfl⟩ rfl rfl ho5 rfl hl.1 rfl (Nat.le_of_ble_eq_true rfl) dX4_areRegisters_10 ⟨Nat.zero_le _, Nat.zero_le _⟩ (fun r7 f6 H locs hv hS => ?_)
    refine lv_if_eq (tgt := 28) hx hb dX4_areRegisters_13 (by decide) (fun c8 => ?_) (fun c8 => ?_)
    · have hv := hv.1 c8
      refine lv_iconst (v := 0) hx hb dX4_areRegisters_28 (by decide) ?_
      exact fw_zret hx hb hr hlk hS hv dX4_areRegisters_29
    · have hv := hv.2 c8
      refine lv_aload_n hx hb dX4_areRegisters_16 rfl (lv_at hl 0 rfl) ?_
      refine lv_iload_n hx hb dX4_areRegisters_17 rfl (lv_at hl 3 rfl) ?_
      obtain ⟨ho9, hv⟩ := hv
      refine fw_callVi hx hb hml hown hts hK hS [.int p3] [] hv gX4_areRegisters_X4_isRegister rfl rfl rfl 1 (by decide +kernel) ⟨Nat.le_of_ble_eq_true rfl, Nat.le_of_ble_eq_true rfl⟩ rfl rfl ho9 rfl hl.1 rfl (Nat.le_of_ble_eq_true rfl) dX4_areRegisters_18 ⟨Nat.zero_le _, Nat.zero_le _⟩ (fun r11 f10 H locs hv hS => ?_)
      refine lv_if_eq (tgt := 28) hx hb dX4_areRegisters_21 (by decide) (fun c12 => ?_) (fun c12 => ?_)
      · have hv := hv.1 c12
        refine lv_iconst (v := 0) hx hb dX4_areRegisters_28 (by decide) ?_
        exact fw_zret hx hb hr hlk hS hv dX4_areRegisters_29
      · have hv := hv.2 c12
        refine lv_iconst (v := 1) hx hb dX4_areRegisters_24 (by decide) ?_
        refine lv_goto (tgt := 29) hx hb dX4_areRegisters_25 (by decide) ?_
        exact fw_zret hx hb hr hlk hS hv dX4_areRegisters_29
set_option maxRecDepth 100000 in
set_option maxHeartbeats 4000000 in
theorem T_X4_areRegisters {E : cx} {h : Nat} {p1 : Int32} {p2 : Int32} {p3 : Int32} {f : hm} {K : Int32 → hm → Prop}  (h0 : X_X4_areRegisters_0 E h p1 p2 p3 f  K) : S_X4_areRegisters E h p1 p2 p3 f K := by
  refine MI_of (cc := cX4_areRegisters) (maxL := 4) (ret := (some .boolean)) (by decide) rfl ?_
  intro p e s m below meth c C
  have hl := lv_entry ([.ref h, .int p1, .int p2, .int p3]) (n := 4) (Nat.le_of_ble_eq_true rfl)
  rw [lg_entry_eq]
  generalize (lg_sl ([.ref h, .int p1, .int p2, .int p3]) ++ List.replicate (4 - (lg_sl ([.ref h, .int p1, .int p2, .int p3])).length) Slot.unset).toArray = ls at hl ⊢
  have hl : lv_has ls 4 [(0, .ref h), (1, .int p1), (2, .int p2), (3, .int p3)] := hl
  have hS := C.2.2.2.2.2.2.2.2.2
  exact R_X4_areRegisters_0 C h p1 p2 p3 f h0 hl hS
/-! ContinuedRatios.keepResult(I)I -/
def S_X4_keepResult (E : cx) (h : Nat) (p1 : Int32) (f : hm) (K : Int32 → hm → Prop) : Prop := MI E.1 E.2.1 vwCl (eT E) yX4_keepResult wsX4_keepResult ({ frames := 3, cells := 0, slots := 0, locals := 64 }) [.ref h, .int p1] f K
theorem mm_X4_keepResult_0 : Cond.fieldLink RX4 20 "ContinuedRatios" "result" "LContinuedRatios$Fraction;" ∈ wsX4_keepResult := by decide +kernel
theorem mm_X4_keepResult_1 : Cond.fieldLink RX4 88 "ContinuedRatios$Fraction" "upper" "LContinuedRatios$Natural;" ∈ wsX4_keepResult := by decide +kernel
theorem mm_X4_keepResult_2 : Cond.fieldLink RX4 167 "ContinuedRatios$Natural" "length" "I" ∈ wsX4_keepResult := by decide +kernel
theorem mm_X4_keepResult_3 : Cond.fieldLink RX4 69 "ContinuedRatios" "width" "I" ∈ wsX4_keepResult := by decide +kernel
theorem mm_X4_keepResult_4 : Cond.fieldLink RX4 77 "ContinuedRatios$Fraction" "lower" "LContinuedRatios$Natural;" ∈ wsX4_keepResult := by decide +kernel
theorem mm_X4_keepResult_5 : Cond.fieldLink RX4 73 "ContinuedRatios" "registers" "[LContinuedRatios$Fraction;" ∈ wsX4_keepResult := by decide +kernel
theorem ii_X4_keepResult_X4 : ∀ w ∈ u_ws RX4 TX4 14, w ∈ wsX4_keepResult := by decide +kernel
theorem ii_X4_keepResult_X0 : ∀ w ∈ u_ws RX0 TX0 3, w ∈ wsX4_keepResult := by decide +kernel
theorem ii_X4_keepResult_X1 : ∀ w ∈ u_ws RX1 TX1 2, w ∈ wsX4_keepResult := by decide +kernel
def X_X4_keepResult_0 (E : cx) (h : Nat) (p1 : Int32) (f : hm)  (K : Int32 → hm → Prop) : Prop :=
  (∃ v1 : Nat, rdV f h 4 3 = some (.ref v1) ∧ (∃ v2 : Nat, rdV f v1 0 1 = some (.ref v2) ∧ (∃ v3 : Int32, rdV f v2 1 1 = some (.int v3) ∧ (∃ v4 : Int32, rdV f h 4 0 = some (.int v4) ∧ ((v4 < v3 → K (1 : Int32) f) ∧ (¬ (v4 < v3) → (∃ v6 : Nat, rdV f h 4 3 = some (.ref v6) ∧ (∃ v7 : Nat, rdV f v6 0 2 = some (.ref v7) ∧ (∃ v8 : Int32, rdV f v7 1 1 = some (.int v8) ∧ (∃ v9 : Int32, rdV f h 4 0 = some (.int v9) ∧ ((v8 ≤ v9 → (∃ v11 : Nat, rdV f h 4 1 = some (.ref v11) ∧ (∃ v12 : Nat, rdQ (eF E) f v11 p1 = some (some v12) ∧ (∃ v13 : Nat, rdV f h 4 3 = some (.ref v13) ∧ (isO f v12 0 ∧ S_X0_become E v12 v13 f (fun (f15 : hm) => K (0 : Int32) f15)))))) ∧ (¬ (v8 ≤ v9) → K (1 : Int32) f))))))))))))
set_option maxRecDepth 100000 in
set_option maxHeartbeats 4000000 in
theorem R_X4_keepResult_0 {E : cx} {p : Program} {e : Env} {s : State} {m : MethodId} {below : List Frame} {meth : Method} {c : Code} {f0 : hm} {zh : Nat} {zp1 : Int32} (C : wB E.2.1 vwCl (eT E) yX4_keepResult cX4_keepResult 2 (some .int) wsX4_keepResult [.ref zh, .int zp1] f0 p s m meth c) (h : Nat) (p1 : Int32) (f : hm)  {K : Int32 → hm → Prop} (hv : X_X4_keepResult_0 E h p1 f  K) {ls : Array Slot} {H : Heap} {locs : List Loc} (hl : lv_has ls 2 [(0, .ref h), (1, .int p1)]) (hS : wS E.2.1 vwCl (wA f0 s.heap.size) s.heap f H locs)  : W p E.1 e ({ frames := 3, cells := 0, slots := 0, locals := 64 }) s m ([.ref zh, .int zp1] : List Value).toArray below meth c H locs 0 0 (MQ below (wQi f0 E.2.1 vwCl K s) ([.ref zh, .int zp1] : List Value).toArray s 0 0 (wA f0 s.heap.size)) (F0 m 0 ls []) := by
  obtain ⟨hx, hb, hml, hown, hts, hr, hlk, hnm, hK, -⟩ := C
  unfold X_X4_keepResult_0 at hv
  refine lv_aload_n hx hb dX4_keepResult_0 rfl (lv_at hl 0 rfl) ?_
  obtain ⟨v1, ev1, hv⟩ := hv
  refine fw_get hx hb hts ii_X4_keepResult_X4 hown hK hS 3 ev1 rfl (by decide) mm_X4_keepResult_0 rfl dX4_keepResult_1 ?_
  obtain ⟨v2, ev2, hv⟩ := hv
  refine fw_get hx hb hts ii_X4_keepResult_X0 hown hK hS 1 ev2 rfl (by decide) mm_X4_keepResult_1 rfl dX4_keepResult_4 ?_
  obtain ⟨v3, ev3, hv⟩ := hv
  refine fw_get hx hb hts ii_X4_keepResult_X1 hown hK hS 1 ev3 rfl (by decide) mm_X4_keepResult_2 rfl dX4_keepResult_7 ?_
  refine lv_aload_n hx hb dX4_keepResult_10 rfl (lv_at hl 0 rfl) ?_
  obtain ⟨v4, ev4, hv⟩ := hv
  refine fw_get hx hb hts ii_X4_keepResult_X4 hown hK hS 0 ev4 rfl (by decide) mm_X4_keepResult_3 rfl dX4_keepResult_11 ?_
  refine lv_icmp_gt (tgt := 34) hx hb dX4_keepResult_14 (by decide) (fun c5 => ?_) (fun c5 => ?_)
  · have hv := hv.1 c5
    refine lv_iconst (v := 1) hx hb dX4_keepResult_34 (by decide) ?_
    exact fw_iret hx hb hr hlk hS hv dX4_keepResult_35
  · have hv := hv.2 c5
    refine lv_aload_n hx hb dX4_keepResult_17 rfl (lv_at hl 0 rfl) ?_
    obtain ⟨v6, ev6, hv⟩ := hv
    refine fw_get hx hb hts ii_X4_keepResult_X4 hown hK hS 3 ev6 rfl (by decide) mm_X4_keepResult_0 rfl dX4_keepResult_18 ?_
    obtain ⟨v7, ev7, hv⟩ := hv
    refine fw_get hx hb hts ii_X4_keepResult_X0 hown hK hS 2 ev7 rfl (by decide) mm_X4_keepResult_4 rfl dX4_keepResult_21 ?_
    obtain ⟨v8, ev8, hv⟩ := hv
    refine fw_get hx hb hts ii_X4_keepResult_X1 hown hK hS 1 ev8 rfl (by decide) mm_X4_keepResult_2 rfl dX4_keepResult_24 ?_
    refine lv_aload_n hx hb dX4_keepResult_27 rfl (lv_at hl 0 rfl) ?_
    obtain ⟨v9, ev9, hv⟩ := hv
    refine fw_get hx hb hts ii_X4_keepResult_X4 hown hK hS 0 ev9 rfl (by decide) mm_X4_keepResult_3 rfl dX4_keepResult_28 ?_
    refine lv_icmp_le (tgt := 36) hx hb dX4_keepResult_31 (by decide) (fun c10 => ?_) (fun c10 => ?_)
    · have hv := hv.1 c10
      refine lv_aload_n hx hb dX4_keepResult_36 rfl (lv_at hl 0 rfl) ?_
      obtain ⟨v11, ev11, hv⟩ := hv
      refine fw_get hx hb hts ii_X4_keepResult_X4 hown hK hS 1 ev11 rfl (by decide) mm_X4_keepResult_5 rfl dX4_keepResult_37 ?_
      refine lv_iload_n hx hb dX4_keepResult_40 rfl (lv_at hl 1 rfl) ?_
      obtain ⟨v12, ev12, hv⟩ := hv
      refine fw_aald hx hb hK hS 1 rfl ev12 dX4_keepResult_41 ?_
      refine lv_aload_n hx hb dX4_keepResult_42 rfl (lv_at hl 0 rfl) ?_
      obtain ⟨v13, ev13, hv⟩ := hv
      refine fw_get hx hb hts ii_X4_keepResult_X4 hown hK hS 3 ev13 rfl (by decide) mm_X4_keepResult_0 rfl dX4_keepResult_43 ?_
      obtain ⟨ho14, hv⟩ := hv
      refine fw_callVv hx hb hml hown hts hK hS [.ref v13] [] hv gX4_keepResult_X0_become rfl rfl rfl 1 (by decide +kernel) ⟨Nat.le_of_ble_eq_true rfl, Nat.le_of_ble_eq_true rfl⟩ rfl rfl ho14 rfl hl.1 rfl (Nat.le_of_ble_eq_true rfl) dX4_keepResult_46 ⟨Nat.zero_le _, Nat.zero_le _⟩ (fun f15 H locs hv hS => ?_)
      refine lv_iconst (v := 0) hx hb dX4_keepResult_49 (by decide) ?_
      exact fw_iret hx hb hr hlk hS hv dX4_keepResult_50
    · have hv := hv.2 c10
      refine lv_iconst (v := 1) hx hb dX4_keepResult_34 (by decide) ?_
      exact fw_iret hx hb hr hlk hS hv dX4_keepResult_35
set_option maxRecDepth 100000 in
set_option maxHeartbeats 4000000 in
theorem T_X4_keepResult {E : cx} {h : Nat} {p1 : Int32} {f : hm} {K : Int32 → hm → Prop}  (h0 : X_X4_keepResult_0 E h p1 f  K) : S_X4_keepResult E h p1 f K := by
  refine MI_of (cc := cX4_keepResult) (maxL := 2) (ret := (some .int)) (by decide) rfl ?_
  intro p e s m below meth c C
  have hl := lv_entry ([.ref h, .int p1]) (n := 2) (Nat.le_of_ble_eq_true rfl)
  rw [lg_entry_eq]
  generalize (lg_sl ([.ref h, .int p1]) ++ List.replicate (2 - (lg_sl ([.ref h, .int p1])).length) Slot.unset).toArray = ls at hl ⊢
  have hl : lv_has ls 2 [(0, .ref h), (1, .int p1)] := hl
  have hS := C.2.2.2.2.2.2.2.2.2
  exact R_X4_keepResult_0 C h p1 f h0 hl hS
/-! ContinuedRatios.addUpperNumbers(II)V -/
def S_X4_addUpperNumbers (E : cx) (h : Nat) (p1 : Int32) (p2 : Int32) (f : hm) (K : hm → Prop) : Prop := MV E.1 E.2.1 vwCl (eT E) yX4_addUpperNumbers wsX4_addUpperNumbers ({ frames := 2, cells := 0, slots := 0, locals := 49 }) [.ref h, .int p1, .int p2] f K
theorem mm_X4_addUpperNumbers_0 : Cond.fieldLink RX4 40 "ContinuedRatios" "leftUpper" "LContinuedRatios$Natural;" ∈ wsX4_addUpperNumbers := by decide +kernel
theorem mm_X4_addUpperNumbers_1 : Cond.fieldLink RX4 47 "ContinuedRatios" "rightUpper" "LContinuedRatios$Natural;" ∈ wsX4_addUpperNumbers := by decide +kernel
theorem mm_X4_addUpperNumbers_2 : Cond.fieldLink RX4 20 "ContinuedRatios" "result" "LContinuedRatios$Fraction;" ∈ wsX4_addUpperNumbers := by decide +kernel
theorem mm_X4_addUpperNumbers_3 : Cond.fieldLink RX4 88 "ContinuedRatios$Fraction" "upper" "LContinuedRatios$Natural;" ∈ wsX4_addUpperNumbers := by decide +kernel
theorem mm_X4_addUpperNumbers_4 : Cond.fieldLink RX4 101 "ContinuedRatios$Fraction" "signum" "I" ∈ wsX4_addUpperNumbers := by decide +kernel
theorem ii_X4_addUpperNumbers_X4 : ∀ w ∈ u_ws RX4 TX4 14, w ∈ wsX4_addUpperNumbers := by decide +kernel
theorem ii_X4_addUpperNumbers_X0 : ∀ w ∈ u_ws RX0 TX0 3, w ∈ wsX4_addUpperNumbers := by decide +kernel
def X_X4_addUpperNumbers_0 (E : cx) (h : Nat) (p1 : Int32) (p2 : Int32) (f : hm)  (K : hm → Prop) : Prop :=
  (((p1 * p2) < 0 → (∃ v2 : Nat, rdV f h 4 6 = some (.ref v2) ∧ (∃ v3 : Nat, rdV f h 4 8 = some (.ref v3) ∧ (isO f v2 1 ∧ S_X1_compareWith E v2 v3 f (fun (r6 : Int32) (f5 : hm) => ((r6 < 0 → (∃ v8 : Nat, rdV f5 h 4 3 = some (.ref v8) ∧ (∃ v9 : Nat, rdV f5 v8 0 1 = some (.ref v9) ∧ (∃ v10 : Nat, rdV f5 h 4 8 = some (.ref v10) ∧ (∃ v11 : Nat, rdV f5 h 4 6 = some (.ref v11) ∧ (isO f5 v9 1 ∧ S_X1_becomeDifference E v9 v10 v11 f5 (fun (f13 : hm) => (∃ v14 : Nat, rdV f13 h 4 3 = some (.ref v14) ∧ (∃ f15 : hm, wrV f13 v14 0 0 (.int (p1 * r6)) = some f15 ∧ K f15))))))))) ∧ (¬ (r6 < 0) → (∃ v16 : Nat, rdV f5 h 4 3 = some (.ref v16) ∧ (∃ v17 : Nat, rdV f5 v16 0 1 = some (.ref v17) ∧ (∃ v18 : Nat, rdV f5 h 4 6 = some (.ref v18) ∧ (∃ v19 : Nat, rdV f5 h 4 8 = some (.ref v19) ∧ (isO f5 v17 1 ∧ S_X1_becomeDifference E v17 v18 v19 f5 (fun (f21 : hm) => (∃ v22 : Nat, rdV f21 h 4 3 = some (.ref v22) ∧ (∃ f23 : hm, wrV f21 v22 0 0 (.int (p1 * r6)) = some f23 ∧ K f23))))))))))))))) ∧ (¬ ((p1 * p2) < 0) → (∃ v24 : Nat, rdV f h 4 3 = some (.ref v24) ∧ (∃ v25 : Nat, rdV f v24 0 1 = some (.ref v25) ∧ (∃ v26 : Nat, rdV f h 4 6 = some (.ref v26) ∧ (∃ v27 : Nat, rdV f h 4 8 = some (.ref v27) ∧ (isO f v25 1 ∧ S_X1_becomeSum E v25 v26 v27 f (fun (f29 : hm) => (∃ v30 : Nat, rdV f29 h 4 3 = some (.ref v30) ∧ ((p1 = 0 → (∃ f32 : hm, wrV f29 v30 0 0 (.int p2) = some f32 ∧ K f32)) ∧ (¬ (p1 = 0) → (∃ f33 : hm, wrV f29 v30 0 0 (.int p1) = some f33 ∧ K f33))))))))))))
set_option maxRecDepth 100000 in
set_option maxHeartbeats 4000000 in
theorem R_X4_addUpperNumbers_0 {E : cx} {p : Program} {e : Env} {s : State} {m : MethodId} {below : List Frame} {meth : Method} {c : Code} {f0 : hm} {zh : Nat} {zp1 : Int32} {zp2 : Int32} (C : wB E.2.1 vwCl (eT E) yX4_addUpperNumbers cX4_addUpperNumbers 4 none wsX4_addUpperNumbers [.ref zh, .int zp1, .int zp2] f0 p s m meth c) (h : Nat) (p1 : Int32) (p2 : Int32) (f : hm)  {K : hm → Prop} (hv : X_X4_addUpperNumbers_0 E h p1 p2 f  K) {ls : Array Slot} {H : Heap} {locs : List Loc} (hl : lv_has ls 4 [(0, .ref h), (1, .int p1), (2, .int p2)]) (hS : wS E.2.1 vwCl (wA f0 s.heap.size) s.heap f H locs)  : W p E.1 e ({ frames := 2, cells := 0, slots := 0, locals := 49 }) s m ([.ref zh, .int zp1, .int zp2] : List Value).toArray below meth c H locs 0 0 (MQ below (wQv f0 E.2.1 vwCl K s) ([.ref zh, .int zp1, .int zp2] : List Value).toArray s 0 0 (wA f0 s.heap.size)) (F0 m 0 ls []) := by
  obtain ⟨hx, hb, hml, hown, hts, hr, hlk, hnm, hK, -⟩ := C
  unfold X_X4_addUpperNumbers_0 at hv
  refine lv_iload_n hx hb dX4_addUpperNumbers_0 rfl (lv_at hl 1 rfl) ?_
  refine lv_iload_n hx hb dX4_addUpperNumbers_1 rfl (lv_at hl 2 rfl) ?_
  refine lv_imul hx hb dX4_addUpperNumbers_2 ?_
  refine lv_if_lt (tgt := 41) hx hb dX4_addUpperNumbers_3 (by decide) (fun c1 => ?_) (fun c1 => ?_)
  · have hv := hv.1 c1
    refine lv_aload_n hx hb dX4_addUpperNumbers_41 rfl (lv_at hl 0 rfl) ?_
    obtain ⟨v2, ev2, hv⟩ := hv
    refine fw_get hx hb hts ii_X4_addUpperNumbers_X4 hown hK hS 6 ev2 rfl (by decide) mm_X4_addUpperNumbers_0 rfl dX4_addUpperNumbers_42 ?_
    refine lv_aload_n hx hb dX4_addUpperNumbers_45 rfl (lv_at hl 0 rfl) ?_
    obtain ⟨v3, ev3, hv⟩ := hv
    refine fw_get hx hb hts ii_X4_addUpperNumbers_X4 hown hK hS 8 ev3 rfl (by decide) mm_X4_addUpperNumbers_1 rfl dX4_addUpperNumbers_46 ?_
    obtain ⟨ho4, hv⟩ := hv
    refine fw_callVi hx hb hml hown hts hK hS [.ref v3] [] hv gX4_addUpperNumbers_X1_compareWith rfl rfl rfl 1 (by decide +kernel) ⟨Nat.le_of_ble_eq_true rfl, Nat.le_of_ble_eq_true rfl⟩ rfl rfl ho4 rfl hl.1 rfl (Nat.le_of_ble_eq_true rfl) dX4_addUpperNumbers_49 ⟨Nat.zero_le _, Nat.zero_le _⟩ (fun r6 f5 H locs hv hS => ?_)
    refine lv_istore_n (lv' := [(3, .int r6), (0, .ref h), (1, .int p1), (2, .int p2)]) hx hb dX4_addUpperNumbers_52 rfl hl (by decide) rfl (fun ls hl => ?_)
    refine lv_iload_n hx hb dX4_addUpperNumbers_53 rfl (lv_at hl 0 rfl) ?_
    refine lv_if_lt (tgt := 78) hx hb dX4_addUpperNumbers_54 (by decide) (fun c7 => ?_) (fun c7 => ?_)
    · have hv := hv.1 c7
      refine lv_aload_n hx hb dX4_addUpperNumbers_78 rfl (lv_at hl 1 rfl) ?_
      obtain ⟨v8, ev8, hv⟩ := hv
      refine fw_get hx hb hts ii_X4_addUpperNumbers_X4 hown hK hS 3 ev8 rfl (by decide) mm_X4_addUpperNumbers_2 rfl dX4_addUpperNumbers_79 ?_
      obtain ⟨v9, ev9, hv⟩ := hv
      refine fw_get hx hb hts ii_X4_addUpperNumbers_X0 hown hK hS 1 ev9 rfl (by decide) mm_X4_addUpperNumbers_3 rfl dX4_addUpperNumbers_82 ?_
      refine lv_aload_n hx hb dX4_addUpperNumbers_85 rfl (lv_at hl 1 rfl) ?_
      obtain ⟨v10, ev10, hv⟩ := hv
      refine fw_get hx hb hts ii_X4_addUpperNumbers_X4 hown hK hS 8 ev10 rfl (by decide) mm_X4_addUpperNumbers_1 rfl dX4_addUpperNumbers_86 ?_
      refine lv_aload_n hx hb dX4_addUpperNumbers_89 rfl (lv_at hl 1 rfl) ?_
      obtain ⟨v11, ev11, hv⟩ := hv
      refine fw_get hx hb hts ii_X4_addUpperNumbers_X4 hown hK hS 6 ev11 rfl (by decide) mm_X4_addUpperNumbers_0 rfl dX4_addUpperNumbers_90 ?_
      obtain ⟨ho12, hv⟩ := hv
      refine fw_callVv hx hb hml hown hts hK hS [.ref v10, .ref v11] [] hv gX4_addUpperNumbers_X1_becomeDifference rfl rfl rfl 2 (by decide +kernel) ⟨Nat.le_of_ble_eq_true rfl, Nat.le_of_ble_eq_true rfl⟩ rfl rfl ho12 rfl hl.1 rfl (Nat.le_of_ble_eq_true rfl) dX4_addUpperNumbers_93 ⟨Nat.zero_le _, Nat.zero_le _⟩ (fun f13 H locs hv hS => ?_)
      refine lv_aload_n hx hb dX4_addUpperNumbers_96 rfl (lv_at hl 1 rfl) ?_
      obtain ⟨v14, ev14, hv⟩ := hv
      refine fw_get hx hb hts ii_X4_addUpperNumbers_X4 hown hK hS 3 ev14 rfl (by decide) mm_X4_addUpperNumbers_2 rfl dX4_addUpperNumbers_97 ?_
      refine lv_iload_n hx hb dX4_addUpperNumbers_100 rfl (lv_at hl 2 rfl) ?_
      refine lv_iload_n hx hb dX4_addUpperNumbers_101 rfl (lv_at hl 0 rfl) ?_
      refine lv_imul hx hb dX4_addUpperNumbers_102 ?_
      obtain ⟨f15, ef15, hv⟩ := hv
      refine fw_put hx hb hts ii_X4_addUpperNumbers_X0 tyX0 tyX0_ok nmX0 hown hK hS 0 ef15 rfl (by decide) mm_X4_addUpperNumbers_4 rfl rfl rfl rfl dX4_addUpperNumbers_103 (fun H locs hS => ?_)
      exact fw_vret hx hb hr hlk hS hv dX4_addUpperNumbers_106
    · have hv := hv.2 c7
      refine lv_aload_n hx hb dX4_addUpperNumbers_57 rfl (lv_at hl 1 rfl) ?_
      obtain ⟨v16, ev16, hv⟩ := hv
      refine fw_get hx hb hts ii_X4_addUpperNumbers_X4 hown hK hS 3 ev16 rfl (by decide) mm_X4_addUpperNumbers_2 rfl dX4_addUpperNumbers_58 ?_
      obtain ⟨v17, ev17, hv⟩ := hv
      refine fw_get hx hb hts ii_X4_addUpperNumbers_X0 hown hK hS 1 ev17 rfl (by decide) mm_X4_addUpperNumbers_3 rfl dX4_addUpperNumbers_61 ?_
      refine lv_aload_n hx hb dX4_addUpperNumbers_64 rfl (lv_at hl 1 rfl) ?_
      obtain ⟨v18, ev18, hv⟩ := hv
      refine fw_get hx hb hts ii_X4_addUpperNumbers_X4 hown hK hS 6 ev18 rfl (by decide) mm_X4_addUpperNumbers_0 rfl dX4_addUpperNumbers_65 ?_
      refine lv_aload_n hx hb dX4_addUpperNumbers_68 rfl (lv_at hl 1 rfl) ?_
      obtain ⟨v19, ev19, hv⟩ := hv
      refine fw_get hx hb hts ii_X4_addUpperNumbers_X4 hown hK hS 8 ev19 rfl (by decide) mm_X4_addUpperNumbers_1 rfl dX4_addUpperNumbers_69 ?_
      obtain ⟨ho20, hv⟩ := hv
      refine fw_callVv hx hb hml hown hts hK hS [.ref v18, .ref v19] [] hv gX4_addUpperNumbers_X1_becomeDifference rfl rfl rfl 2 (by decide +kernel) ⟨Nat.le_of_ble_eq_true rfl, Nat.le_of_ble_eq_true rfl⟩ rfl rfl ho20 rfl hl.1 rfl (Nat.le_of_ble_eq_true rfl) dX4_addUpperNumbers_72 ⟨Nat.zero_le _, Nat.zero_le _⟩ (fun f21 H locs hv hS => ?_)
      refine lv_goto (tgt := 96) hx hb dX4_addUpperNumbers_75 (by decide) ?_
      refine lv_aload_n hx hb dX4_addUpperNumbers_96 rfl (lv_at hl 1 rfl) ?_
      obtain ⟨v22, ev22, hv⟩ := hv
      refine fw_get hx hb hts ii_X4_addUpperNumbers_X4 hown hK hS 3 ev22 rfl (by decide) mm_X4_addUpperNumbers_2 rfl dX4_addUpperNumbers_97 ?_
      refine lv_iload_n hx hb dX4_addUpperNumbers_100 rfl (lv_at hl 2 rfl) ?_
      refine lv_iload_n hx hb dX4_addUpperNumbers_101 rfl (lv_at hl 0 rfl) ?_
      refine lv_imul hx hb dX4_addUpperNumbers_102 ?_
      obtain ⟨f23, ef23, hv⟩ := hv
      refine fw_put hx hb hts ii_X4_addUpperNumbers_X0 tyX0 tyX0_ok nmX0 hown hK hS 0 ef23 rfl (by decide) mm_X4_addUpperNumbers_4 rfl rfl rfl rfl dX4_addUpperNumbers_103 (fun H locs hS => ?_)
      exact fw_vret hx hb hr hlk hS hv dX4_addUpperNumbers_106
  · have hv := hv.2 c1
    refine lv_aload_n hx hb dX4_addUpperNumbers_6 rfl (lv_at hl 0 rfl) ?_
    obtain ⟨v24, ev24, hv⟩ := hv
    refine fw_get hx hb hts ii_X4_addUpperNumbers_X4 hown hK hS 3 ev24 rfl (by decide) mm_X4_addUpperNumbers_2 rfl dX4_addUpperNumbers_7 ?_
    obtain ⟨v25, ev25, hv⟩ := hv
    refine fw_get hx hb hts ii_X4_addUpperNumbers_X0 hown hK hS 1 ev25 rfl (by decide) mm_X4_addUpperNumbers_3 rfl dX4_addUpperNumbers_10 ?_
    refine lv_aload_n hx hb dX4_addUpperNumbers_13 rfl (lv_at hl 0 rfl) ?_
    obtain ⟨v26, ev26, hv⟩ := hv
    refine fw_get hx hb hts ii_X4_addUpperNumbers_X4 hown hK hS 6 ev26 rfl (by decide) mm_X4_addUpperNumbers_0 rfl dX4_addUpperNumbers_14 ?_
    refine lv_aload_n hx hb dX4_addUpperNumbers_17 rfl (lv_at hl 0 rfl) ?_
    obtain ⟨v27, ev27, hv⟩ := hv
    refine fw_get hx hb hts ii_X4_addUpperNumbers_X4 hown hK hS 8 ev27 rfl (by decide) mm_X4_addUpperNumbers_1 rfl dX4_addUpperNumbers_18 ?_
    obtain ⟨ho28, hv⟩ := hv
    refine fw_callVv hx hb hml hown hts hK hS [.ref v26, .ref v27] [] hv gX4_addUpperNumbers_X1_becomeSum rfl rfl rfl 2 (by decide +kernel) ⟨Nat.le_of_ble_eq_true rfl, Nat.le_of_ble_eq_true rfl⟩ rfl rfl ho28 rfl hl.1 rfl (Nat.le_of_ble_eq_true rfl) dX4_addUpperNumbers_21 ⟨Nat.zero_le _, Nat.zero_le _⟩ (fun f29 H locs hv hS => ?_)
    refine lv_aload_n hx hb dX4_addUpperNumbers_24 rfl (lv_at hl 0 rfl) ?_
    obtain ⟨v30, ev30, hv⟩ := hv
    refine fw_get hx hb hts ii_X4_addUpperNumbers_X4 hown hK hS 3 ev30 rfl (by decide) mm_X4_addUpperNumbers_2 rfl dX4_addUpperNumbers_25 ?_
    refine lv_iload_n hx hb dX4_addUpperNumbers_28 rfl (lv_at hl 1 rfl) ?_
    refine lv_if_eq (tgt := 36) hx hb dX4_addUpperNumbers_29 (by decide) (fun c31 => ?_) (fun c31 => ?_)
    · have hv := hv.1 c31
      refine lv_iload_n hx hb dX4_addUpperNumbers_36 rfl (lv_at hl 2 rfl) ?_
      obtain ⟨f32, ef32, hv⟩ := hv
      refine fw_put hx hb hts ii_X4_addUpperNumbers_X0 tyX0 tyX0_ok nmX0 hown hK hS 0 ef32 rfl (by decide) mm_X4_addUpperNumbers_4 rfl rfl rfl rfl dX4_addUpperNumbers_37 (fun H locs hS => ?_)
      exact fw_vret hx hb hr hlk hS hv dX4_addUpperNumbers_40
    · have hv := hv.2 c31
      refine lv_iload_n hx hb dX4_addUpperNumbers_32 rfl (lv_at hl 1 rfl) ?_
      refine lv_goto (tgt := 37) hx hb dX4_addUpperNumbers_33 (by decide) ?_
      obtain ⟨f33, ef33, hv⟩ := hv
      refine fw_put hx hb hts ii_X4_addUpperNumbers_X0 tyX0 tyX0_ok nmX0 hown hK hS 0 ef33 rfl (by decide) mm_X4_addUpperNumbers_4 rfl rfl rfl rfl dX4_addUpperNumbers_37 (fun H locs hS => ?_)
      exact fw_vret hx hb hr hlk hS hv dX4_addUpperNumbers_40
set_option maxRecDepth 100000 in
set_option maxHeartbeats 4000000 in
theorem T_X4_addUpperNumbers {E : cx} {h : Nat} {p1 : Int32} {p2 : Int32} {f : hm} {K : hm → Prop}  (h0 : X_X4_addUpperNumbers_0 E h p1 p2 f  K) : S_X4_addUpperNumbers E h p1 p2 f K := by
  refine MV_of (cc := cX4_addUpperNumbers) (maxL := 4) (ret := none) (by decide) rfl ?_
  intro p e s m below meth c C
  have hl := lv_entry ([.ref h, .int p1, .int p2]) (n := 4) (Nat.le_of_ble_eq_true rfl)
  rw [lg_entry_eq]
  generalize (lg_sl ([.ref h, .int p1, .int p2]) ++ List.replicate (4 - (lg_sl ([.ref h, .int p1, .int p2])).length) Slot.unset).toArray = ls at hl ⊢
  have hl : lv_has ls 4 [(0, .ref h), (1, .int p1), (2, .int p2)] := hl
  have hS := C.2.2.2.2.2.2.2.2.2
  exact R_X4_addUpperNumbers_0 C h p1 p2 f h0 hl hS
/-! ContinuedRatios.addUp(LContinuedRatios$Fraction;LContinuedRatios$Fraction;I)V -/
def S_X4_addUp (E : cx) (h : Nat) (p1 : Nat) (p2 : Nat) (p3 : Int32) (f : hm) (K : hm → Prop) : Prop := MV E.1 E.2.1 vwCl (eT E) yX4_addUp wsX4_addUp ({ frames := 5, cells := 0, slots := 0, locals := 138 }) [.ref h, .ref p1, .ref p2, .int p3] f K
theorem mm_X4_addUp_0 : Cond.fieldLink RX4 44 "ContinuedRatios" "leftLower" "LContinuedRatios$Natural;" ∈ wsX4_addUp := by decide +kernel
theorem mm_X4_addUp_1 : Cond.fieldLink RX4 77 "ContinuedRatios$Fraction" "lower" "LContinuedRatios$Natural;" ∈ wsX4_addUp := by decide +kernel
theorem mm_X4_addUp_2 : Cond.fieldLink RX4 50 "ContinuedRatios" "rightLower" "LContinuedRatios$Natural;" ∈ wsX4_addUp := by decide +kernel
theorem mm_X4_addUp_3 : Cond.fieldLink RX4 26 "ContinuedRatios" "reducer" "LContinuedRatios$Reducer;" ∈ wsX4_addUp := by decide +kernel
theorem mm_X4_addUp_4 : Cond.fieldLink RX4 53 "ContinuedRatios" "shared" "LContinuedRatios$Natural;" ∈ wsX4_addUp := by decide +kernel
theorem mm_X4_addUp_5 : Cond.fieldLink RX4 170 "ContinuedRatios$Reducer" "divisor" "LContinuedRatios$Natural;" ∈ wsX4_addUp := by decide +kernel
theorem mm_X4_addUp_6 : Cond.fieldLink RX4 40 "ContinuedRatios" "leftUpper" "LContinuedRatios$Natural;" ∈ wsX4_addUp := by decide +kernel
theorem mm_X4_addUp_7 : Cond.fieldLink RX4 88 "ContinuedRatios$Fraction" "upper" "LContinuedRatios$Natural;" ∈ wsX4_addUp := by decide +kernel
theorem mm_X4_addUp_8 : Cond.fieldLink RX4 47 "ContinuedRatios" "rightUpper" "LContinuedRatios$Natural;" ∈ wsX4_addUp := by decide +kernel
theorem mm_X4_addUp_9 : Cond.fieldLink RX4 101 "ContinuedRatios$Fraction" "signum" "I" ∈ wsX4_addUp := by decide +kernel
theorem mm_X4_addUp_10 : Cond.fieldLink RX4 20 "ContinuedRatios" "result" "LContinuedRatios$Fraction;" ∈ wsX4_addUp := by decide +kernel
theorem mm_X4_addUp_11 : Cond.fieldLink RX4 56 "ContinuedRatios" "product" "LContinuedRatios$Natural;" ∈ wsX4_addUp := by decide +kernel
theorem ii_X4_addUp_X4 : ∀ w ∈ u_ws RX4 TX4 14, w ∈ wsX4_addUp := by decide +kernel
theorem ii_X4_addUp_X0 : ∀ w ∈ u_ws RX0 TX0 3, w ∈ wsX4_addUp := by decide +kernel
theorem ii_X4_addUp_X3 : ∀ w ∈ u_ws RX3 TX3 3, w ∈ wsX4_addUp := by decide +kernel
def X_X4_addUp_0 (E : cx) (h : Nat) (p1 : Nat) (p2 : Nat) (p3 : Int32) (f : hm)  (K : hm → Prop) : Prop :=
  (∃ v1 : Nat, rdV f h 4 7 = some (.ref v1) ∧ (∃ v2 : Nat, rdV f p1 0 2 = some (.ref v2) ∧ (isO f v1 1 ∧ S_X1_become_ E v1 v2 f (fun (f4 : hm) => (∃ v5 : Nat, rdV f4 h 4 9 = some (.ref v5) ∧ (∃ v6 : Nat, rdV f4 p2 0 2 = some (.ref v6) ∧ (isO f4 v5 1 ∧ S_X1_become_ E v5 v6 f4 (fun (f8 : hm) => (∃ v9 : Nat, rdV f8 h 4 4 = some (.ref v9) ∧ (∃ v10 : Nat, rdV f8 h 4 7 = some (.ref v10) ∧ (∃ v11 : Nat, rdV f8 h 4 9 = some (.ref v11) ∧ (isO f8 v9 3 ∧ S_X3_reduce E v9 v10 v11 f8 (fun (f13 : hm) => (∃ v14 : Nat, rdV f13 h 4 10 = some (.ref v14) ∧ (∃ v15 : Nat, rdV f13 h 4 4 = some (.ref v15) ∧ (∃ v16 : Nat, rdV f13 v15 3 0 = some (.ref v16) ∧ (isO f13 v14 1 ∧ S_X1_become_ E v14 v16 f13 (fun (f18 : hm) => (∃ v19 : Nat, rdV f18 h 4 6 = some (.ref v19) ∧ (∃ v20 : Nat, rdV f18 p1 0 1 = some (.ref v20) ∧ (∃ v21 : Nat, rdV f18 h 4 9 = some (.ref v21) ∧ (isO f18 v19 1 ∧ S_X1_becomeProduct E v19 v20 v21 f18 (fun (f23 : hm) => (∃ v24 : Nat, rdV f23 h 4 8 = some (.ref v24) ∧ (∃ v25 : Nat, rdV f23 p2 0 1 = some (.ref v25) ∧ (∃ v26 : Nat, rdV f23 h 4 7 = some (.ref v26) ∧ (isO f23 v24 1 ∧ S_X1_becomeProduct E v24 v25 v26 f23 (fun (f28 : hm) => (∃ v29 : Int32, rdV f28 p1 0 0 = some (.int v29) ∧ (isO f28 h 4 ∧ S_X4_addUpperNumbers E h v29 p3 f28 (fun (f31 : hm) => (∃ v32 : Nat, rdV f31 h 4 4 = some (.ref v32) ∧ (∃ v33 : Nat, rdV f31 h 4 3 = some (.ref v33) ∧ (∃ v34 : Nat, rdV f31 v33 0 1 = some (.ref v34) ∧ (∃ v35 : Nat, rdV f31 h 4 10 = some (.ref v35) ∧ (isO f31 v32 3 ∧ S_X3_reduce E v32 v34 v35 f31 (fun (f37 : hm) => (∃ v38 : Nat, rdV f37 h 4 11 = some (.ref v38) ∧ (∃ v39 : Nat, rdV f37 h 4 7 = some (.ref v39) ∧ (∃ v40 : Nat, rdV f37 h 4 9 = some (.ref v40) ∧ (isO f37 v38 1 ∧ S_X1_becomeProduct E v38 v39 v40 f37 (fun (f42 : hm) => (∃ v43 : Nat, rdV f42 h 4 3 = some (.ref v43) ∧ (∃ v44 : Nat, rdV f42 v43 0 2 = some (.ref v44) ∧ (∃ v45 : Nat, rdV f42 h 4 11 = some (.ref v45) ∧ (∃ v46 : Nat, rdV f42 h 4 10 = some (.ref v46) ∧ (isO f42 v44 1 ∧ S_X1_becomeProduct E v44 v45 v46 f42 (fun (f48 : hm) => K f48))))))))))))))))))))))))))))))))))))))))))))))))
set_option maxRecDepth 100000 in
set_option maxHeartbeats 4000000 in
theorem R_X4_addUp_0 {E : cx} {p : Program} {e : Env} {s : State} {m : MethodId} {below : List Frame} {meth : Method} {c : Code} {f0 : hm} {zh : Nat} {zp1 : Nat} {zp2 : Nat} {zp3 : Int32} (C : wB E.2.1 vwCl (eT E) yX4_addUp cX4_addUp 4 none wsX4_addUp [.ref zh, .ref zp1, .ref zp2, .int zp3] f0 p s m meth c) (h : Nat) (p1 : Nat) (p2 : Nat) (p3 : Int32) (f : hm)  {K : hm → Prop} (hv : X_X4_addUp_0 E h p1 p2 p3 f  K) {ls : Array Slot} {H : Heap} {locs : List Loc} (hl : lv_has ls 4 [(0, .ref h), (1, .ref p1), (2, .ref p2), (3, .int p3)]) (hS : wS E.2.1 vwCl (wA f0 s.heap.size) s.heap f H locs)  : W p E.1 e ({ frames := 5, cells := 0, slots := 0, locals := 138 }) s m ([.ref zh, .ref zp1, .ref zp2, .int zp3] : List Value).toArray below meth c H locs 0 0 (MQ below (wQv f0 E.2.1 vwCl K s) ([.ref zh, .ref zp1, .ref zp2, .int zp3] : List Value).toArray s 0 0 (wA f0 s.heap.size)) (F0 m 0 ls []) := by
  obtain ⟨hx, hb, hml, hown, hts, hr, hlk, hnm, hK, -⟩ := C
  unfold X_X4_addUp_0 at hv
  refine lv_aload_n hx hb dX4_addUp_0 rfl (lv_at hl 0 rfl) ?_
  obtain ⟨v1, ev1, hv⟩ := hv
  refine fw_get hx hb hts ii_X4_addUp_X4 hown hK hS 7 ev1 rfl (by decide) mm_X4_addUp_0 rfl dX4_addUp_1 ?_
  refine lv_aload_n hx hb dX4_addUp_4 rfl (lv_at hl 1 rfl) ?_
  obtain ⟨v2, ev2, hv⟩ := hv
  refine fw_get hx hb hts ii_X4_addUp_X0 hown hK hS 2 ev2 rfl (by decide) mm_X4_addUp_1 rfl dX4_addUp_5 ?_
  obtain ⟨ho3, hv⟩ := hv
  refine fw_callVv hx hb hml hown hts hK hS [.ref v2] [] hv gX4_addUp_X1_become_ rfl rfl rfl 1 (by decide +kernel) ⟨Nat.le_of_ble_eq_true rfl, Nat.le_of_ble_eq_true rfl⟩ rfl rfl ho3 rfl hl.1 rfl (Nat.le_of_ble_eq_true rfl) dX4_addUp_8 ⟨Nat.zero_le _, Nat.zero_le _⟩ (fun f4 H locs hv hS => ?_)
  refine lv_aload_n hx hb dX4_addUp_11 rfl (lv_at hl 0 rfl) ?_
  obtain ⟨v5, ev5, hv⟩ := hv
  refine fw_get hx hb hts ii_X4_addUp_X4 hown hK hS 9 ev5 rfl (by decide) mm_X4_addUp_2 rfl dX4_addUp_12 ?_
  refine lv_aload_n hx hb dX4_addUp_15 rfl (lv_at hl 2 rfl) ?_
  obtain ⟨v6, ev6, hv⟩ := hv
  refine fw_get hx hb hts ii_X4_addUp_X0 hown hK hS 2 ev6 rfl (by decide) mm_X4_addUp_1 rfl dX4_addUp_16 ?_
  obtain ⟨ho7, hv⟩ := hv
  refine fw_callVv hx hb hml hown hts hK hS [.ref v6] [] hv gX4_addUp_X1_become_ rfl rfl rfl 1 (by decide +kernel) ⟨Nat.le_of_ble_eq_true rfl, Nat.le_of_ble_eq_true rfl⟩ rfl rfl ho7 rfl hl.1 rfl (Nat.le_of_ble_eq_true rfl) dX4_addUp_19 ⟨Nat.zero_le _, Nat.zero_le _⟩ (fun f8 H locs hv hS => ?_)
  refine lv_aload_n hx hb dX4_addUp_22 rfl (lv_at hl 0 rfl) ?_
  obtain ⟨v9, ev9, hv⟩ := hv
  refine fw_get hx hb hts ii_X4_addUp_X4 hown hK hS 4 ev9 rfl (by decide) mm_X4_addUp_3 rfl dX4_addUp_23 ?_
  refine lv_aload_n hx hb dX4_addUp_26 rfl (lv_at hl 0 rfl) ?_
  obtain ⟨v10, ev10, hv⟩ := hv
  refine fw_get hx hb hts ii_X4_addUp_X4 hown hK hS 7 ev10 rfl (by decide) mm_X4_addUp_0 rfl dX4_addUp_27 ?_
  refine lv_aload_n hx hb dX4_addUp_30 rfl (lv_at hl 0 rfl) ?_
  obtain ⟨v11, ev11, hv⟩ := hv
  refine fw_get hx hb hts ii_X4_addUp_X4 hown hK hS 9 ev11 rfl (by decide) mm_X4_addUp_2 rfl dX4_addUp_31 ?_
  obtain ⟨ho12, hv⟩ := hv
  refine fw_callVv hx hb hml hown hts hK hS [.ref v10, .ref v11] [] hv gX4_addUp_X3_reduce rfl rfl rfl 2 (by decide +kernel) ⟨Nat.le_of_ble_eq_true rfl, Nat.le_of_ble_eq_true rfl⟩ rfl rfl ho12 rfl hl.1 rfl (Nat.le_of_ble_eq_true rfl) dX4_addUp_34 ⟨Nat.zero_le _, Nat.zero_le _⟩ (fun f13 H locs hv hS => ?_)
  refine lv_aload_n hx hb dX4_addUp_37 rfl (lv_at hl 0 rfl) ?_
  obtain ⟨v14, ev14, hv⟩ := hv
  refine fw_get hx hb hts ii_X4_addUp_X4 hown hK hS 10 ev14 rfl (by decide) mm_X4_addUp_4 rfl dX4_addUp_38 ?_
  refine lv_aload_n hx hb dX4_addUp_41 rfl (lv_at hl 0 rfl) ?_
  obtain ⟨v15, ev15, hv⟩ := hv
  refine fw_get hx hb hts ii_X4_addUp_X4 hown hK hS 4 ev15 rfl (by decide) mm_X4_addUp_3 rfl dX4_addUp_42 ?_
  obtain ⟨v16, ev16, hv⟩ := hv
  refine fw_get hx hb hts ii_X4_addUp_X3 hown hK hS 0 ev16 rfl (by decide) mm_X4_addUp_5 rfl dX4_addUp_45 ?_
  obtain ⟨ho17, hv⟩ := hv
  refine fw_callVv hx hb hml hown hts hK hS [.ref v16] [] hv gX4_addUp_X1_become_ rfl rfl rfl 1 (by decide +kernel) ⟨Nat.le_of_ble_eq_true rfl, Nat.le_of_ble_eq_true rfl⟩ rfl rfl ho17 rfl hl.1 rfl (Nat.le_of_ble_eq_true rfl) dX4_addUp_48 ⟨Nat.zero_le _, Nat.zero_le _⟩ (fun f18 H locs hv hS => ?_)
  refine lv_aload_n hx hb dX4_addUp_51 rfl (lv_at hl 0 rfl) ?_
  obtain ⟨v19, ev19, hv⟩ := hv
  refine fw_get hx hb hts ii_X4_addUp_X4 hown hK hS 6 ev19 rfl (by decide) mm_X4_addUp_6 rfl dX4_addUp_52 ?_
  refine lv_aload_n hx hb dX4_addUp_55 rfl (lv_at hl 1 rfl) ?_
  obtain ⟨v20, ev20, hv⟩ := hv
  refine fw_get hx hb hts ii_X4_addUp_X0 hown hK hS 1 ev20 rfl (by decide) mm_X4_addUp_7 rfl dX4_addUp_56 ?_
  refine lv_aload_n hx hb dX4_addUp_59 rfl (lv_at hl 0 rfl) ?_
  obtain ⟨v21, ev21, hv⟩ := hv
  refine fw_get hx hb hts ii_X4_addUp_X4 hown hK hS 9 ev21 rfl (by decide) mm_X4_addUp_2 rfl dX4_addUp_60 ?_
  obtain ⟨ho22, hv⟩ := hv
  refine fw_callVv hx hb hml hown hts hK hS [.ref v20, .ref v21] [] hv gX4_addUp_X1_becomeProduct rfl rfl rfl 2 (by decide +kernel) ⟨Nat.le_of_ble_eq_true rfl, Nat.le_of_ble_eq_true rfl⟩ rfl rfl ho22 rfl hl.1 rfl (Nat.le_of_ble_eq_true rfl) dX4_addUp_63 ⟨Nat.zero_le _, Nat.zero_le _⟩ (fun f23 H locs hv hS => ?_)
  refine lv_aload_n hx hb dX4_addUp_66 rfl (lv_at hl 0 rfl) ?_
  obtain ⟨v24, ev24, hv⟩ := hv
  refine fw_get hx hb hts ii_X4_addUp_X4 hown hK hS 8 ev24 rfl (by decide) mm_X4_addUp_8 rfl dX4_addUp_67 ?_
  refine lv_aload_n hx hb dX4_addUp_70 rfl (lv_at hl 2 rfl) ?_
  obtain ⟨v25, ev25, hv⟩ := hv
  refine fw_get hx hb hts ii_X4_addUp_X0 hown hK hS 1 ev25 rfl (by decide) mm_X4_addUp_7 rfl dX4_addUp_71 ?_
  refine lv_aload_n hx hb dX4_addUp_74 rfl (lv_at hl 0 rfl) ?_
  obtain ⟨v26, ev26, hv⟩ := hv
  refine fw_get hx hb hts ii_X4_addUp_X4 hown hK hS 7 ev26 rfl (by decide) mm_X4_addUp_0 rfl dX4_addUp_75 ?_
  obtain ⟨ho27, hv⟩ := hv
  refine fw_callVv hx hb hml hown hts hK hS [.ref v25, .ref v26] [] hv gX4_addUp_X1_becomeProduct rfl rfl rfl 2 (by decide +kernel) ⟨Nat.le_of_ble_eq_true rfl, Nat.le_of_ble_eq_true rfl⟩ rfl rfl ho27 rfl hl.1 rfl (Nat.le_of_ble_eq_true rfl) dX4_addUp_78 ⟨Nat.zero_le _, Nat.zero_le _⟩ (fun f28 H locs hv hS => ?_)
  refine lv_aload_n hx hb dX4_addUp_81 rfl (lv_at hl 0 rfl) ?_
  refine lv_aload_n hx hb dX4_addUp_82 rfl (lv_at hl 1 rfl) ?_
  obtain ⟨v29, ev29, hv⟩ := hv
  refine fw_get hx hb hts ii_X4_addUp_X0 hown hK hS 0 ev29 rfl (by decide) mm_X4_addUp_9 rfl dX4_addUp_83 ?_
  refine lv_iload_n hx hb dX4_addUp_86 rfl (lv_at hl 3 rfl) ?_
  obtain ⟨ho30, hv⟩ := hv
  refine fw_callVv hx hb hml hown hts hK hS [.int v29, .int p3] [] hv gX4_addUp_X4_addUpperNumbers rfl rfl rfl 2 (by decide +kernel) ⟨Nat.le_of_ble_eq_true rfl, Nat.le_of_ble_eq_true rfl⟩ rfl rfl ho30 rfl hl.1 rfl (Nat.le_of_ble_eq_true rfl) dX4_addUp_87 ⟨Nat.zero_le _, Nat.zero_le _⟩ (fun f31 H locs hv hS => ?_)
  refine lv_aload_n hx hb dX4_addUp_90 rfl (lv_at hl 0 rfl) ?_
  obtain ⟨v32, ev32, hv⟩ := hv
  refine fw_get hx hb hts ii_X4_addUp_X4 hown hK hS 4 ev32 rfl (by decide) mm_X4_addUp_3 rfl dX4_addUp_91 ?_
  refine lv_aload_n hx hb dX4_addUp_94 rfl (lv_at hl 0 rfl) ?_
  obtain ⟨v33, ev33, hv⟩ := hv
  refine fw_get hx hb hts ii_X4_addUp_X4 hown hK hS 3 ev33 rfl (by decide) mm_X4_addUp_10 rfl dX4_addUp_95 ?_
  obtain ⟨v34, ev34, hv⟩ := hv
  refine fw_get hx hb hts ii_X4_addUp_X0 hown hK hS 1 ev34 rfl (by decide) mm_X4_addUp_7 rfl dX4_addUp_98 ?_
  refine lv_aload_n hx hb dX4_addUp_101 rfl (lv_at hl 0 rfl) ?_
  obtain ⟨v35, ev35, hv⟩ := hv
  refine fw_get hx hb hts ii_X4_addUp_X4 hown hK hS 10 ev35 rfl (by decide) mm_X4_addUp_4 rfl dX4_addUp_102 ?_
  obtain ⟨ho36, hv⟩ := hv
  refine fw_callVv hx hb hml hown hts hK hS [.ref v34, .ref v35] [] hv gX4_addUp_X3_reduce rfl rfl rfl 2 (by decide +kernel) ⟨Nat.le_of_ble_eq_true rfl, Nat.le_of_ble_eq_true rfl⟩ rfl rfl ho36 rfl hl.1 rfl (Nat.le_of_ble_eq_true rfl) dX4_addUp_105 ⟨Nat.zero_le _, Nat.zero_le _⟩ (fun f37 H locs hv hS => ?_)
  refine lv_aload_n hx hb dX4_addUp_108 rfl (lv_at hl 0 rfl) ?_
  obtain ⟨v38, ev38, hv⟩ := hv
  refine fw_get hx hb hts ii_X4_addUp_X4 hown hK hS 11 ev38 rfl (by decide) mm_X4_addUp_11 rfl dX4_addUp_109 ?_
  refine lv_aload_n hx hb dX4_addUp_112 rfl (lv_at hl 0 rfl) ?_
  obtain ⟨v39, ev39, hv⟩ := hv
  refine fw_get hx hb hts ii_X4_addUp_X4 hown hK hS 7 ev39 rfl (by decide) mm_X4_addUp_0 rfl dX4_addUp_113 ?_
  refine lv_aload_n hx hb dX4_addUp_116 rfl (lv_at hl 0 rfl) ?_
  obtain ⟨v40, ev40, hv⟩ := hv
  refine fw_get hx hb hts ii_X4_addUp_X4 hown hK hS 9 ev40 rfl (by decide) mm_X4_addUp_2 rfl dX4_addUp_117 ?_
  obtain ⟨ho41, hv⟩ := hv
  refine fw_callVv hx hb hml hown hts hK hS [.ref v39, .ref v40] [] hv gX4_addUp_X1_becomeProduct rfl rfl rfl 2 (by decide +kernel) ⟨Nat.le_of_ble_eq_true rfl, Nat.le_of_ble_eq_true rfl⟩ rfl rfl ho41 rfl hl.1 rfl (Nat.le_of_ble_eq_true rfl) dX4_addUp_120 ⟨Nat.zero_le _, Nat.zero_le _⟩ (fun f42 H locs hv hS => ?_)
  refine lv_aload_n hx hb dX4_addUp_123 rfl (lv_at hl 0 rfl) ?_
  obtain ⟨v43, ev43, hv⟩ := hv
  refine fw_get hx hb hts ii_X4_addUp_X4 hown hK hS 3 ev43 rfl (by decide) mm_X4_addUp_10 rfl dX4_addUp_124 ?_
  obtain ⟨v44, ev44, hv⟩ := hv
  refine fw_get hx hb hts ii_X4_addUp_X0 hown hK hS 2 ev44 rfl (by decide) mm_X4_addUp_1 rfl dX4_addUp_127 ?_
  refine lv_aload_n hx hb dX4_addUp_130 rfl (lv_at hl 0 rfl) ?_
  obtain ⟨v45, ev45, hv⟩ := hv
  refine fw_get hx hb hts ii_X4_addUp_X4 hown hK hS 11 ev45 rfl (by decide) mm_X4_addUp_11 rfl dX4_addUp_131 ?_
  refine lv_aload_n hx hb dX4_addUp_134 rfl (lv_at hl 0 rfl) ?_
  obtain ⟨v46, ev46, hv⟩ := hv
  refine fw_get hx hb hts ii_X4_addUp_X4 hown hK hS 10 ev46 rfl (by decide) mm_X4_addUp_4 rfl dX4_addUp_135 ?_
  obtain ⟨ho47, hv⟩ := hv
  refine fw_callVv hx hb hml hown hts hK hS [.ref v45, .ref v46] [] hv gX4_addUp_X1_becomeProduct rfl rfl rfl 2 (by decide +kernel) ⟨Nat.le_of_ble_eq_true rfl, Nat.le_of_ble_eq_true rfl⟩ rfl rfl ho47 rfl hl.1 rfl (Nat.le_of_ble_eq_true rfl) dX4_addUp_138 ⟨Nat.zero_le _, Nat.zero_le _⟩ (fun f48 H locs hv hS => ?_)
  exact fw_vret hx hb hr hlk hS hv dX4_addUp_141
set_option maxRecDepth 100000 in
set_option maxHeartbeats 4000000 in
theorem T_X4_addUp {E : cx} {h : Nat} {p1 : Nat} {p2 : Nat} {p3 : Int32} {f : hm} {K : hm → Prop}  (h0 : X_X4_addUp_0 E h p1 p2 p3 f  K) : S_X4_addUp E h p1 p2 p3 f K := by
  refine MV_of (cc := cX4_addUp) (maxL := 4) (ret := none) (by decide) rfl ?_
  intro p e s m below meth c C
  have hl := lv_entry ([.ref h, .ref p1, .ref p2, .int p3]) (n := 4) (Nat.le_of_ble_eq_true rfl)
  rw [lg_entry_eq]
  generalize (lg_sl ([.ref h, .ref p1, .ref p2, .int p3]) ++ List.replicate (4 - (lg_sl ([.ref h, .ref p1, .ref p2, .int p3])).length) Slot.unset).toArray = ls at hl ⊢
  have hl : lv_has ls 4 [(0, .ref h), (1, .ref p1), (2, .ref p2), (3, .int p3)] := hl
  have hS := C.2.2.2.2.2.2.2.2.2
  exact R_X4_addUp_0 C h p1 p2 p3 f h0 hl hS
/-! ContinuedRatios.multiply(LContinuedRatios$Fraction;ILContinuedRatios$Natural;LContinuedRatios$Natural;)V -/
def S_X4_multiply (E : cx) (h : Nat) (p1 : Nat) (p2 : Int32) (p3 : Nat) (p4 : Nat) (f : hm) (K : hm → Prop) : Prop := MV E.1 E.2.1 vwCl (eT E) yX4_multiply wsX4_multiply ({ frames := 5, cells := 0, slots := 0, locals := 138 }) [.ref h, .ref p1, .int p2, .ref p3, .ref p4] f K
theorem mm_X4_multiply_0 : Cond.fieldLink RX4 40 "ContinuedRatios" "leftUpper" "LContinuedRatios$Natural;" ∈ wsX4_multiply := by decide +kernel
theorem mm_X4_multiply_1 : Cond.fieldLink RX4 88 "ContinuedRatios$Fraction" "upper" "LContinuedRatios$Natural;" ∈ wsX4_multiply := by decide +kernel
theorem mm_X4_multiply_2 : Cond.fieldLink RX4 50 "ContinuedRatios" "rightLower" "LContinuedRatios$Natural;" ∈ wsX4_multiply := by decide +kernel
theorem mm_X4_multiply_3 : Cond.fieldLink RX4 26 "ContinuedRatios" "reducer" "LContinuedRatios$Reducer;" ∈ wsX4_multiply := by decide +kernel
theorem mm_X4_multiply_4 : Cond.fieldLink RX4 47 "ContinuedRatios" "rightUpper" "LContinuedRatios$Natural;" ∈ wsX4_multiply := by decide +kernel
theorem mm_X4_multiply_5 : Cond.fieldLink RX4 44 "ContinuedRatios" "leftLower" "LContinuedRatios$Natural;" ∈ wsX4_multiply := by decide +kernel
theorem mm_X4_multiply_6 : Cond.fieldLink RX4 77 "ContinuedRatios$Fraction" "lower" "LContinuedRatios$Natural;" ∈ wsX4_multiply := by decide +kernel
theorem mm_X4_multiply_7 : Cond.fieldLink RX4 20 "ContinuedRatios" "result" "LContinuedRatios$Fraction;" ∈ wsX4_multiply := by decide +kernel
theorem mm_X4_multiply_8 : Cond.fieldLink RX4 101 "ContinuedRatios$Fraction" "signum" "I" ∈ wsX4_multiply := by decide +kernel
theorem ii_X4_multiply_X4 : ∀ w ∈ u_ws RX4 TX4 14, w ∈ wsX4_multiply := by decide +kernel
theorem ii_X4_multiply_X0 : ∀ w ∈ u_ws RX0 TX0 3, w ∈ wsX4_multiply := by decide +kernel
def X_X4_multiply_0 (E : cx) (h : Nat) (p1 : Nat) (p2 : Int32) (p3 : Nat) (p4 : Nat) (f : hm)  (K : hm → Prop) : Prop :=
  (∃ v1 : Nat, rdV f h 4 6 = some (.ref v1) ∧ (∃ v2 : Nat, rdV f p1 0 1 = some (.ref v2) ∧ (isO f v1 1 ∧ S_X1_become_ E v1 v2 f (fun (f4 : hm) => (∃ v5 : Nat, rdV f4 h 4 9 = some (.ref v5) ∧ (isO f4 v5 1 ∧ S_X1_become_ E v5 p4 f4 (fun (f7 : hm) => (∃ v8 : Nat, rdV f7 h 4 4 = some (.ref v8) ∧ (∃ v9 : Nat, rdV f7 h 4 6 = some (.ref v9) ∧ (∃ v10 : Nat, rdV f7 h 4 9 = some (.ref v10) ∧ (isO f7 v8 3 ∧ S_X3_reduce E v8 v9 v10 f7 (fun (f12 : hm) => (∃ v13 : Nat, rdV f12 h 4 8 = some (.ref v13) ∧ (isO f12 v13 1 ∧ S_X1_become_ E v13 p3 f12 (fun (f15 : hm) => (∃ v16 : Nat, rdV f15 h 4 7 = some (.ref v16) ∧ (∃ v17 : Nat, rdV f15 p1 0 2 = some (.ref v17) ∧ (isO f15 v16 1 ∧ S_X1_become_ E v16 v17 f15 (fun (f19 : hm) => (∃ v20 : Nat, rdV f19 h 4 4 = some (.ref v20) ∧ (∃ v21 : Nat, rdV f19 h 4 8 = some (.ref v21) ∧ (∃ v22 : Nat, rdV f19 h 4 7 = some (.ref v22) ∧ (isO f19 v20 3 ∧ S_X3_reduce E v20 v21 v22 f19 (fun (f24 : hm) => (∃ v25 : Nat, rdV f24 h 4 3 = some (.ref v25) ∧ (∃ v26 : Nat, rdV f24 v25 0 1 = some (.ref v26) ∧ (∃ v27 : Nat, rdV f24 h 4 6 = some (.ref v27) ∧ (∃ v28 : Nat, rdV f24 h 4 8 = some (.ref v28) ∧ (isO f24 v26 1 ∧ S_X1_becomeProduct E v26 v27 v28 f24 (fun (f30 : hm) => (∃ v31 : Nat, rdV f30 h 4 3 = some (.ref v31) ∧ (∃ v32 : Nat, rdV f30 v31 0 2 = some (.ref v32) ∧ (∃ v33 : Nat, rdV f30 h 4 7 = some (.ref v33) ∧ (∃ v34 : Nat, rdV f30 h 4 9 = some (.ref v34) ∧ (isO f30 v32 1 ∧ S_X1_becomeProduct E v32 v33 v34 f30 (fun (f36 : hm) => (∃ v37 : Nat, rdV f36 h 4 3 = some (.ref v37) ∧ (∃ v38 : Int32, rdV f36 p1 0 0 = some (.int v38) ∧ (∃ f39 : hm, wrV f36 v37 0 0 (.int (v38 * p2)) = some f39 ∧ K f39)))))))))))))))))))))))))))))))))))))))
set_option maxRecDepth 100000 in
set_option maxHeartbeats 4000000 in
theorem R_X4_multiply_0 {E : cx} {p : Program} {e : Env} {s : State} {m : MethodId} {below : List Frame} {meth : Method} {c : Code} {f0 : hm} {zh : Nat} {zp1 : Nat} {zp2 : Int32} {zp3 : Nat} {zp4 : Nat} (C : wB E.2.1 vwCl (eT E) yX4_multiply cX4_multiply 5 none wsX4_multiply [.ref zh, .ref zp1, .int zp2, .ref zp3, .ref zp4] f0 p s m meth c) (h : Nat) (p1 : Nat) (p2 : Int32) (p3 : Nat) (p4 : Nat) (f : hm)  {K : hm → Prop} (hv : X_X4_multiply_0 E h p1 p2 p3 p4 f  K) {ls : Array Slot} {H : Heap} {locs : List Loc} (hl : lv_has ls 5 [(0, .ref h), (1, .ref p1), (2, .int p2), (3, .ref p3), (4, .ref p4)]) (hS : wS E.2.1 vwCl (wA f0 s.heap.size) s.heap f H locs)  : W p E.1 e ({ frames := 5, cells := 0, slots := 0, locals := 138 }) s m ([.ref zh, .ref zp1, .int zp2, .ref zp3, .ref zp4] : List Value).toArray below meth c H locs 0 0 (MQ below (wQv f0 E.2.1 vwCl K s) ([.ref zh, .ref zp1, .int zp2, .ref zp3, .ref zp4] : List Value).toArray s 0 0 (wA f0 s.heap.size)) (F0 m 0 ls []) := by
  obtain ⟨hx, hb, hml, hown, hts, hr, hlk, hnm, hK, -⟩ := C
  unfold X_X4_multiply_0 at hv
  refine lv_aload_n hx hb dX4_multiply_0 rfl (lv_at hl 0 rfl) ?_
  obtain ⟨v1, ev1, hv⟩ := hv
  refine fw_get hx hb hts ii_X4_multiply_X4 hown hK hS 6 ev1 rfl (by decide) mm_X4_multiply_0 rfl dX4_multiply_1 ?_
  refine lv_aload_n hx hb dX4_multiply_4 rfl (lv_at hl 1 rfl) ?_
  obtain ⟨v2, ev2, hv⟩ := hv
  refine fw_get hx hb hts ii_X4_multiply_X0 hown hK hS 1 ev2 rfl (by decide) mm_X4_multiply_1 rfl dX4_multiply_5 ?_
  obtain ⟨ho3, hv⟩ := hv
  refine fw_callVv hx hb hml hown hts hK hS [.ref v2] [] hv gX4_multiply_X1_become_ rfl rfl rfl 1 (by decide +kernel) ⟨Nat.le_of_ble_eq_true rfl, Nat.le_of_ble_eq_true rfl⟩ rfl rfl ho3 rfl hl.1 rfl (Nat.le_of_ble_eq_true rfl) dX4_multiply_8 ⟨Nat.zero_le _, Nat.zero_le _⟩ (fun f4 H locs hv hS => ?_)
  refine lv_aload_n hx hb dX4_multiply_11 rfl (lv_at hl 0 rfl) ?_
  obtain ⟨v5, ev5, hv⟩ := hv
  refine fw_get hx hb hts ii_X4_multiply_X4 hown hK hS 9 ev5 rfl (by decide) mm_X4_multiply_2 rfl dX4_multiply_12 ?_
  refine lv_aload hx hb dX4_multiply_15 (lv_at hl 4 rfl) ?_
  obtain ⟨ho6, hv⟩ := hv
  refine fw_callVv hx hb hml hown hts hK hS [.ref p4] [] hv gX4_multiply_X1_become_ rfl rfl rfl 1 (by decide +kernel) ⟨Nat.le_of_ble_eq_true rfl, Nat.le_of_ble_eq_true rfl⟩ rfl rfl ho6 rfl hl.1 rfl (Nat.le_of_ble_eq_true rfl) dX4_multiply_17 ⟨Nat.zero_le _, Nat.zero_le _⟩ (fun f7 H locs hv hS => ?_)
  refine lv_aload_n hx hb dX4_multiply_20 rfl (lv_at hl 0 rfl) ?_
  obtain ⟨v8, ev8, hv⟩ := hv
  refine fw_get hx hb hts ii_X4_multiply_X4 hown hK hS 4 ev8 rfl (by decide) mm_X4_multiply_3 rfl dX4_multiply_21 ?_
  refine lv_aload_n hx hb dX4_multiply_24 rfl (lv_at hl 0 rfl) ?_
  obtain ⟨v9, ev9, hv⟩ := hv
  refine fw_get hx hb hts ii_X4_multiply_X4 hown hK hS 6 ev9 rfl (by decide) mm_X4_multiply_0 rfl dX4_multiply_25 ?_
  refine lv_aload_n hx hb dX4_multiply_28 rfl (lv_at hl 0 rfl) ?_
  obtain ⟨v10, ev10, hv⟩ := hv
  refine fw_get hx hb hts ii_X4_multiply_X4 hown hK hS 9 ev10 rfl (by decide) mm_X4_multiply_2 rfl dX4_multiply_29 ?_
  obtain ⟨ho11, hv⟩ := hv
  refine fw_callVv hx hb hml hown hts hK hS [.ref v9, .ref v10] [] hv gX4_multiply_X3_reduce rfl rfl rfl 2 (by decide +kernel) ⟨Nat.le_of_ble_eq_true rfl, Nat.le_of_ble_eq_true rfl⟩ rfl rfl ho11 rfl hl.1 rfl (Nat.le_of_ble_eq_true rfl) dX4_multiply_32 ⟨Nat.zero_le _, Nat.zero_le _⟩ (fun f12 H locs hv hS => ?_)
  refine lv_aload_n hx hb dX4_multiply_35 rfl (lv_at hl 0 rfl) ?_
  obtain ⟨v13, ev13, hv⟩ := hv
  refine fw_get hx hb hts ii_X4_multiply_X4 hown hK hS 8 ev13 rfl (by decide) mm_X4_multiply_4 rfl dX4_multiply_36 ?_
  refine lv_aload_n hx hb dX4_multiply_39 rfl (lv_at hl 3 rfl) ?_
  obtain ⟨ho14, hv⟩ := hv
  refine fw_callVv hx hb hml hown hts hK hS [.ref p3] [] hv gX4_multiply_X1_become_ rfl rfl rfl 1 (by decide +kernel) ⟨Nat.le_of_ble_eq_true rfl, Nat.le_of_ble_eq_true rfl⟩ rfl rfl ho14 rfl hl.1 rfl (Nat.le_of_ble_eq_true rfl) dX4_multiply_40 ⟨Nat.zero_le _, Nat.zero_le _⟩ (fun f15 H locs hv hS => ?_)
  refine lv_aload_n hx hb dX4_multiply_43 rfl (lv_at hl 0 rfl) ?_
  obtain ⟨v16, ev16, hv⟩ := hv
  refine fw_get hx hb hts ii_X4_multiply_X4 hown hK hS 7 ev16 rfl (by decide) mm_X4_multiply_5 rfl dX4_multiply_44 ?_
  refine lv_aload_n hx hb dX4_multiply_47 rfl (lv_at hl 1 rfl) ?_
  obtain ⟨v17, ev17, hv⟩ := hv
  refine fw_get hx hb hts ii_X4_multiply_X0 hown hK hS 2 ev17 rfl (by decide) mm_X4_multiply_6 rfl dX4_multiply_48 ?_
  obtain ⟨ho18, hv⟩ := hv
  refine fw_callVv hx hb hml hown hts hK hS [.ref v17] [] hv gX4_multiply_X1_become_ rfl rfl rfl 1 (by decide +kernel) ⟨Nat.le_of_ble_eq_true rfl, Nat.le_of_ble_eq_true rfl⟩ rfl rfl ho18 rfl hl.1 rfl (Nat.le_of_ble_eq_true rfl) dX4_multiply_51 ⟨Nat.zero_le _, Nat.zero_le _⟩ (fun f19 H locs hv hS => ?_)
  refine lv_aload_n hx hb dX4_multiply_54 rfl (lv_at hl 0 rfl) ?_
  obtain ⟨v20, ev20, hv⟩ := hv
  refine fw_get hx hb hts ii_X4_multiply_X4 hown hK hS 4 ev20 rfl (by decide) mm_X4_multiply_3 rfl dX4_multiply_55 ?_
  refine lv_aload_n hx hb dX4_multiply_58 rfl (lv_at hl 0 rfl) ?_
  obtain ⟨v21, ev21, hv⟩ := hv
  refine fw_get hx hb hts ii_X4_multiply_X4 hown hK hS 8 ev21 rfl (by decide) mm_X4_multiply_4 rfl dX4_multiply_59 ?_
  refine lv_aload_n hx hb dX4_multiply_62 rfl (lv_at hl 0 rfl) ?_
  obtain ⟨v22, ev22, hv⟩ := hv
  refine fw_get hx hb hts ii_X4_multiply_X4 hown hK hS 7 ev22 rfl (by decide) mm_X4_multiply_5 rfl dX4_multiply_63 ?_
  obtain ⟨ho23, hv⟩ := hv
  refine fw_callVv hx hb hml hown hts hK hS [.ref v21, .ref v22] [] hv gX4_multiply_X3_reduce rfl rfl rfl 2 (by decide +kernel) ⟨Nat.le_of_ble_eq_true rfl, Nat.le_of_ble_eq_true rfl⟩ rfl rfl ho23 rfl hl.1 rfl (Nat.le_of_ble_eq_true rfl) dX4_multiply_66 ⟨Nat.zero_le _, Nat.zero_le _⟩ (fun f24 H locs hv hS => ?_)
  refine lv_aload_n hx hb dX4_multiply_69 rfl (lv_at hl 0 rfl) ?_
  obtain ⟨v25, ev25, hv⟩ := hv
  refine fw_get hx hb hts ii_X4_multiply_X4 hown hK hS 3 ev25 rfl (by decide) mm_X4_multiply_7 rfl dX4_multiply_70 ?_
  obtain ⟨v26, ev26, hv⟩ := hv
  refine fw_get hx hb hts ii_X4_multiply_X0 hown hK hS 1 ev26 rfl (by decide) mm_X4_multiply_1 rfl dX4_multiply_73 ?_
  refine lv_aload_n hx hb dX4_multiply_76 rfl (lv_at hl 0 rfl) ?_
  obtain ⟨v27, ev27, hv⟩ := hv
  refine fw_get hx hb hts ii_X4_multiply_X4 hown hK hS 6 ev27 rfl (by decide) mm_X4_multiply_0 rfl dX4_multiply_77 ?_
  refine lv_aload_n hx hb dX4_multiply_80 rfl (lv_at hl 0 rfl) ?_
  obtain ⟨v28, ev28, hv⟩ := hv
  refine fw_get hx hb hts ii_X4_multiply_X4 hown hK hS 8 ev28 rfl (by decide) mm_X4_multiply_4 rfl dX4_multiply_81 ?_
  obtain ⟨ho29, hv⟩ := hv
  refine fw_callVv hx hb hml hown hts hK hS [.ref v27, .ref v28] [] hv gX4_multiply_X1_becomeProduct rfl rfl rfl 2 (by decide +kernel) ⟨Nat.le_of_ble_eq_true rfl, Nat.le_of_ble_eq_true rfl⟩ rfl rfl ho29 rfl hl.1 rfl (Nat.le_of_ble_eq_true rfl) dX4_multiply_84 ⟨Nat.zero_le _, Nat.zero_le _⟩ (fun f30 H locs hv hS => ?_)
  refine lv_aload_n hx hb dX4_multiply_87 rfl (lv_at hl 0 rfl) ?_
  obtain ⟨v31, ev31, hv⟩ := hv
  refine fw_get hx hb hts ii_X4_multiply_X4 hown hK hS 3 ev31 rfl (by decide) mm_X4_multiply_7 rfl dX4_multiply_88 ?_
  obtain ⟨v32, ev32, hv⟩ := hv
  refine fw_get hx hb hts ii_X4_multiply_X0 hown hK hS 2 ev32 rfl (by decide) mm_X4_multiply_6 rfl dX4_multiply_91 ?_
  refine lv_aload_n hx hb dX4_multiply_94 rfl (lv_at hl 0 rfl) ?_
  obtain ⟨v33, ev33, hv⟩ := hv
  refine fw_get hx hb hts ii_X4_multiply_X4 hown hK hS 7 ev33 rfl (by decide) mm_X4_multiply_5 rfl dX4_multiply_95 ?_
  refine lv_aload_n hx hb dX4_multiply_98 rfl (lv_at hl 0 rfl) ?_
  obtain ⟨v34, ev34, hv⟩ := hv
  refine fw_get hx hb hts ii_X4_multiply_X4 hown hK hS 9 ev34 rfl (by decide) mm_X4_multiply_2 rfl dX4_multiply_99 ?_
  obtain ⟨ho35, hv⟩ := hv
  refine fw_callVv hx hb hml hown hts hK hS [.ref v33, .ref v34] [] hv gX4_multiply_X1_becomeProduct rfl rfl rfl 2 (by decide +kernel) ⟨Nat.le_of_ble_eq_true rfl, Nat.le_of_ble_eq_true rfl⟩ rfl rfl ho35 rfl hl.1 rfl (Nat.le_of_ble_eq_true rfl) dX4_multiply_102 ⟨Nat.zero_le _, Nat.zero_le _⟩ (fun f36 H locs hv hS => ?_)
  refine lv_aload_n hx hb dX4_multiply_105 rfl (lv_at hl 0 rfl) ?_
  obtain ⟨v37, ev37, hv⟩ := hv
  refine fw_get hx hb hts ii_X4_multiply_X4 hown hK hS 3 ev37 rfl (by decide) mm_X4_multiply_7 rfl dX4_multiply_106 ?_
  refine lv_aload_n hx hb dX4_multiply_109 rfl (lv_at hl 1 rfl) ?_
  obtain ⟨v38, ev38, hv⟩ := hv
  refine fw_get hx hb hts ii_X4_multiply_X0 hown hK hS 0 ev38 rfl (by decide) mm_X4_multiply_8 rfl dX4_multiply_110 ?_
  refine lv_iload_n hx hb dX4_multiply_113 rfl (lv_at hl 2 rfl) ?_
  refine lv_imul hx hb dX4_multiply_114 ?_
  obtain ⟨f39, ef39, hv⟩ := hv
  refine fw_put hx hb hts ii_X4_multiply_X0 tyX0 tyX0_ok nmX0 hown hK hS 0 ef39 rfl (by decide) mm_X4_multiply_8 rfl rfl rfl rfl dX4_multiply_115 (fun H locs hS => ?_)
  exact fw_vret hx hb hr hlk hS hv dX4_multiply_118
set_option maxRecDepth 100000 in
set_option maxHeartbeats 4000000 in
theorem T_X4_multiply {E : cx} {h : Nat} {p1 : Nat} {p2 : Int32} {p3 : Nat} {p4 : Nat} {f : hm} {K : hm → Prop}  (h0 : X_X4_multiply_0 E h p1 p2 p3 p4 f  K) : S_X4_multiply E h p1 p2 p3 p4 f K := by
  refine MV_of (cc := cX4_multiply) (maxL := 5) (ret := none) (by decide) rfl ?_
  intro p e s m below meth c C
  have hl := lv_entry ([.ref h, .ref p1, .int p2, .ref p3, .ref p4]) (n := 5) (Nat.le_of_ble_eq_true rfl)
  rw [lg_entry_eq]
  generalize (lg_sl ([.ref h, .ref p1, .int p2, .ref p3, .ref p4]) ++ List.replicate (5 - (lg_sl ([.ref h, .ref p1, .int p2, .ref p3, .ref p4])).length) Slot.unset).toArray = ls at hl ⊢
  have hl : lv_has ls 5 [(0, .ref h), (1, .ref p1), (2, .int p2), (3, .ref p3), (4, .ref p4)] := hl
  have hS := C.2.2.2.2.2.2.2.2.2
  exact R_X4_multiply_0 C h p1 p2 p3 p4 f h0 hl hS
/-! ContinuedRatios.divideDown(LContinuedRatios$Fraction;)J -/
def S_X4_divideDown (E : cx) (h : Nat) (p1 : Nat) (f : hm) (K : Int64 → hm → Prop) : Prop := ML E.1 E.2.1 vwCl (eT E) yX4_divideDown wsX4_divideDown ({ frames := 4, cells := 0, slots := 0, locals := 114 }) [.ref h, .ref p1] f K
theorem mm_X4_divideDown_0 : Cond.fieldLink RX4 62 "ContinuedRatios" "remainder" "LContinuedRatios$Natural;" ∈ wsX4_divideDown := by decide +kernel
theorem mm_X4_divideDown_1 : Cond.fieldLink RX4 88 "ContinuedRatios$Fraction" "upper" "LContinuedRatios$Natural;" ∈ wsX4_divideDown := by decide +kernel
theorem mm_X4_divideDown_2 : Cond.fieldLink RX4 77 "ContinuedRatios$Fraction" "lower" "LContinuedRatios$Natural;" ∈ wsX4_divideDown := by decide +kernel
theorem mm_X4_divideDown_3 : Cond.fieldLink RX4 59 "ContinuedRatios" "whole" "LContinuedRatios$Natural;" ∈ wsX4_divideDown := by decide +kernel
theorem mm_X4_divideDown_4 : Cond.fieldLink RX4 101 "ContinuedRatios$Fraction" "signum" "I" ∈ wsX4_divideDown := by decide +kernel
theorem ii_X4_divideDown_X4 : ∀ w ∈ u_ws RX4 TX4 14, w ∈ wsX4_divideDown := by decide +kernel
theorem ii_X4_divideDown_X0 : ∀ w ∈ u_ws RX0 TX0 3, w ∈ wsX4_divideDown := by decide +kernel
def X_X4_divideDown_0 (E : cx) (h : Nat) (p1 : Nat) (f : hm)  (K : Int64 → hm → Prop) : Prop :=
  (∃ v1 : Nat, rdV f h 4 13 = some (.ref v1) ∧ (∃ v2 : Nat, rdV f p1 0 1 = some (.ref v2) ∧ (isO f v1 1 ∧ S_X1_become_ E v1 v2 f (fun (f4 : hm) => (∃ v5 : Nat, rdV f4 h 4 13 = some (.ref v5) ∧ (∃ v6 : Nat, rdV f4 p1 0 2 = some (.ref v6) ∧ (∃ v7 : Nat, rdV f4 h 4 12 = some (.ref v7) ∧ (isO f4 v5 1 ∧ S_X1_divide E v5 v6 v7 f4 (fun (f9 : hm) => (∃ v10 : Nat, rdV f9 h 4 12 = some (.ref v10) ∧ (isO f9 v10 1 ∧ S_X1_capped E v10 f9 (fun (r13 : Int64) (f12 : hm) => (∃ v14 : Int32, rdV f12 p1 0 0 = some (.int v14) ∧ ((v14 < 0 → (∃ v16 : Nat, rdV f12 h 4 13 = some (.ref v16) ∧ (isO f12 v16 1 ∧ S_X1_isZero E v16 f12 (fun (r19 : Int32) (f18 : hm) => ((r19 = 0 → (∃ v21 : Nat, rdV f18 h 4 13 = some (.ref v21) ∧ (∃ v22 : Nat, rdV f18 p1 0 2 = some (.ref v22) ∧ (∃ v23 : Nat, rdV f18 h 4 13 = some (.ref v23) ∧ (isO f18 v21 1 ∧ S_X1_becomeDifference E v21 v22 v23 f18 (fun (f25 : hm) => K ((-r13) - (1 : Int64)) f25)))))) ∧ (¬ (r19 = 0) → K (-r13) f18)))))) ∧ (¬ (v14 < 0) → K r13 f12)))))))))))))))
set_option maxRecDepth 100000 in
set_option maxHeartbeats 4000000 in
theorem R_X4_divideDown_0 {E : cx} {p : Program} {e : Env} {s : State} {m : MethodId} {below : List Frame} {meth : Method} {c : Code} {f0 : hm} {zh : Nat} {zp1 : Nat} (C : wB E.2.1 vwCl (eT E) yX4_divideDown cX4_divideDown 4 (some .long) wsX4_divideDown [.ref zh, .ref zp1] f0 p s m meth c) (h : Nat) (p1 : Nat) (f : hm)  {K : Int64 → hm → Prop} (hv : X_X4_divideDown_0 E h p1 f  K) {ls : Array Slot} {H : Heap} {locs : List Loc} (hl : lv_has ls 4 [(0, .ref h), (1, .ref p1)]) (hS : wS E.2.1 vwCl (wA f0 s.heap.size) s.heap f H locs)  : W p E.1 e ({ frames := 4, cells := 0, slots := 0, locals := 114 }) s m ([.ref zh, .ref zp1] : List Value).toArray below meth c H locs 0 0 (MQ below (wQl f0 E.2.1 vwCl K s) ([.ref zh, .ref zp1] : List Value).toArray s 0 0 (wA f0 s.heap.size)) (F0 m 0 ls []) := by
  obtain ⟨hx, hb, hml, hown, hts, hr, hlk, hnm, hK, -⟩ := C
  unfold X_X4_divideDown_0 at hv
  refine lv_aload_n hx hb dX4_divideDown_0 rfl (lv_at hl 0 rfl) ?_
  obtain ⟨v1, ev1, hv⟩ := hv
  refine fw_get hx hb hts ii_X4_divideDown_X4 hown hK hS 13 ev1 rfl (by decide) mm_X4_divideDown_0 rfl dX4_divideDown_1 ?_
  refine lv_aload_n hx hb dX4_divideDown_4 rfl (lv_at hl 1 rfl) ?_
  obtain ⟨v2, ev2, hv⟩ := hv
  refine fw_get hx hb hts ii_X4_divideDown_X0 hown hK hS 1 ev2 rfl (by decide) mm_X4_divideDown_1 rfl dX4_divideDown_5 ?_
  obtain ⟨ho3, hv⟩ := hv
  refine fw_callVv hx hb hml hown hts hK hS [.ref v2] [] hv gX4_divideDown_X1_become_ rfl rfl rfl 1 (by decide +kernel) ⟨Nat.le_of_ble_eq_true rfl, Nat.le_of_ble_eq_true rfl⟩ rfl rfl ho3 rfl hl.1 rfl (Nat.le_of_ble_eq_true rfl) dX4_divideDown_8 ⟨Nat.zero_le _, Nat.zero_le _⟩ (fun f4 H locs hv hS => ?_)
  refine lv_aload_n hx hb dX4_divideDown_11 rfl (lv_at hl 0 rfl) ?_
  obtain ⟨v5, ev5, hv⟩ := hv
  refine fw_get hx hb hts ii_X4_divideDown_X4 hown hK hS 13 ev5 rfl (by decide) mm_X4_divideDown_0 rfl dX4_divideDown_12 ?_
  refine lv_aload_n hx hb dX4_divideDown_15 rfl (lv_at hl 1 rfl) ?_
  obtain ⟨v6, ev6, hv⟩ := hv
  refine fw_get hx hb hts ii_X4_divideDown_X0 hown hK hS 2 ev6 rfl (by decide) mm_X4_divideDown_2 rfl dX4_divideDown_16 ?_
  refine lv_aload_n hx hb dX4_divideDown_19 rfl (lv_at hl 0 rfl) ?_
  obtain ⟨v7, ev7, hv⟩ := hv
  refine fw_get hx hb hts ii_X4_divideDown_X4 hown hK hS 12 ev7 rfl (by decide) mm_X4_divideDown_3 rfl dX4_divideDown_20 ?_
  obtain ⟨ho8, hv⟩ := hv
  refine fw_callVv hx hb hml hown hts hK hS [.ref v6, .ref v7] [] hv gX4_divideDown_X1_divide rfl rfl rfl 2 (by decide +kernel) ⟨Nat.le_of_ble_eq_true rfl, Nat.le_of_ble_eq_true rfl⟩ rfl rfl ho8 rfl hl.1 rfl (Nat.le_of_ble_eq_true rfl) dX4_divideDown_23 ⟨Nat.zero_le _, Nat.zero_le _⟩ (fun f9 H locs hv hS => ?_)
  refine lv_aload_n hx hb dX4_divideDown_26 rfl (lv_at hl 0 rfl) ?_
  obtain ⟨v10, ev10, hv⟩ := hv
  refine fw_get hx hb hts ii_X4_divideDown_X4 hown hK hS 12 ev10 rfl (by decide) mm_X4_divideDown_3 rfl dX4_divideDown_27 ?_
  obtain ⟨ho11, hv⟩ := hv
  refine fw_callVl hx hb hml hown hts hK hS [] [] hv gX4_divideDown_X1_capped rfl rfl rfl 0 (by decide +kernel) ⟨Nat.le_of_ble_eq_true rfl, Nat.le_of_ble_eq_true rfl⟩ rfl rfl ho11 rfl hl.1 rfl (Nat.le_of_ble_eq_true rfl) dX4_divideDown_30 ⟨Nat.zero_le _, Nat.zero_le _⟩ (fun r13 f12 H locs hv hS => ?_)
  refine lv_lstore_n (lv' := [(2, .long r13), (0, .ref h), (1, .ref p1)]) hx hb dX4_divideDown_33 rfl hl (by decide) rfl (fun ls hl => ?_)
  refine lv_aload_n hx hb dX4_divideDown_34 rfl (lv_at hl 2 rfl) ?_
  obtain ⟨v14, ev14, hv⟩ := hv
  refine fw_get hx hb hts ii_X4_divideDown_X0 hown hK hS 0 ev14 rfl (by decide) mm_X4_divideDown_4 rfl dX4_divideDown_35 ?_
  refine lv_if_lt (tgt := 43) hx hb dX4_divideDown_38 (by decide) (fun c15 => ?_) (fun c15 => ?_)
  · have hv := hv.1 c15
    refine lv_aload_n hx hb dX4_divideDown_43 rfl (lv_at hl 1 rfl) ?_
    obtain ⟨v16, ev16, hv⟩ := hv
    refine fw_get hx hb hts ii_X4_divideDown_X4 hown hK hS 13 ev16 rfl (by decide) mm_X4_divideDown_0 rfl dX4_divideDown_44 ?_
    obtain ⟨ho17, hv⟩ := hv
    refine fw_callVi hx hb hml hown hts hK hS [] [] hv gX4_divideDown_X1_isZero rfl rfl rfl 0 (by decide +kernel) ⟨Nat.le_of_ble_eq_true rfl, Nat.le_of_ble_eq_true rfl⟩ rfl rfl ho17 rfl hl.1 rfl (Nat.le_of_ble_eq_true rfl) dX4_divideDown_47 ⟨Nat.zero_le _, Nat.zero_le _⟩ (fun r19 f18 H locs hv hS => ?_)
    refine lv_if_eq (tgt := 56) hx hb dX4_divideDown_50 (by decide) (fun c20 => ?_) (fun c20 => ?_)
    · have hv := hv.1 c20
      refine lv_aload_n hx hb dX4_divideDown_56 rfl (lv_at hl 1 rfl) ?_
      obtain ⟨v21, ev21, hv⟩ := hv
      refine fw_get hx hb hts ii_X4_divideDown_X4 hown hK hS 13 ev21 rfl (by decide) mm_X4_divideDown_0 rfl dX4_divideDown_57 ?_
      refine lv_aload_n hx hb dX4_divideDown_60 rfl (lv_at hl 2 rfl) ?_
      obtain ⟨v22, ev22, hv⟩ := hv
      refine fw_get hx hb hts ii_X4_divideDown_X0 hown hK hS 2 ev22 rfl (by decide) mm_X4_divideDown_2 rfl dX4_divideDown_61 ?_
      refine lv_aload_n hx hb dX4_divideDown_64 rfl (lv_at hl 1 rfl) ?_
      obtain ⟨v23, ev23, hv⟩ := hv
      refine fw_get hx hb hts ii_X4_divideDown_X4 hown hK hS 13 ev23 rfl (by decide) mm_X4_divideDown_0 rfl dX4_divideDown_65 ?_
      obtain ⟨ho24, hv⟩ := hv
      refine fw_callVv hx hb hml hown hts hK hS [.ref v22, .ref v23] [] hv gX4_divideDown_X1_becomeDifference rfl rfl rfl 2 (by decide +kernel) ⟨Nat.le_of_ble_eq_true rfl, Nat.le_of_ble_eq_true rfl⟩ rfl rfl ho24 rfl hl.1 rfl (Nat.le_of_ble_eq_true rfl) dX4_divideDown_68 ⟨Nat.zero_le _, Nat.zero_le _⟩ (fun f25 H locs hv hS => ?_)
      refine lv_lload_n hx hb dX4_divideDown_71 rfl (lv_at hl 0 rfl) ?_
      refine lv_lneg hx hb dX4_divideDown_72 ?_
      refine lv_lconst (v := 1) hx hb dX4_divideDown_73 (by decide) ?_
      refine lv_lsub hx hb dX4_divideDown_74 ?_
      exact fw_lret hx hb hr hlk hS hv dX4_divideDown_75
    · have hv := hv.2 c20
      refine lv_lload_n hx hb dX4_divideDown_53 rfl (lv_at hl 0 rfl) ?_
      refine lv_lneg hx hb dX4_divideDown_54 ?_
      exact fw_lret hx hb hr hlk hS hv dX4_divideDown_55
  · have hv := hv.2 c15
    refine lv_lload_n hx hb dX4_divideDown_41 rfl (lv_at hl 0 rfl) ?_
    exact fw_lret hx hb hr hlk hS hv dX4_divideDown_42
set_option maxRecDepth 100000 in
set_option maxHeartbeats 4000000 in
theorem T_X4_divideDown {E : cx} {h : Nat} {p1 : Nat} {f : hm} {K : Int64 → hm → Prop}  (h0 : X_X4_divideDown_0 E h p1 f  K) : S_X4_divideDown E h p1 f K := by
  refine ML_of (cc := cX4_divideDown) (maxL := 4) (ret := (some .long)) (by decide) rfl ?_
  intro p e s m below meth c C
  have hl := lv_entry ([.ref h, .ref p1]) (n := 4) (Nat.le_of_ble_eq_true rfl)
  rw [lg_entry_eq]
  generalize (lg_sl ([.ref h, .ref p1]) ++ List.replicate (4 - (lg_sl ([.ref h, .ref p1])).length) Slot.unset).toArray = ls at hl ⊢
  have hl : lv_has ls 4 [(0, .ref h), (1, .ref p1)] := hl
  have hS := C.2.2.2.2.2.2.2.2.2
  exact R_X4_divideDown_0 C h p1 f h0 hl hS
/-! java/lang/Integer.signum(I)I -/
def S_J6_signum_0f7a4 (E : cx) (p1 : Int32) (f : hm) (K : Int32 → hm → Prop) : Prop := MI E.1 E.2.1 vwCl (eT E) yJ6_signum_0f7a4 wsJ6_signum_0f7a4 ({ frames := 0, cells := 0, slots := 0, locals := 0 }) [.int p1] f K
def X_J6_signum_0f7a4_0 (E : cx) (p1 : Int32) (f : hm)  (K : Int32 → hm → Prop) : Prop :=
  K ((p1 >>> ((31 : Int32) &&& 31)) ||| (j_iushr (-p1) (31 : Int32))) f
set_option maxRecDepth 100000 in
set_option maxHeartbeats 4000000 in
theorem R_J6_signum_0f7a4_0 {E : cx} {p : Program} {e : Env} {s : State} {m : MethodId} {below : List Frame} {meth : Method} {c : Code} {f0 : hm} {zp1 : Int32} (C : wB E.2.1 vwCl (eT E) yJ6_signum_0f7a4 cJ6_signum_0f7a4 1 (some .int) wsJ6_signum_0f7a4 [.int zp1] f0 p s m meth c) (p1 : Int32) (f : hm)  {K : Int32 → hm → Prop} (hv : X_J6_signum_0f7a4_0 E p1 f  K) {ls : Array Slot} {H : Heap} {locs : List Loc} (hl : lv_has ls 1 [(0, .int p1)]) (hS : wS E.2.1 vwCl (wA f0 s.heap.size) s.heap f H locs)  : W p E.1 e ({ frames := 0, cells := 0, slots := 0, locals := 0 }) s m ([.int zp1] : List Value).toArray below meth c H locs 0 0 (MQ below (wQi f0 E.2.1 vwCl K s) ([.int zp1] : List Value).toArray s 0 0 (wA f0 s.heap.size)) (F0 m 0 ls []) := by
  obtain ⟨hx, hb, hml, hown, hts, hr, hlk, hnm, hK, -⟩ := C
  unfold X_J6_signum_0f7a4_0 at hv
  refine lv_iload_n hx hb dJ6_signum_0f7a4_0 rfl (lv_at hl 0 rfl) ?_
  refine lv_bipush (v := 31) hx hb dJ6_signum_0f7a4_1 (by decide) ?_
  refine lv_ishr hx hb dJ6_signum_0f7a4_3 ?_
  refine lv_iload_n hx hb dJ6_signum_0f7a4_4 rfl (lv_at hl 0 rfl) ?_
  refine lv_ineg hx hb dJ6_signum_0f7a4_5 ?_
  refine lv_bipush (v := 31) hx hb dJ6_signum_0f7a4_6 (by decide) ?_
  refine lv_iushr (v := j_iushr (-p1) (31 : Int32)) hx hb dJ6_signum_0f7a4_8 rfl ?_
  refine lv_ior hx hb dJ6_signum_0f7a4_9 ?_
  exact fw_iret hx hb hr hlk hS hv dJ6_signum_0f7a4_10
set_option maxRecDepth 100000 in
set_option maxHeartbeats 4000000 in
theorem T_J6_signum_0f7a4 {E : cx} {p1 : Int32} {f : hm} {K : Int32 → hm → Prop}  (h0 : X_J6_signum_0f7a4_0 E p1 f  K) : S_J6_signum_0f7a4 E p1 f K := by
  refine MI_of (cc := cJ6_signum_0f7a4) (maxL := 1) (ret := (some .int)) (by decide) rfl ?_
  intro p e s m below meth c C
  have hl := lv_entry ([.int p1]) (n := 1) (Nat.le_of_ble_eq_true rfl)
  rw [lg_entry_eq]
  generalize (lg_sl ([.int p1]) ++ List.replicate (1 - (lg_sl ([.int p1])).length) Slot.unset).toArray = ls at hl ⊢
  have hl : lv_has ls 1 [(0, .int p1)] := hl
  have hS := C.2.2.2.2.2.2.2.2.2
  exact R_J6_signum_0f7a4_0 C p1 f h0 hl hS
