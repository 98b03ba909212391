/-! By program (wip/whole/gen.py), out of the printed names: do not edit. -/
/-! ContinuedRatios$Natural.shiftedLimb(II)J -/
def S_X1_shiftedLimb (E : cx) (h : Nat) (p1 : Int32) (p2 : Int32) (f : hm) (K : Int64 → hm → Prop) : Prop := ML E.1 E.2.1 vwCl (eT E) yX1_shiftedLimb wsX1_shiftedLimb ({ frames := 1, cells := 0, slots := 0, locals := 21 }) [.ref h, .int p1, .int p2] f K
theorem mm_X1_shiftedLimb_0 : Cond.constantLong RX1 17 (4294967295) ∈ wsX1_shiftedLimb := by decide +kernel
def X_X1_shiftedLimb_0 (E : cx) (h : Nat) (p1 : Int32) (p2 : Int32) (f : hm)  (K : Int64 → hm → Prop) : Prop :=
  (isO f h 1 ∧ S_X1_limb E h (p1 - (1 : Int32)) f (fun (r3 : Int64) (f2 : hm) => (∀ x4 : Int64, x4 = (j_lushr (j_lushr r3 (1 : Int32)) ((31 : Int32) - p2)) → (isO f2 h 1 ∧ S_X1_limb E h p1 f2 (fun (r7 : Int64) (f6 : hm) => K (((j_lshl r7 p2) &&& (4294967295 : Int64)) ||| x4) f6)))))
set_option maxRecDepth 100000 in
set_option maxHeartbeats 4000000 in
theorem R_X1_shiftedLimb_0 {E : cx} {p : Program} {e : Env} {s : State} {m : MethodId} {below : List Frame} {meth : Method} {c : Code} {f0 : hm} {zh : Nat} {zp1 : Int32} {zp2 : Int32} (C : wB E.2.1 vwCl (eT E) yX1_shiftedLimb cX1_shiftedLimb 5 (some .long) wsX1_shiftedLimb [.ref zh, .int zp1, .int zp2] f0 p s m meth c) (h : Nat) (p1 : Int32) (p2 : Int32) (f : hm)  {K : Int64 → hm → Prop} (hv : X_X1_shiftedLimb_0 E h p1 p2 f  K) {ls : Array Slot} {H : Heap} {locs : List Loc} (hl : lv_has ls 5 [(0, .ref h), (1, .int p1), (2, .int p2)]) (hS : wS E.2.1 vwCl (wA f0 s.heap.size) s.heap f H locs)  : W p E.1 e ({ frames := 1, cells := 0, slots := 0, locals := 21 }) s m ([.ref zh, .int zp1, .int zp2] : List Value).toArray below meth c H locs 0 0 (MQ below (wQl f0 E.2.1 vwCl K s) ([.ref zh, .int zp1, .int zp2] : List Value).toArray s 0 0 (wA f0 s.heap.size)) (F0 m 0 ls []) := by
  obtain ⟨hx, hb, hml, hown, hts, hr, hlk, hnm, hK, -⟩ := C
  unfold X_X1_shiftedLimb_0 at hv
  refine lv_aload_n hx hb dX1_shiftedLimb_0 rfl (lv_at hl 0 rfl) ?_
  refine lv_iload_n hx hb dX1_shiftedLimb_1 rfl (lv_at hl 1 rfl) ?_
  refine lv_iconst (v := 1) hx hb dX1_shiftedLimb_2 (by decide) ?_
  refine lv_isub hx hb dX1_shiftedLimb_3 ?_
  obtain ⟨ho1, hv⟩ := hv
  refine fw_callVl hx hb hml hown hts hK hS [.int (p1 - (1 : Int32))] [] hv gX1_shiftedLimb_X1_limb rfl rfl rfl 1 (by decide +kernel) ⟨Nat.le_of_ble_eq_true rfl, Nat.le_of_ble_eq_true rfl⟩ rfl rfl ho1 rfl hl.1 rfl (Nat.le_of_ble_eq_true rfl) dX1_shiftedLimb_4 ⟨Nat.zero_le _, Nat.zero_le _⟩ (fun r3 f2 H locs hv hS => ?_)
  refine lv_iconst (v := 1) hx hb dX1_shiftedLimb_7 (by decide) ?_
  refine lv_lushr (v := j_lushr r3 (1 : Int32)) hx hb dX1_shiftedLimb_8 rfl ?_
  refine lv_bipush (v := 31) hx hb dX1_shiftedLimb_9 (by decide) ?_
  refine lv_iload_n hx hb dX1_shiftedLimb_11 rfl (lv_at hl 2 rfl) ?_
  refine lv_isub hx hb dX1_shiftedLimb_12 ?_
  refine lv_lushr (v := j_lushr (j_lushr r3 (1 : Int32)) ((31 : Int32) - p2)) hx hb dX1_shiftedLimb_13 rfl ?_
  refine lv_topl (fun x4 ex4 => ?_)
  have hv := hv x4 ex4
  refine lv_lstore_n (lv' := [(3, .long x4), (0, .ref h), (1, .int p1), (2, .int p2)]) hx hb dX1_shiftedLimb_14 rfl hl (by decide) rfl (fun ls hl => ?_)
  refine lv_aload_n hx hb dX1_shiftedLimb_15 rfl (lv_at hl 1 rfl) ?_
  refine lv_iload_n hx hb dX1_shiftedLimb_16 rfl (lv_at hl 2 rfl) ?_
  obtain ⟨ho5, hv⟩ := hv
  refine fw_callVl hx hb hml hown hts hK hS [.int p1] [] hv gX1_shiftedLimb_X1_limb rfl rfl rfl 1 (by decide +kernel) ⟨Nat.le_of_ble_eq_true rfl, Nat.le_of_ble_eq_true rfl⟩ rfl rfl ho5 rfl hl.1 rfl (Nat.le_of_ble_eq_true rfl) dX1_shiftedLimb_17 ⟨Nat.zero_le _, Nat.zero_le _⟩ (fun r7 f6 H locs hv hS => ?_)
  refine lv_iload_n hx hb dX1_shiftedLimb_20 rfl (lv_at hl 3 rfl) ?_
  refine lv_lshl (v := j_lshl r7 p2) hx hb dX1_shiftedLimb_21 rfl ?_
  refine lv_ldc2 (v := (4294967295)) hx hb hown (hts _ mm_X1_shiftedLimb_0) dX1_shiftedLimb_22 ?_
  refine lv_land hx hb dX1_shiftedLimb_25 ?_
  refine lv_lload_n hx hb dX1_shiftedLimb_26 rfl (lv_at hl 0 rfl) ?_
  refine lv_lor hx hb dX1_shiftedLimb_27 ?_
  exact fw_lret hx hb hr hlk hS hv dX1_shiftedLimb_28
set_option maxRecDepth 100000 in
set_option maxHeartbeats 4000000 in
theorem T_X1_shiftedLimb {E : cx} {h : Nat} {p1 : Int32} {p2 : Int32} {f : hm} {K : Int64 → hm → Prop}  (h0 : X_X1_shiftedLimb_0 E h p1 p2 f  K) : S_X1_shiftedLimb E h p1 p2 f K := by
  refine ML_of (cc := cX1_shiftedLimb) (maxL := 5) (ret := (some .long)) (by decide) rfl ?_
  intro p e s m below meth c C
  have hl := lv_entry ([.ref h, .int p1, .int p2]) (n := 5) (Nat.le_of_ble_eq_true rfl)
  rw [lg_entry_eq]
  generalize (lg_sl ([.ref h, .int p1, .int p2]) ++ List.replicate (5 - (lg_sl ([.ref h, .int p1, .int p2])).length) Slot.unset).toArray = ls at hl ⊢
  have hl : lv_has ls 5 [(0, .ref h), (1, .int p1), (2, .int p2)] := hl
  have hS := C.2.2.2.2.2.2.2.2.2
  exact R_X1_shiftedLimb_0 C h p1 p2 f h0 hl hS
/-! ContinuedRatios$Natural.unsignedQuotient(JJ)J -/
def S_X1_unsignedQuotient (E : cx) (p1 : Int64) (p2 : Int64) (f : hm) (K : Int64 → hm → Prop) : Prop := ML E.1 E.2.1 vwCl (eT E) yX1_unsignedQuotient wsX1_unsignedQuotient ({ frames := 0, cells := 0, slots := 0, locals := 0 }) [.long p1, .long p2] f K
def X_X1_unsignedQuotient_0 (E : cx) (p1 : Int64) (p2 : Int64) (f : hm)  (K : Int64 → hm → Prop) : Prop :=
  ((0 ≤ (lg_cmp p2 (1 : Int64)) → (¬ p2 = 0 ∧ (∀ x3 : Int64, x3 = (j_lshl ((j_lushr p1 (1 : Int32)) / p2) (1 : Int32)) → (((lg_cmp (p1 - (x3 * p2)) p2) < 0 → K x3 f) ∧ (¬ ((lg_cmp (p1 - (x3 * p2)) p2) < 0) → K (x3 + (1 : Int64)) f))))) ∧ (¬ (0 ≤ (lg_cmp p2 (1 : Int64))) → K (0 : Int64) f))
set_option maxRecDepth 100000 in
set_option maxHeartbeats 4000000 in
theorem R_X1_unsignedQuotient_0 {E : cx} {p : Program} {e : Env} {s : State} {m : MethodId} {below : List Frame} {meth : Method} {c : Code} {f0 : hm} {zp1 : Int64} {zp2 : Int64} (C : wB E.2.1 vwCl (eT E) yX1_unsignedQuotient cX1_unsignedQuotient 6 (some .long) wsX1_unsignedQuotient [.long zp1, .long zp2] f0 p s m meth c) (p1 : Int64) (p2 : Int64) (f : hm)  {K : Int64 → hm → Prop} (hv : X_X1_unsignedQuotient_0 E p1 p2 f  K) {ls : Array Slot} {H : Heap} {locs : List Loc} (hl : lv_has ls 6 [(0, .long p1), (2, .long p2)]) (hS : wS E.2.1 vwCl (wA f0 s.heap.size) s.heap f H locs)  : W p E.1 e ({ frames := 0, cells := 0, slots := 0, locals := 0 }) s m ([.long zp1, .long zp2] : List Value).toArray below meth c H locs 0 0 (MQ below (wQl f0 E.2.1 vwCl K s) ([.long zp1, .long zp2] : List Value).toArray s 0 0 (wA f0 s.heap.size)) (F0 m 0 ls []) := by
  obtain ⟨hx, hb, hml, hown, hts, hr, hlk, hnm, hK, -⟩ := C
  unfold X_X1_unsignedQuotient_0 at hv
  refine lv_lload_n hx hb dX1_unsignedQuotient_0 rfl (lv_at hl 1 rfl) ?_
  refine lv_lconst (v := 1) hx hb dX1_unsignedQuotient_1 (by decide) ?_
  refine W.lcmp hx hb dX1_unsignedQuotient_2 ?_
  refine lv_if_ge (tgt := 8) hx hb dX1_unsignedQuotient_3 (by decide) (fun c1 => ?_) (fun c1 => ?_)
  · have hv := hv.1 c1
    refine lv_lload_n hx hb dX1_unsignedQuotient_8 rfl (lv_at hl 0 rfl) ?_
    refine lv_iconst (v := 1) hx hb dX1_unsignedQuotient_9 (by decide) ?_
    refine lv_lushr (v := j_lushr p1 (1 : Int32)) hx hb dX1_unsignedQuotient_10 rfl ?_
    refine lv_lload_n hx hb dX1_unsignedQuotient_11 rfl (lv_at hl 1 rfl) ?_
    obtain ⟨hz2, hv⟩ := hv
    refine lv_ldiv hx hb dX1_unsignedQuotient_12 hz2 ?_
    refine lv_iconst (v := 1) hx hb dX1_unsignedQuotient_13 (by decide) ?_
    refine lv_lshl (v := j_lshl ((j_lushr p1 (1 : Int32)) / p2) (1 : Int32)) hx hb dX1_unsignedQuotient_14 rfl ?_
    refine lv_topl (fun x3 ex3 => ?_)
    have hv := hv x3 ex3
    refine lv_lstore (lv' := [(4, .long x3), (0, .long p1), (2, .long p2)]) hx hb dX1_unsignedQuotient_15 hl (by decide) rfl (fun ls hl => ?_)
    refine lv_lload_n hx hb dX1_unsignedQuotient_17 rfl (lv_at hl 1 rfl) ?_
    refine lv_lload hx hb dX1_unsignedQuotient_18 (lv_at hl 0 rfl) ?_
    refine lv_lload_n hx hb dX1_unsignedQuotient_20 rfl (lv_at hl 2 rfl) ?_
    refine lv_lmul hx hb dX1_unsignedQuotient_21 ?_
    refine lv_lsub hx hb dX1_unsignedQuotient_22 ?_
    refine lv_lload_n hx hb dX1_unsignedQuotient_23 rfl (lv_at hl 2 rfl) ?_
    refine W.lcmp hx hb dX1_unsignedQuotient_24 ?_
    refine lv_if_lt (tgt := 35) hx hb dX1_unsignedQuotient_25 (by decide) (fun c4 => ?_) (fun c4 => ?_)
    · have hv := hv.1 c4
      refine lv_lload hx hb dX1_unsignedQuotient_35 (lv_at hl 0 rfl) ?_
      exact fw_lret hx hb hr hlk hS hv dX1_unsignedQuotient_37
    · have hv := hv.2 c4
      refine lv_lload hx hb dX1_unsignedQuotient_28 (lv_at hl 0 rfl) ?_
      refine lv_lconst (v := 1) hx hb dX1_unsignedQuotient_30 (by decide) ?_
      refine lv_ladd hx hb dX1_unsignedQuotient_31 ?_
      refine lv_goto (tgt := 37) hx hb dX1_unsignedQuotient_32 (by decide) ?_
      exact fw_lret hx hb hr hlk hS hv dX1_unsignedQuotient_37
  · have hv := hv.2 c1
    refine lv_lconst (v := 0) hx hb dX1_unsignedQuotient_6 (by decide) ?_
    exact fw_lret hx hb hr hlk hS hv dX1_unsignedQuotient_7
set_option maxRecDepth 100000 in
set_option maxHeartbeats 4000000 in
theorem T_X1_unsignedQuotient {E : cx} {p1 : Int64} {p2 : Int64} {f : hm} {K : Int64 → hm → Prop}  (h0 : X_X1_unsignedQuotient_0 E p1 p2 f  K) : S_X1_unsignedQuotient E p1 p2 f K := by
  refine ML_of (cc := cX1_unsignedQuotient) (maxL := 6) (ret := (some .long)) (by decide) rfl ?_
  intro p e s m below meth c C
  have hl := lv_entry ([.long p1, .long p2]) (n := 6) (Nat.le_of_ble_eq_true rfl)
  rw [lg_entry_eq]
  generalize (lg_sl ([.long p1, .long p2]) ++ List.replicate (6 - (lg_sl ([.long p1, .long p2])).length) Slot.unset).toArray = ls at hl ⊢
  have hl : lv_has ls 6 [(0, .long p1), (2, .long p2)] := hl
  have hS := C.2.2.2.2.2.2.2.2.2
  exact R_X1_unsignedQuotient_0 C p1 p2 f h0 hl hS
/-! ContinuedRatios$Natural.isBelow(JJ)Z -/
def S_X1_isBelow (E : cx) (p1 : Int64) (p2 : Int64) (f : hm) (K : Int32 → hm → Prop) : Prop := MI E.1 E.2.1 vwCl (eT E) yX1_isBelow wsX1_isBelow ({ frames := 0, cells := 0, slots := 0, locals := 0 }) [.long p1, .long p2] f K
theorem mm_X1_isBelow_0 : Cond.constantLong RX1 73 (-9223372036854775808) ∈ wsX1_isBelow := by decide +kernel
def X_X1_isBelow_0 (E : cx) (p1 : Int64) (p2 : Int64) (f : hm)  (K : Int32 → hm → Prop) : Prop :=
  ((0 ≤ (lg_cmp (p1 + (-9223372036854775808 : Int64)) (p2 + (-9223372036854775808 : Int64))) → (narrow .boolean (.int (0 : Int32)) = .int (0 : Int32) ∧ K (0 : Int32) f)) ∧ (¬ (0 ≤ (lg_cmp (p1 + (-9223372036854775808 : Int64)) (p2 + (-9223372036854775808 : Int64)))) → (narrow .boolean (.int (1 : Int32)) = .int (1 : Int32) ∧ K (1 : Int32) f)))
set_option maxRecDepth 100000 in
set_option maxHeartbeats 4000000 in
theorem R_X1_isBelow_0 {E : cx} {p : Program} {e : Env} {s : State} {m : MethodId} {below : List Frame} {meth : Method} {c : Code} {f0 : hm} {zp1 : Int64} {zp2 : Int64} (C : wB E.2.1 vwCl (eT E) yX1_isBelow cX1_isBelow 4 (some .boolean) wsX1_isBelow [.long zp1, .long zp2] f0 p s m meth c) (p1 : Int64) (p2 : Int64) (f : hm)  {K : Int32 → hm → Prop} (hv : X_X1_isBelow_0 E p1 p2 f  K) {ls : Array Slot} {H : Heap} {locs : List Loc} (hl : lv_has ls 4 [(0, .long p1), (2, .long p2)]) (hS : wS E.2.1 vwCl (wA f0 s.heap.size) s.heap f H locs)  : W p E.1 e ({ frames := 0, cells := 0, slots := 0, locals := 0 }) s m ([.long zp1, .long zp2] : List Value).toArray below meth c H locs 0 0 (MQ below (wQi f0 E.2.1 vwCl K s) ([.long zp1, .long zp2] : List Value).toArray s 0 0 (wA f0 s.heap.size)) (F0 m 0 ls []) := by
  obtain ⟨hx, hb, hml, hown, hts, hr, hlk, hnm, hK, -⟩ := C
  unfold X_X1_isBelow_0 at hv
  refine lv_lload_n hx hb dX1_isBelow_0 rfl (lv_at hl 0 rfl) ?_
  refine lv_ldc2 (v := (-9223372036854775808)) hx hb hown (hts _ mm_X1_isBelow_0) dX1_isBelow_1 ?_
  refine lv_ladd hx hb dX1_isBelow_4 ?_
  refine lv_lload_n hx hb dX1_isBelow_5 rfl (lv_at hl 1 rfl) ?_
  refine lv_ldc2 (v := (-9223372036854775808)) hx hb hown (hts _ mm_X1_isBelow_0) dX1_isBelow_6 ?_
  refine lv_ladd hx hb dX1_isBelow_9 ?_
  refine W.lcmp hx hb dX1_isBelow_10 ?_
  refine lv_if_ge (tgt := 18) hx hb dX1_isBelow_11 (by decide) (fun c1 => ?_) (fun c1 => ?_)
  · have hv := hv.1 c1
    refine lv_iconst (v := 0) hx hb dX1_isBelow_18 (by decide) ?_
    exact fw_zret hx hb hr hlk hS hv dX1_isBelow_19
  · have hv := hv.2 c1
    refine lv_iconst (v := 1) hx hb dX1_isBelow_14 (by decide) ?_
    refine lv_goto (tgt := 19) hx hb dX1_isBelow_15 (by decide) ?_
    exact fw_zret hx hb hr hlk hS hv dX1_isBelow_19
set_option maxRecDepth 100000 in
set_option maxHeartbeats 4000000 in
theorem T_X1_isBelow {E : cx} {p1 : Int64} {p2 : Int64} {f : hm} {K : Int32 → hm → Prop}  (h0 : X_X1_isBelow_0 E p1 p2 f  K) : S_X1_isBelow E p1 p2 f K := by
  refine MI_of (cc := cX1_isBelow) (maxL := 4) (ret := (some .boolean)) (by decide) rfl ?_
  intro p e s m below meth c C
  have hl := lv_entry ([.long p1, .long p2]) (n := 4) (Nat.le_of_ble_eq_true rfl)
  rw [lg_entry_eq]
  generalize (lg_sl ([.long p1, .long p2]) ++ List.replicate (4 - (lg_sl ([.long p1, .long p2])).length) Slot.unset).toArray = ls at hl ⊢
  have hl : lv_has ls 4 [(0, .long p1), (2, .long p2)] := hl
  have hS := C.2.2.2.2.2.2.2.2.2
  exact R_X1_isBelow_0 C p1 p2 f h0 hl hS
/-! ContinuedRatios$Natural.guessQuotient(IIJJ)J -/
def S_X1_guessQuotient (E : cx) (h : Nat) (p1 : Int32) (p2 : Int32) (p3 : Int64) (p4 : Int64) (f : hm) (K : Int64 → hm → Prop) : Prop := ML E.1 E.2.1 vwCl (eT E) yX1_guessQuotient wsX1_guessQuotient ({ frames := 2, cells := 0, slots := 0, locals := 45 }) [.ref h, .int p1, .int p2, .long p3, .long p4] f K
theorem mm_X1_guessQuotient_0 : Cond.constantLong RX1 17 (4294967295) ∈ wsX1_guessQuotient := by decide +kernel
theorem mm_X1_guessQuotient_1 : Cond.constantLong RX1 19 (4294967296) ∈ wsX1_guessQuotient := by decide +kernel
def X_X1_guessQuotient_0 (E : cx) (h : Nat) (p1 : Int32) (p2 : Int32) (p3 : Int64) (p4 : Int64) (f : hm) (L76 : Nat → Int32 → Int32 → Int64 → Int64 → Int64 → Int64 → Int64 → Int64 → Int64 → Int32 → hm → Prop) (K : Int64 → hm → Prop) : Prop :=
  (isO f h 1 ∧ S_X1_shiftedLimb E h p1 p2 f (fun (r3 : Int64) (f2 : hm) => (isO f2 h 1 ∧ S_X1_shiftedLimb E h (p1 - (1 : Int32)) p2 f2 (fun (r6 : Int64) (f5 : hm) => (isO f5 h 1 ∧ S_X1_shiftedLimb E h (p1 - (2 : Int32)) p2 f5 (fun (r9 : Int64) (f8 : hm) => (∀ x10 : Int64, x10 = (r6 + p3) → ((0 ≤ (lg_cmp r3 p3) → L76 h p1 p2 p3 p4 r3 r6 r9 (4294967295 : Int64) x10 (0 : Int32) f8) ∧ (¬ (0 ≤ (lg_cmp r3 p3)) → (∀ x12 : Int64, x12 = ((j_lshl r3 (32 : Int32)) ||| r6) → S_X1_unsignedQuotient E x12 p3 f8 (fun (r14 : Int64) (f13 : hm) => (∀ x15 : Int64, x15 = (x12 - (r14 * p3)) → L76 h p1 p2 p3 p4 r3 r6 r9 r14 x15 (0 : Int32) f13))))))))))))
def X_X1_guessQuotient_76 (E : cx) (a_0 : Nat) (x_1 : Int32) (x_2 : Int32) (x_3 : Int64) (x_5 : Int64) (x_7 : Int64) (x_9 : Int64) (x_11 : Int64) (x_13 : Int64) (x_15 : Int64) (x_17 : Int32) (f : hm) (L76 : Nat → Int32 → Int32 → Int64 → Int64 → Int64 → Int64 → Int64 → Int64 → Int64 → Int32 → hm → Prop) (K : Int64 → hm → Prop) : Prop :=
  (((2 : Int32) ≤ x_17 → K x_13 f) ∧ (¬ ((2 : Int32) ≤ x_17) → ((0 ≤ (lg_cmp x_15 (4294967296 : Int64)) → K x_13 f) ∧ (¬ (0 ≤ (lg_cmp x_15 (4294967296 : Int64))) → S_X1_isBelow E ((j_lshl x_15 (32 : Int32)) ||| x_11) (x_13 * x_5) f (fun (r4 : Int32) (f3 : hm) => ((¬ r4 = 0 → (∀ x6 : Int64, x6 = (x_13 - (1 : Int64)) → (∀ x7 : Int64, x7 = (x_15 + x_3) → (∀ x8 : Int32, x8 = x_17 + (1) → L76 a_0 x_1 x_2 x_3 x_5 x_7 x_9 x_11 x6 x7 x8 f3)))) ∧ (r4 = 0 → K x_13 f3)))))))
set_option maxRecDepth 100000 in
set_option maxHeartbeats 4000000 in
theorem R_X1_guessQuotient_0 {E : cx} {p : Program} {e : Env} {s : State} {m : MethodId} {below : List Frame} {meth : Method} {c : Code} {f0 : hm} {zh : Nat} {zp1 : Int32} {zp2 : Int32} {zp3 : Int64} {zp4 : Int64} (C : wB E.2.1 vwCl (eT E) yX1_guessQuotient cX1_guessQuotient 19 (some .long) wsX1_guessQuotient [.ref zh, .int zp1, .int zp2, .long zp3, .long zp4] f0 p s m meth c) (h : Nat) (p1 : Int32) (p2 : Int32) (p3 : Int64) (p4 : Int64) (f : hm) {L76 : Nat → Int32 → Int32 → Int64 → Int64 → Int64 → Int64 → Int64 → Int64 → Int64 → Int32 → hm → Prop} {K : Int64 → hm → Prop} (hv : X_X1_guessQuotient_0 E h p1 p2 p3 p4 f L76 K) {ls : Array Slot} {H : Heap} {locs : List Loc} (hl : lv_has ls 19 [(0, .ref h), (1, .int p1), (2, .int p2), (3, .long p3), (5, .long p4)]) (hS : wS E.2.1 vwCl (wA f0 s.heap.size) s.heap f H locs) (hL76 : ∀ (y_0 : Nat) (y_1 : Int32) (y_2 : Int32) (y_3 : Int64) (y_5 : Int64) (y_7 : Int64) (y_9 : Int64) (y_11 : Int64) (y_13 : Int64) (y_15 : Int64) (y_17 : Int32) (f : hm) (ls : Array Slot) (H : Heap) (locs : List Loc), L76 y_0 y_1 y_2 y_3 y_5 y_7 y_9 y_11 y_13 y_15 y_17 f → lv_has ls 19 [(0, .ref y_0), (1, .int y_1), (2, .int y_2), (3, .long y_3), (5, .long y_5), (7, .long y_7), (9, .long y_9), (11, .long y_11), (13, .long y_13), (15, .long y_15), (17, .int y_17)] → wS E.2.1 vwCl (wA f0 s.heap.size) s.heap f H locs → W p E.1 e ({ frames := 2, cells := 0, slots := 0, locals := 45 }) s m ([.ref zh, .int zp1, .int zp2, .long zp3, .long zp4] : List Value).toArray below meth c H locs 0 0 (MQ below (wQl f0 E.2.1 vwCl K s) ([.ref zh, .int zp1, .int zp2, .long zp3, .long zp4] : List Value).toArray s 0 0 (wA f0 s.heap.size)) (F0 m 76 ls [])) : W p E.1 e ({ frames := 2, cells := 0, slots := 0, locals := 45 }) s m ([.ref zh, .int zp1, .int zp2, .long zp3, .long zp4] : List Value).toArray below meth c H locs 0 0 (MQ below (wQl f0 E.2.1 vwCl K s) ([.ref zh, .int zp1, .int zp2, .long zp3, .long zp4] : List Value).toArray s 0 0 (wA f0 s.heap.size)) (F0 m 0 ls []) := by
  obtain ⟨hx, hb, hml, hown, hts, hr, hlk, hnm, hK, -⟩ := C
  unfold X_X1_guessQuotient_0 at hv
  refine lv_aload_n hx hb dX1_guessQuotient_0 rfl (lv_at hl 0 rfl) ?_
  refine lv_iload_n hx hb dX1_guessQuotient_1 rfl (lv_at hl 1 rfl) ?_
  refine lv_iload_n hx hb dX1_guessQuotient_2 rfl (lv_at hl 2 rfl) ?_
  obtain ⟨ho1, hv⟩ := hv
  refine fw_callVl hx hb hml hown hts hK hS [.int p1, .int p2] [] hv gX1_guessQuotient_X1_shiftedLimb rfl rfl rfl 2 (by decide +kernel) ⟨Nat.le_of_ble_eq_true rfl, Nat.le_of_ble_eq_true rfl⟩ rfl rfl ho1 rfl hl.1 rfl (Nat.le_of_ble_eq_true rfl) dX1_guessQuotient_3 ⟨Nat.zero_le _, Nat.zero_le _⟩ (fun r3 f2 H locs hv hS => ?_)
  refine lv_lstore (lv' := [(7, .long r3), (0, .ref h), (1, .int p1), (2, .int p2), (3, .long p3), (5, .long p4)]) hx hb dX1_guessQuotient_6 hl (by decide) rfl (fun ls hl => ?_)
  refine lv_aload_n hx hb dX1_guessQuotient_8 rfl (lv_at hl 1 rfl) ?_
  refine lv_iload_n hx hb dX1_guessQuotient_9 rfl (lv_at hl 2 rfl) ?_
  refine lv_iconst (v := 1) hx hb dX1_guessQuotient_10 (by decide) ?_
  refine lv_isub hx hb dX1_guessQuotient_11 ?_
  refine lv_iload_n hx hb dX1_guessQuotient_12 rfl (lv_at hl 3 rfl) ?_
  obtain ⟨ho4, hv⟩ := hv
  refine fw_callVl hx hb hml hown hts hK hS [.int (p1 - (1 : Int32)), .int p2] [] hv gX1_guessQuotient_X1_shiftedLimb rfl rfl rfl 2 (by decide +kernel) ⟨Nat.le_of_ble_eq_true rfl, Nat.le_of_ble_eq_true rfl⟩ rfl rfl ho4 rfl hl.1 rfl (Nat.le_of_ble_eq_true rfl) dX1_guessQuotient_13 ⟨Nat.zero_le _, Nat.zero_le _⟩ (fun r6 f5 H locs hv hS => ?_)
  refine lv_lstore (lv' := [(9, .long r6), (7, .long r3), (0, .ref h), (1, .int p1), (2, .int p2), (3, .long p3), (5, .long p4)]) hx hb dX1_guessQuotient_16 hl (by decide) rfl (fun ls hl => ?_)
  refine lv_aload_n hx hb dX1_guessQuotient_18 rfl (lv_at hl 2 rfl) ?_
  refine lv_iload_n hx hb dX1_guessQuotient_19 rfl (lv_at hl 3 rfl) ?_
  refine lv_iconst (v := 2) hx hb dX1_guessQuotient_20 (by decide) ?_
  refine lv_isub hx hb dX1_guessQuotient_21 ?_
  refine lv_iload_n hx hb dX1_guessQuotient_22 rfl (lv_at hl 4 rfl) ?_
  obtain ⟨ho7, hv⟩ := hv
  refine fw_callVl hx hb hml hown hts hK hS [.int (p1 - (2 : Int32)), .int p2] [] hv gX1_guessQuotient_X1_shiftedLimb rfl rfl rfl 2 (by decide +kernel) ⟨Nat.le_of_ble_eq_true rfl, Nat.le_of_ble_eq_true rfl⟩ rfl rfl ho7 rfl hl.1 rfl (Nat.le_of_ble_eq_true rfl) dX1_guessQuotient_23 ⟨Nat.zero_le _, Nat.zero_le _⟩ (fun r9 f8 H locs hv hS => ?_)
  refine lv_lstore (lv' := [(11, .long r9), (9, .long r6), (7, .long r3), (0, .ref h), (1, .int p1), (2, .int p2), (3, .long p3), (5, .long p4)]) hx hb dX1_guessQuotient_26 hl (by decide) rfl (fun ls hl => ?_)
  refine lv_ldc2 (v := (4294967295)) hx hb hown (hts _ mm_X1_guessQuotient_0) dX1_guessQuotient_28 ?_
  refine lv_lstore (lv' := [(13, .long (4294967295 : Int64)), (11, .long r9), (9, .long r6), (7, .long r3), (0, .ref h), (1, .int p1), (2, .int p2), (3, .long p3), (5, .long p4)]) hx hb dX1_guessQuotient_31 hl (by decide) rfl (fun ls hl => ?_)
  refine lv_lload hx hb dX1_guessQuotient_33 (lv_at hl 2 rfl) ?_
  refine lv_lload_n hx hb dX1_guessQuotient_35 rfl (lv_at hl 7 rfl) ?_
  refine lv_ladd hx hb dX1_guessQuotient_36 ?_
  refine lv_topl (fun x10 ex10 => ?_)
  have hv := hv x10 ex10
  refine lv_lstore (lv' := [(15, .long x10), (13, .long (4294967295 : Int64)), (11, .long r9), (9, .long r6), (7, .long r3), (0, .ref h), (1, .int p1), (2, .int p2), (3, .long p3), (5, .long p4)]) hx hb dX1_guessQuotient_37 hl (by decide) rfl (fun ls hl => ?_)
  refine lv_lload hx hb dX1_guessQuotient_39 (lv_at hl 4 rfl) ?_
  refine lv_lload_n hx hb dX1_guessQuotient_41 rfl (lv_at hl 8 rfl) ?_
  refine W.lcmp hx hb dX1_guessQuotient_42 ?_
  refine lv_if_ge (tgt := 73) hx hb dX1_guessQuotient_43 (by decide) (fun c11 => ?_) (fun c11 => ?_)
  · have hv := hv.1 c11
    refine lv_iconst (v := 0) hx hb dX1_guessQuotient_73 (by decide) ?_
    refine lv_istore (lv' := [(17, .int (0 : Int32)), (15, .long x10), (13, .long (4294967295 : Int64)), (11, .long r9), (9, .long r6), (7, .long r3), (0, .ref h), (1, .int p1), (2, .int p2), (3, .long p3), (5, .long p4)]) hx hb dX1_guessQuotient_74 hl (by decide) rfl (fun ls hl => ?_)
    exact hL76 _ _ _ _ _ _ _ _ _ _ _ _ _ _ _ hv (lv_sub hl [6, 7, 8, 9, 10, 5, 4, 3, 2, 1, 0] rfl) hS
  · have hv := hv.2 c11
    refine lv_lload hx hb dX1_guessQuotient_46 (lv_at hl 4 rfl) ?_
    refine lv_bipush (v := 32) hx hb dX1_guessQuotient_48 (by decide) ?_
    refine lv_lshl (v := j_lshl r3 (32 : Int32)) hx hb dX1_guessQuotient_50 rfl ?_
    refine lv_lload hx hb dX1_guessQuotient_51 (lv_at hl 3 rfl) ?_
    refine lv_lor hx hb dX1_guessQuotient_53 ?_
    refine lv_topl (fun x12 ex12 => ?_)
    have hv := hv x12 ex12
    refine lv_lstore (lv' := [(17, .long x12), (15, .long x10), (13, .long (4294967295 : Int64)), (11, .long r9), (9, .long r6), (7, .long r3), (0, .ref h), (1, .int p1), (2, .int p2), (3, .long p3), (5, .long p4)]) hx hb dX1_guessQuotient_54 hl (by decide) rfl (fun ls hl => ?_)
    refine lv_lload hx hb dX1_guessQuotient_56 (lv_at hl 0 rfl) ?_
    refine lv_lload_n hx hb dX1_guessQuotient_58 rfl (lv_at hl 9 rfl) ?_
    refine fw_callSl hx hb hml hown hts hK hS [.long x12, .long p3] [] hv gX1_guessQuotient_X1_unsignedQuotient rfl rfl rfl 2 (by decide +kernel) ⟨Nat.le_of_ble_eq_true rfl, Nat.le_of_ble_eq_true rfl⟩ rfl hl.1 rfl (Nat.le_of_ble_eq_true rfl) dX1_guessQuotient_59 ⟨Nat.zero_le _, Nat.zero_le _⟩ (fun r14 f13 H locs hv hS => ?_)
    refine lv_lstore (lv' := [(13, .long r14), (17, .long x12), (15, .long x10), (11, .long r9), (9, .long r6), (7, .long r3), (0, .ref h), (1, .int p1), (2, .int p2), (3, .long p3), (5, .long p4)]) hx hb dX1_guessQuotient_62 hl (by decide) rfl (fun ls hl => ?_)
    refine lv_lload hx hb dX1_guessQuotient_64 (lv_at hl 1 rfl) ?_
    refine lv_lload hx hb dX1_guessQuotient_66 (lv_at hl 0 rfl) ?_
    refine lv_lload_n hx hb dX1_guessQuotient_68 rfl (lv_at hl 9 rfl) ?_
    refine lv_lmul hx hb dX1_guessQuotient_69 ?_
    refine lv_lsub hx hb dX1_guessQuotient_70 ?_
    refine lv_topl (fun x15 ex15 => ?_)
    have hv := hv x15 ex15
    refine lv_lstore (lv' := [(15, .long x15), (13, .long r14), (17, .long x12), (11, .long r9), (9, .long r6), (7, .long r3), (0, .ref h), (1, .int p1), (2, .int p2), (3, .long p3), (5, .long p4)]) hx hb dX1_guessQuotient_71 hl (by decide) rfl (fun ls hl => ?_)
    refine lv_iconst (v := 0) hx hb dX1_guessQuotient_73 (by decide) ?_
    refine lv_istore (lv' := [(17, .int (0 : Int32)), (15, .long x15), (13, .long r14), (11, .long r9), (9, .long r6), (7, .long r3), (0, .ref h), (1, .int p1), (2, .int p2), (3, .long p3), (5, .long p4)]) hx hb dX1_guessQuotient_74 hl (by decide) rfl (fun ls hl => ?_)
    exact hL76 _ _ _ _ _ _ _ _ _ _ _ _ _ _ _ hv (lv_sub hl [6, 7, 8, 9, 10, 5, 4, 3, 2, 1, 0] rfl) hS
set_option maxRecDepth 100000 in
set_option maxHeartbeats 4000000 in
theorem R_X1_guessQuotient_76 {E : cx} {p : Program} {e : Env} {s : State} {m : MethodId} {below : List Frame} {meth : Method} {c : Code} {f0 : hm} {zh : Nat} {zp1 : Int32} {zp2 : Int32} {zp3 : Int64} {zp4 : Int64} (C : wB E.2.1 vwCl (eT E) yX1_guessQuotient cX1_guessQuotient 19 (some .long) wsX1_guessQuotient [.ref zh, .int zp1, .int zp2, .long zp3, .long zp4] f0 p s m meth c) (a_0 : Nat) (x_1 : Int32) (x_2 : Int32) (x_3 : Int64) (x_5 : Int64) (x_7 : Int64) (x_9 : Int64) (x_11 : Int64) (x_13 : Int64) (x_15 : Int64) (x_17 : Int32) (f : hm) {L76 : Nat → Int32 → Int32 → Int64 → Int64 → Int64 → Int64 → Int64 → Int64 → Int64 → Int32 → hm → Prop} {K : Int64 → hm → Prop} (hv : X_X1_guessQuotient_76 E a_0 x_1 x_2 x_3 x_5 x_7 x_9 x_11 x_13 x_15 x_17 f L76 K) {ls : Array Slot} {H : Heap} {locs : List Loc} (hl : lv_has ls 19 [(0, .ref a_0), (1, .int x_1), (2, .int x_2), (3, .long x_3), (5, .long x_5), (7, .long x_7), (9, .long x_9), (11, .long x_11), (13, .long x_13), (15, .long x_15), (17, .int x_17)]) (hS : wS E.2.1 vwCl (wA f0 s.heap.size) s.heap f H locs) (hL76 : ∀ (y_0 : Nat) (y_1 : Int32) (y_2 : Int32) (y_3 : Int64) (y_5 : Int64) (y_7 : Int64) (y_9 : Int64) (y_11 : Int64) (y_13 : Int64) (y_15 : Int64) (y_17 : Int32) (f : hm) (ls : Array Slot) (H : Heap) (locs : List Loc), L76 y_0 y_1 y_2 y_3 y_5 y_7 y_9 y_11 y_13 y_15 y_17 f → lv_has ls 19 [(0, .ref y_0), (1, .int y_1), (2, .int y_2), (3, .long y_3), (5, .long y_5), (7, .long y_7), (9, .long y_9), (11, .long y_11), (13, .long y_13), (15, .long y_15), (17, .int y_17)] → wS E.2.1 vwCl (wA f0 s.heap.size) s.heap f H locs → W p E.1 e ({ frames := 2, cells := 0, slots := 0, locals := 45 }) s m ([.ref zh, .int zp1, .int zp2, .long zp3, .long zp4] : List Value).toArray below meth c H locs 0 0 (MQ below (wQl f0 E.2.1 vwCl K s) ([.ref zh, .int zp1, .int zp2, .long zp3, .long zp4] : List Value).toArray s 0 0 (wA f0 s.heap.size)) (F0 m 76 ls [])) : W p E.1 e ({ frames := 2, cells := 0, slots := 0, locals := 45 }) s m ([.ref zh, .int zp1, .int zp2, .long zp3, .long zp4] : List Value).toArray below meth c H locs 0 0 (MQ below (wQl f0 E.2.1 vwCl K s) ([.ref zh, .int zp1, .int zp2, .long zp3, .long zp4] : List Value).toArray s 0 0 (wA f0 s.heap.size)) (F0 m 76 ls []) := by
  obtain ⟨hx, hb, hml, hown, hts, hr, hlk, hnm, hK, -⟩ := C
  unfold X_X1_guessQuotient_76 at hv
  refine lv_iload hx hb dX1_guessQuotient_76 (lv_at hl 10 rfl) ?_
  refine lv_iconst (v := 2) hx hb dX1_guessQuotient_78 (by decide) ?_
  refine lv_icmp_ge (tgt := 131) hx hb dX1_guessQuotient_79 (by decide) (fun c1 => ?_) (fun c1 => ?_)
  · have hv := hv.1 c1
    refine lv_lload hx hb dX1_guessQuotient_131 (lv_at hl 8 rfl) ?_
    exact fw_lret hx hb hr hlk hS hv dX1_guessQuotient_133
  · have hv := hv.2 c1
    refine lv_lload hx hb dX1_guessQuotient_82 (lv_at hl 9 rfl) ?_
    refine lv_ldc2 (v := (4294967296)) hx hb hown (hts _ mm_X1_guessQuotient_1) dX1_guessQuotient_84 ?_
    refine W.lcmp hx hb dX1_guessQuotient_87 ?_
    refine lv_if_ge (tgt := 131) hx hb dX1_guessQuotient_88 (by decide) (fun c2 => ?_) (fun c2 => ?_)
    · have hv := hv.1 c2
      refine lv_lload hx hb dX1_guessQuotient_131 (lv_at hl 8 rfl) ?_
      exact fw_lret hx hb hr hlk hS hv dX1_guessQuotient_133
    · have hv := hv.2 c2
      refine lv_lload hx hb dX1_guessQuotient_91 (lv_at hl 9 rfl) ?_
      refine lv_bipush (v := 32) hx hb dX1_guessQuotient_93 (by decide) ?_
      refine lv_lshl (v := j_lshl x_15 (32 : Int32)) hx hb dX1_guessQuotient_95 rfl ?_
      refine lv_lload hx hb dX1_guessQuotient_96 (lv_at hl 7 rfl) ?_
      refine lv_lor hx hb dX1_guessQuotient_98 ?_
      refine lv_lload hx hb dX1_guessQuotient_99 (lv_at hl 8 rfl) ?_
      refine lv_lload hx hb dX1_guessQuotient_101 (lv_at hl 4 rfl) ?_
      refine lv_lmul hx hb dX1_guessQuotient_103 ?_
      refine fw_callSi hx hb hml hown hts hK hS [.long ((j_lshl x_15 (32 : Int32)) ||| x_11), .long (x_13 * x_5)] [] hv gX1_guessQuotient_X1_isBelow rfl rfl rfl 2 (by decide +kernel) ⟨Nat.le_of_ble_eq_true rfl, Nat.le_of_ble_eq_true rfl⟩ rfl hl.1 rfl (Nat.le_of_ble_eq_true rfl) dX1_guessQuotient_104 ⟨Nat.zero_le _, Nat.zero_le _⟩ (fun r4 f3 H locs hv hS => ?_)
      refine lv_if_ne (tgt := 113) hx hb dX1_guessQuotient_107 (by decide) (fun c5 => ?_) (fun c5 => ?_)
      · have hv := hv.1 c5
        refine lv_lload hx hb dX1_guessQuotient_113 (lv_at hl 8 rfl) ?_
        refine lv_lconst (v := 1) hx hb dX1_guessQuotient_115 (by decide) ?_
        refine lv_lsub hx hb dX1_guessQuotient_116 ?_
        refine lv_topl (fun x6 ex6 => ?_)
        have hv := hv x6 ex6
        refine lv_lstore (lv' := [(13, .long x6), (0, .ref a_0), (1, .int x_1), (2, .int x_2), (3, .long x_3), (5, .long x_5), (7, .long x_7), (9, .long x_9), (11, .long x_11), (15, .long x_15), (17, .int x_17)]) hx hb dX1_guessQuotient_117 hl (by decide) rfl (fun ls hl => ?_)
        refine lv_lload hx hb dX1_guessQuotient_119 (lv_at hl 9 rfl) ?_
        refine lv_lload_n hx hb dX1_guessQuotient_121 rfl (lv_at hl 4 rfl) ?_
        refine lv_ladd hx hb dX1_guessQuotient_122 ?_
        refine lv_topl (fun x7 ex7 => ?_)
        have hv := hv x7 ex7
        refine lv_lstore (lv' := [(15, .long x7), (13, .long x6), (0, .ref a_0), (1, .int x_1), (2, .int x_2), (3, .long x_3), (5, .long x_5), (7, .long x_7), (9, .long x_9), (11, .long x_11), (17, .int x_17)]) hx hb dX1_guessQuotient_123 hl (by decide) rfl (fun ls hl => ?_)
        obtain ⟨x8, ex8⟩ : ∃ y : Int32, y = x_17 + (1) := ⟨_, rfl⟩
        have hv := hv x8 ex8
        refine lv_iinc (v := x8) (lv' := [(17, .int x8), (15, .long x7), (13, .long x6), (0, .ref a_0), (1, .int x_1), (2, .int x_2), (3, .long x_3), (5, .long x_5), (7, .long x_7), (9, .long x_9), (11, .long x_11)]) hx hb dX1_guessQuotient_125 hl (k := 10) rfl (by rw [ex8]; rfl) (by decide) rfl (fun ls hl => ?_)
        refine lv_goto (tgt := 76) hx hb dX1_guessQuotient_128 (by decide) ?_
        exact hL76 _ _ _ _ _ _ _ _ _ _ _ _ _ _ _ hv (lv_sub hl [3, 4, 5, 6, 7, 8, 9, 10, 2, 1, 0] rfl) hS
      · have hv := hv.2 c5
        refine lv_goto (tgt := 131) hx hb dX1_guessQuotient_110 (by decide) ?_
        refine lv_lload hx hb dX1_guessQuotient_131 (lv_at hl 8 rfl) ?_
        exact fw_lret hx hb hr hlk hS hv dX1_guessQuotient_133
set_option maxRecDepth 100000 in
set_option maxHeartbeats 4000000 in
theorem T_X1_guessQuotient {E : cx} {h : Nat} {p1 : Int32} {p2 : Int32} {p3 : Int64} {p4 : Int64} {f : hm} {K : Int64 → hm → Prop} (I76 : Nat → Nat → Int32 → Int32 → Int64 → Int64 → Int64 → Int64 → Int64 → Int64 → Int64 → Int32 → hm → Prop) (h0 : X_X1_guessQuotient_0 E h p1 p2 p3 p4 f (fun (y_0 : Nat) (y_1 : Int32) (y_2 : Int32) (y_3 : Int64) (y_5 : Int64) (y_7 : Int64) (y_9 : Int64) (y_11 : Int64) (y_13 : Int64) (y_15 : Int64) (y_17 : Int32) (f : hm) => ∃ k : Nat, I76 k y_0 y_1 y_2 y_3 y_5 y_7 y_9 y_11 y_13 y_15 y_17 f) K) (h76 : ∀ (n : Nat) (a_0 : Nat) (x_1 : Int32) (x_2 : Int32) (x_3 : Int64) (x_5 : Int64) (x_7 : Int64) (x_9 : Int64) (x_11 : Int64) (x_13 : Int64) (x_15 : Int64) (x_17 : Int32) (f : hm), I76 n a_0 x_1 x_2 x_3 x_5 x_7 x_9 x_11 x_13 x_15 x_17 f → X_X1_guessQuotient_76 E a_0 x_1 x_2 x_3 x_5 x_7 x_9 x_11 x_13 x_15 x_17 f (fun (y_0 : Nat) (y_1 : Int32) (y_2 : Int32) (y_3 : Int64) (y_5 : Int64) (y_7 : Int64) (y_9 : Int64) (y_11 : Int64) (y_13 : Int64) (y_15 : Int64) (y_17 : Int32) (f : hm) => ∃ k : Nat, k < n ∧ I76 k y_0 y_1 y_2 y_3 y_5 y_7 y_9 y_11 y_13 y_15 y_17 f) K) : S_X1_guessQuotient E h p1 p2 p3 p4 f K := by
  refine ML_of (cc := cX1_guessQuotient) (maxL := 19) (ret := (some .long)) (by decide) rfl ?_
  intro p e s m below meth c C
  have hl := lv_entry ([.ref h, .int p1, .int p2, .long p3, .long p4]) (n := 19) (Nat.le_of_ble_eq_true rfl)
  rw [lg_entry_eq]
  generalize (lg_sl ([.ref h, .int p1, .int p2, .long p3, .long p4]) ++ List.replicate (19 - (lg_sl ([.ref h, .int p1, .int p2, .long p3, .long p4])).length) Slot.unset).toArray = ls at hl ⊢
  have hl : lv_has ls 19 [(0, .ref h), (1, .int p1), (2, .int p2), (3, .long p3), (5, .long p4)] := hl
  have hS := C.2.2.2.2.2.2.2.2.2
  have key : ∀ n : Nat, (∀ (a_0 : Nat) (x_1 : Int32) (x_2 : Int32) (x_3 : Int64) (x_5 : Int64) (x_7 : Int64) (x_9 : Int64) (x_11 : Int64) (x_13 : Int64) (x_15 : Int64) (x_17 : Int32) (g : hm) (ls : Array Slot) (H : Heap) (locs : List Loc), I76 n a_0 x_1 x_2 x_3 x_5 x_7 x_9 x_11 x_13 x_15 x_17 g → lv_has ls 19 [(0, .ref a_0), (1, .int x_1), (2, .int x_2), (3, .long x_3), (5, .long x_5), (7, .long x_7), (9, .long x_9), (11, .long x_11), (13, .long x_13), (15, .long x_15), (17, .int x_17)] → wS E.2.1 vwCl (wA f s.heap.size) s.heap g H locs → W p E.1 e ({ frames := 2, cells := 0, slots := 0, locals := 45 }) s m ([.ref h, .int p1, .int p2, .long p3, .long p4] : List Value).toArray below meth c H locs 0 0 (MQ below (wQl f E.2.1 vwCl K s) ([.ref h, .int p1, .int p2, .long p3, .long p4] : List Value).toArray s 0 0 (wA f s.heap.size)) (F0 m 76 ls [])) := by
    refine st_ind (fun n ih => ?_)
    intro a_0 x_1 x_2 x_3 x_5 x_7 x_9 x_11 x_13 x_15 x_17 g ls H locs hI hl hS
    exact R_X1_guessQuotient_76 C a_0 x_1 x_2 x_3 x_5 x_7 x_9 x_11 x_13 x_15 x_17 g (h76 n a_0 x_1 x_2 x_3 x_5 x_7 x_9 x_11 x_13 x_15 x_17 g hI) hl hS (fun _ _ _ _ _ _ _ _ _ _ _ _ _ _ _ hI hl hS => by obtain ⟨k, hk, hI⟩ := hI; exact (ih k hk) _ _ _ _ _ _ _ _ _ _ _ _ _ _ _ hI hl hS)
  exact R_X1_guessQuotient_0 C h p1 p2 p3 p4 f h0 hl hS (fun _ _ _ _ _ _ _ _ _ _ _ _ _ _ _ hI hl hS => by obtain ⟨k, hI⟩ := hI; exact (key k) _ _ _ _ _ _ _ _ _ _ _ _ _ _ _ hI hl hS)
/-! java/lang/Integer.numberOfLeadingZeros(I)I -/
def S_J6_numberOfLeadingZeros_0f7a4 (E : cx) (p1 : Int32) (f : hm) (K : Int32 → hm → Prop) : Prop := MI E.1 E.2.1 vwCl (eT E) yJ6_numberOfLeadingZeros_0f7a4 wsJ6_numberOfLeadingZeros_0f7a4 ({ frames := 0, cells := 0, slots := 0, locals := 0 }) [.int p1] f K
theorem mm_J6_numberOfLeadingZeros_0f7a4_0 : Cond.constant RJ6 264 (65536) ∈ wsJ6_numberOfLeadingZeros_0f7a4 := by decide +kernel
def X_J6_numberOfLeadingZeros_0f7a4_0 (E : cx) (p1 : Int32) (f : hm)  (K : Int32 → hm → Prop) : Prop :=
  ((0 < p1 → ((p1 < (65536 : Int32) → ((p1 < (256 : Int32) → ((p1 < (16 : Int32) → ((p1 < (4 : Int32) → K ((31 : Int32) - (j_iushr p1 (1 : Int32))) f) ∧ (¬ (p1 < (4 : Int32)) → (∀ x6 : Int32, x6 = (31 : Int32) + (-2) → (∀ x7 : Int32, x7 = (j_iushr p1 (2 : Int32)) → K (x6 - (j_iushr x7 (1 : Int32))) f))))) ∧ (¬ (p1 < (16 : Int32)) → (∀ x8 : Int32, x8 = (31 : Int32) + (-4) → (∀ x9 : Int32, x9 = (j_iushr p1 (4 : Int32)) → ((x9 < (4 : Int32) → K (x8 - (j_iushr x9 (1 : Int32))) f) ∧ (¬ (x9 < (4 : Int32)) → (∀ x11 : Int32, x11 = x8 + (-2) → (∀ x12 : Int32, x12 = (j_iushr x9 (2 : Int32)) → K (x11 - (j_iushr x12 (1 : Int32))) f))))))))) ∧ (¬ (p1 < (256 : Int32)) → (∀ x13 : Int32, x13 = (31 : Int32) + (-8) → (∀ x14 : Int32, x14 = (j_iushr p1 (8 : Int32)) → ((x14 < (16 : Int32) → ((x14 < (4 : Int32) → K (x13 - (j_iushr x14 (1 : Int32))) f) ∧ (¬ (x14 < (4 : Int32)) → (∀ x17 : Int32, x17 = x13 + (-2) → (∀ x18 : Int32, x18 = (j_iushr x14 (2 : Int32)) → K (x17 - (j_iushr x18 (1 : Int32))) f))))) ∧ (¬ (x14 < (16 : Int32)) → (∀ x19 : Int32, x19 = x13 + (-4) → (∀ x20 : Int32, x20 = (j_iushr x14 (4 : Int32)) → ((x20 < (4 : Int32) → K (x19 - (j_iushr x20 (1 : Int32))) f) ∧ (¬ (x20 < (4 : Int32)) → (∀ x22 : Int32, x22 = x19 + (-2) → (∀ x23 : Int32, x23 = (j_iushr x20 (2 : Int32)) → K (x22 - (j_iushr x23 (1 : Int32))) f))))))))))))) ∧ (¬ (p1 < (65536 : Int32)) → (∀ x24 : Int32, x24 = (31 : Int32) + (-16) → (∀ x25 : Int32, x25 = (j_iushr p1 (16 : Int32)) → ((x25 < (256 : Int32) → ((x25 < (16 : Int32) → ((x25 < (4 : Int32) → K (x24 - (j_iushr x25 (1 : Int32))) f) ∧ (¬ (x25 < (4 : Int32)) → (∀ x29 : Int32, x29 = x24 + (-2) → (∀ x30 : Int32, x30 = (j_iushr x25 (2 : Int32)) → K (x29 - (j_iushr x30 (1 : Int32))) f))))) ∧ (¬ (x25 < (16 : Int32)) → (∀ x31 : Int32, x31 = x24 + (-4) → (∀ x32 : Int32, x32 = (j_iushr x25 (4 : Int32)) → ((x32 < (4 : Int32) → K (x31 - (j_iushr x32 (1 : Int32))) f) ∧ (¬ (x32 < (4 : Int32)) → (∀ x34 : Int32, x34 = x31 + (-2) → (∀ x35 : Int32, x35 = (j_iushr x32 (2 : Int32)) → K (x34 - (j_iushr x35 (1 : Int32))) f))))))))) ∧ (¬ (x25 < (256 : Int32)) → (∀ x36 : Int32, x36 = x24 + (-8) → (∀ x37 : Int32, x37 = (j_iushr x25 (8 : Int32)) → ((x37 < (16 : Int32) → ((x37 < (4 : Int32) → K (x36 - (j_iushr x37 (1 : Int32))) f) ∧ (¬ (x37 < (4 : Int32)) → (∀ x40 : Int32, x40 = x36 + (-2) → (∀ x41 : Int32, x41 = (j_iushr x37 (2 : Int32)) → K (x40 - (j_iushr x41 (1 : Int32))) f))))) ∧ (¬ (x37 < (16 : Int32)) → (∀ x42 : Int32, x42 = x36 + (-4) → (∀ x43 : Int32, x43 = (j_iushr x37 (4 : Int32)) → ((x43 < (4 : Int32) → K (x42 - (j_iushr x43 (1 : Int32))) f) ∧ (¬ (x43 < (4 : Int32)) → (∀ x45 : Int32, x45 = x42 + (-2) → (∀ x46 : Int32, x46 = (j_iushr x43 (2 : Int32)) → K (x45 - (j_iushr x46 (1 : Int32))) f))))))))))))))))) ∧ (¬ (0 < p1) → ((¬ p1 = 0 → K (0 : Int32) f) ∧ (p1 = 0 → K (32 : Int32) f))))
set_option maxRecDepth 100000 in
set_option maxHeartbeats 4000000 in
theorem R_J6_numberOfLeadingZeros_0f7a4_0 {E : cx} {p : Program} {e : Env} {s : State} {m : MethodId} {below : List Frame} {meth : Method} {c : Code} {f0 : hm} {zp1 : Int32} (C : wB E.2.1 vwCl (eT E) yJ6_numberOfLeadingZeros_0f7a4 cJ6_numberOfLeadingZeros_0f7a4 2 (some .int) wsJ6_numberOfLeadingZeros_0f7a4 [.int zp1] f0 p s m meth c) (p1 : Int32) (f : hm)  {K : Int32 → hm → Prop} (hv : X_J6_numberOfLeadingZeros_0f7a4_0 E p1 f  K) {ls : Array Slot} {H : Heap} {locs : List Loc} (hl : lv_has ls 2 [(0, .int p1)]) (hS : wS E.2.1 vwCl (wA f0 s.heap.size) s.heap f H locs)  : W p E.1 e ({ frames := 0, cells := 0, slots := 0, locals := 0 }) s m ([.int zp1] : List Value).toArray below meth c H locs 0 0 (MQ below (wQi f0 E.2.1 vwCl K s) ([.int zp1] : List Value).toArray s 0 0 (wA f0 s.heap.size)) (F0 m 0 ls []) := by
  obtain ⟨hx, hb, hml, hown, hts, hr, hlk, hnm, hK, -⟩ := C
  unfold X_J6_numberOfLeadingZeros_0f7a4_0 at hv
  refine lv_iload_n hx hb dJ6_numberOfLeadingZeros_0f7a4_0 rfl (lv_at hl 0 rfl) ?_
  refine lv_if_gt (tgt := 15) hx hb dJ6_numberOfLeadingZeros_0f7a4_1 (by decide) (fun c1 => ?_) (fun c1 => ?_)
  · have hv := hv.1 c1
    refine lv_bipush (v := 31) hx hb dJ6_numberOfLeadingZeros_0f7a4_15 (by decide) ?_
    refine lv_istore_n (lv' := [(1, .int (31 : Int32)), (0, .int p1)]) hx hb dJ6_numberOfLeadingZeros_0f7a4_17 rfl hl (by decide) rfl (fun ls hl => ?_)
    refine lv_iload_n hx hb dJ6_numberOfLeadingZeros_0f7a4_18 rfl (lv_at hl 1 rfl) ?_
    refine lv_ldcw (v := (65536)) hx hb hown (hts _ mm_J6_numberOfLeadingZeros_0f7a4_0) dJ6_numberOfLeadingZeros_0f7a4_19 ?_
    refine lv_icmp_lt (tgt := 33) hx hb dJ6_numberOfLeadingZeros_0f7a4_22 (by decide) (fun c2 => ?_) (fun c2 => ?_)
    · have hv := hv.1 c2
      refine lv_iload_n hx hb dJ6_numberOfLeadingZeros_0f7a4_33 rfl (lv_at hl 1 rfl) ?_
      refine lv_sipush (v := 256) hx hb dJ6_numberOfLeadingZeros_0f7a4_34 (by decide) ?_
      refine lv_icmp_lt (tgt := 48) hx hb dJ6_numberOfLeadingZeros_0f7a4_37 (by decide) (fun c3 => ?_) (fun c3 => ?_)
      · have hv := hv.1 c3
        refine lv_iload_n hx hb dJ6_numberOfLeadingZeros_0f7a4_48 rfl (lv_at hl 1 rfl) ?_
        refine lv_bipush (v := 16) hx hb dJ6_numberOfLeadingZeros_0f7a4_49 (by decide) ?_
        refine lv_icmp_lt (tgt := 61) hx hb dJ6_numberOfLeadingZeros_0f7a4_51 (by decide) (fun c4 => ?_) (fun c4 => ?_)
        · have hv := hv.1 c4
          refine lv_iload_n hx hb dJ6_numberOfLeadingZeros_0f7a4_61 rfl (lv_at hl 1 rfl) ?_
          refine lv_iconst (v := 4) hx hb dJ6_numberOfLeadingZeros_0f7a4_62 (by decide) ?_
          refine lv_icmp_lt (tgt := 73) hx hb dJ6_numberOfLeadingZeros_0f7a4_63 (by decide) (fun c5 => ?_) (fun c5 => ?_)
          · have hv := hv.1 c5
            refine lv_iload_n hx hb dJ6_numberOfLeadingZeros_0f7a4_73 rfl (lv_at hl 0 rfl) ?_
            refine lv_iload_n hx hb dJ6_numberOfLeadingZeros_0f7a4_74 rfl (lv_at hl 1 rfl) ?_
            refine lv_iconst (v := 1) hx hb dJ6_numberOfLeadingZeros_0f7a4_75 (by decide) ?_
            refine lv_iushr (v := j_iushr p1 (1 : Int32)) hx hb dJ6_numberOfLeadingZeros_0f7a4_76 rfl ?_
            refine lv_isub hx hb dJ6_numberOfLeadingZeros_0f7a4_77 ?_
            exact fw_iret hx hb hr hlk hS hv dJ6_numberOfLeadingZeros_0f7a4_78
          · have hv := hv.2 c5
            obtain ⟨x6, ex6⟩ : ∃ y : Int32, y = (31 : Int32) + (-2) := ⟨_, rfl⟩
            have hv := hv x6 ex6
            refine lv_iinc (v := x6) (lv' := [(1, .int x6), (0, .int p1)]) hx hb dJ6_numberOfLeadingZeros_0f7a4_66 hl (k := 0) rfl (by rw [ex6]; rfl) (by decide) rfl (fun ls hl => ?_)
            refine lv_iload_n hx hb dJ6_numberOfLeadingZeros_0f7a4_69 rfl (lv_at hl 1 rfl) ?_
            refine lv_iconst (v := 2) hx hb dJ6_numberOfLeadingZeros_0f7a4_70 (by decide) ?_
            refine lv_iushr (v := j_iushr p1 (2 : Int32)) hx hb dJ6_numberOfLeadingZeros_0f7a4_71 rfl ?_
            refine lv_topi (fun x7 ex7 => ?_)
            have hv := hv x7 ex7
            refine lv_istore_n (lv' := [(0, .int x7), (1, .int x6)]) hx hb dJ6_numberOfLeadingZeros_0f7a4_72 rfl hl (by decide) rfl (fun ls hl => ?_)
            refine lv_iload_n hx hb dJ6_numberOfLeadingZeros_0f7a4_73 rfl (lv_at hl 1 rfl) ?_
            refine lv_iload_n hx hb dJ6_numberOfLeadingZeros_0f7a4_74 rfl (lv_at hl 0 rfl) ?_
            refine lv_iconst (v := 1) hx hb dJ6_numberOfLeadingZeros_0f7a4_75 (by decide) ?_
            refine lv_iushr (v := j_iushr x7 (1 : Int32)) hx hb dJ6_numberOfLeadingZeros_0f7a4_76 rfl ?_
            refine lv_isub hx hb dJ6_numberOfLeadingZeros_0f7a4_77 ?_
            exact fw_iret hx hb hr hlk hS hv dJ6_numberOfLeadingZeros_0f7a4_78
        · have hv := hv.2 c4
          obtain ⟨x8, ex8⟩ : ∃ y : Int32, y = (31 : Int32) + (-4) := ⟨_, rfl⟩
          have hv := hv x8 ex8
          refine lv_iinc (v := x8) (lv' := [(1, .int x8), (0, .int p1)]) hx hb dJ6_numberOfLeadingZeros_0f7a4_54 hl (k := 0) rfl (by rw [ex8]; rfl) (by decide) rfl (fun ls hl => ?_)
          refine lv_iload_n hx hb dJ6_numberOfLeadingZeros_0f7a4_57 rfl (lv_at hl 1 rfl) ?_
          refine lv_iconst (v := 4) hx hb dJ6_numberOfLeadingZeros_0f7a4_58 (by decide) ?_
          refine lv_iushr (v := j_iushr p1 (4 : Int32)) hx hb dJ6_numberOfLeadingZeros_0f7a4_59 rfl ?_
          refine lv_topi (fun x9 ex9 => ?_)
          have hv := hv x9 ex9
          refine lv_istore_n (lv' := [(0, .int x9), (1, .int x8)]) hx hb dJ6_numberOfLeadingZeros_0f7a4_60 rfl hl (by decide) rfl (fun ls hl => ?_)
          refine lv_iload_n hx hb dJ6_numberOfLeadingZeros_0f7a4_61 rfl (lv_at hl 0 rfl) ?_
          refine lv_iconst (v := 4) hx hb dJ6_numberOfLeadingZeros_0f7a4_62 (by decide) ?_
          refine lv_icmp_lt (tgt := 73) hx hb dJ6_numberOfLeadingZeros_0f7a4_63 (by decide) (fun c10 => ?_) (fun c10 => ?_)
          · have hv := hv.1 c10
            refine lv_iload_n hx hb dJ6_numberOfLeadingZeros_0f7a4_73 rfl (lv_at hl 1 rfl) ?_
            refine lv_iload_n hx hb dJ6_numberOfLeadingZeros_0f7a4_74 rfl (lv_at hl 0 rfl) ?_
            refine lv_iconst (v := 1) hx hb dJ6_numberOfLeadingZeros_0f7a4_75 (by decide) ?_
            refine lv_iushr (v := j_iushr x9 (1 : Int32)) hx hb dJ6_numberOfLeadingZeros_0f7a4_76 rfl ?_
            refine lv_isub hx hb dJ6_numberOfLeadingZeros_0f7a4_77 ?_
            exact fw_iret hx hb hr hlk hS hv dJ6_numberOfLeadingZeros_0f7a4_78
          · have hv := hv.2 c10
            obtain ⟨x11, ex11⟩ : ∃ y : Int32, y = x8 + (-2) := ⟨_, rfl⟩
            have hv := hv x11 ex11
            refine lv_iinc (v := x11) (lv' := [(1, .int x11), (0, .int x9)]) hx hb dJ6_numberOfLeadingZeros_0f7a4_66 hl (k := 1) rfl (by rw [ex11]; rfl) (by decide) rfl (fun ls hl => ?_)
            refine lv_iload_n hx hb dJ6_numberOfLeadingZeros_0f7a4_69 rfl (lv_at hl 1 rfl) ?_
            refine lv_iconst (v := 2) hx hb dJ6_numberOfLeadingZeros_0f7a4_70 (by decide) ?_
            refine lv_iushr (v := j_iushr x9 (2 : Int32)) hx hb dJ6_numberOfLeadingZeros_0f7a4_71 rfl ?_
            refine lv_topi (fun x12 ex12 => ?_)
            have hv := hv x12 ex12
            refine lv_istore_n (lv' := [(0, .int x12), (1, .int x11)]) hx hb dJ6_numberOfLeadingZeros_0f7a4_72 rfl hl (by decide) rfl (fun ls hl => ?_)
            refine lv_iload_n hx hb dJ6_numberOfLeadingZeros_0f7a4_73 rfl (lv_at hl 1 rfl) ?_
            refine lv_iload_n hx hb dJ6_numberOfLeadingZeros_0f7a4_74 rfl (lv_at hl 0 rfl) ?_
            refine lv_iconst (v := 1) hx hb dJ6_numberOfLeadingZeros_0f7a4_75 (by decide) ?_
            refine lv_iushr (v := j_iushr x12 (1 : Int32)) hx hb dJ6_numberOfLeadingZeros_0f7a4_76 rfl ?_
            refine lv_isub hx hb dJ6_numberOfLeadingZeros_0f7a4_77 ?_
            exact fw_iret hx hb hr hlk hS hv dJ6_numberOfLeadingZeros_0f7a4_78
      · have hv := hv.2 c3
        obtain ⟨x13, ex13⟩ : ∃ y : Int32, y = (31 : Int32) + (-8) := ⟨_, rfl⟩
        have hv := hv x13 ex13
        refine lv_iinc (v := x13) (lv' := [(1, .int x13), (0, .int p1)]) hx hb dJ6_numberOfLeadingZeros_0f7a4_40 hl (k := 0) rfl (by rw [ex13]; rfl) (by decide) rfl (fun ls hl => ?_)
        refine lv_iload_n hx hb dJ6_numberOfLeadingZeros_0f7a4_43 rfl (lv_at hl 1 rfl) ?_
        refine lv_bipush (v := 8) hx hb dJ6_numberOfLeadingZeros_0f7a4_44 (by decide) ?_
        refine lv_iushr (v := j_iushr p1 (8 : Int32)) hx hb dJ6_numberOfLeadingZeros_0f7a4_46 rfl ?_
        refine lv_topi (fun x14 ex14 => ?_)
        have hv := hv x14 ex14
        refine lv_istore_n (lv' := [(0, .int x14), (1, .int x13)]) hx hb dJ6_numberOfLeadingZeros_0f7a4_47 rfl hl (by decide) rfl (fun ls hl => ?_)
        refine lv_iload_n hx hb dJ6_numberOfLeadingZeros_0f7a4_48 rfl (lv_at hl 0 rfl) ?_
        refine lv_bipush (v := 16) hx hb dJ6_numberOfLeadingZeros_0f7a4_49 (by decide) ?_
        refine lv_icmp_lt (tgt := 61) hx hb dJ6_numberOfLeadingZeros_0f7a4_51 (by decide) (fun c15 => ?_) (fun c15 => ?_)
        · have hv := hv.1 c15
          refine lv_iload_n hx hb dJ6_numberOfLeadingZeros_0f7a4_61 rfl (lv_at hl 0 rfl) ?_
          refine lv_iconst (v := 4) hx hb dJ6_numberOfLeadingZeros_0f7a4_62 (by decide) ?_
          refine lv_icmp_lt (tgt := 73) hx hb dJ6_numberOfLeadingZeros_0f7a4_63 (by decide) (fun c16 => ?_) (fun c16 => ?_)
          · have hv := hv.1 c16
            refine lv_iload_n hx hb dJ6_numberOfLeadingZeros_0f7a4_73 rfl (lv_at hl 1 rfl) ?_
            refine lv_iload_n hx hb dJ6_numberOfLeadingZeros_0f7a4_74 rfl (lv_at hl 0 rfl) ?_
            refine lv_iconst (v := 1) hx hb dJ6_numberOfLeadingZeros_0f7a4_75 (by decide) ?_
            refine lv_iushr (v := j_iushr x14 (1 : Int32)) hx hb dJ6_numberOfLeadingZeros_0f7a4_76 rfl ?_
            refine lv_isub hx hb dJ6_numberOfLeadingZeros_0f7a4_77 ?_
            exact fw_iret hx hb hr hlk hS hv dJ6_numberOfLeadingZeros_0f7a4_78
          · have hv := hv.2 c16
            obtain ⟨x17, ex17⟩ : ∃ y : Int32, y = x13 + (-2) := ⟨_, rfl⟩
            have hv := hv x17 ex17
            refine lv_iinc (v := x17) (lv' := [(1, .int x17), (0, .int x14)]) hx hb dJ6_numberOfLeadingZeros_0f7a4_66 hl (k := 1) rfl (by rw [ex17]; rfl) (by decide) rfl (fun ls hl => ?_)
            refine lv_iload_n hx hb dJ6_numberOfLeadingZeros_0f7a4_69 rfl (lv_at hl 1 rfl) ?_
            refine lv_iconst (v := 2) hx hb dJ6_numberOfLeadingZeros_0f7a4_70 (by decide) ?_
            refine lv_iushr (v := j_iushr x14 (2 : Int32)) hx hb dJ6_numberOfLeadingZeros_0f7a4_71 rfl ?_
            refine lv_topi (fun x18 ex18 => ?_)
            have hv := hv x18 ex18
            refine lv_istore_n (lv' := [(0, .int x18), (1, .int x17)]) hx hb dJ6_numberOfLeadingZeros_0f7a4_72 rfl hl (by decide) rfl (fun ls hl => ?_)
            refine lv_iload_n hx hb dJ6_numberOfLeadingZeros_0f7a4_73 rfl (lv_at hl 1 rfl) ?_
            refine lv_iload_n hx hb dJ6_numberOfLeadingZeros_0f7a4_74 rfl (lv_at hl 0 rfl) ?_
            refine lv_iconst (v := 1) hx hb dJ6_numberOfLeadingZeros_0f7a4_75 (by decide) ?_
            refine lv_iushr (v := j_iushr x18 (1 : Int32)) hx hb dJ6_numberOfLeadingZeros_0f7a4_76 rfl ?_
            refine lv_isub hx hb dJ6_numberOfLeadingZeros_0f7a4_77 ?_
            exact fw_iret hx hb hr hlk hS hv dJ6_numberOfLeadingZeros_0f7a4_78
        · have hv := hv.2 c15
          obtain ⟨x19, ex19⟩ : ∃ y : Int32, y = x13 + (-4) := ⟨_, rfl⟩
          have hv := hv x19 ex19
          refine lv_iinc (v := x19) (lv' := [(1, .int x19), (0, .int x14)]) hx hb dJ6_numberOfLeadingZeros_0f7a4_54 hl (k := 1) rfl (by rw [ex19]; rfl) (by decide) rfl (fun ls hl => ?_)
          refine lv_iload_n hx hb dJ6_numberOfLeadingZeros_0f7a4_57 rfl (lv_at hl 1 rfl) ?_
          refine lv_iconst (v := 4) hx hb dJ6_numberOfLeadingZeros_0f7a4_58 (by decide) ?_
          refine lv_iushr (v := j_iushr x14 (4 : Int32)) hx hb dJ6_numberOfLeadingZeros_0f7a4_59 rfl ?_
          refine lv_topi (fun x20 ex20 => ?_)
          have hv := hv x20 ex20
          refine lv_istore_n (lv' := [(0, .int x20), (1, .int x19)]) hx hb dJ6_numberOfLeadingZeros_0f7a4_60 rfl hl (by decide) rfl (fun ls hl => ?_)
          refine lv_iload_n hx hb dJ6_numberOfLeadingZeros_0f7a4_61 rfl (lv_at hl 0 rfl) ?_
          refine lv_iconst (v := 4) hx hb dJ6_numberOfLeadingZeros_0f7a4_62 (by decide) ?_
          refine lv_icmp_lt (tgt := 73) hx hb dJ6_numberOfLeadingZeros_0f7a4_63 (by decide) (fun c21 => ?_) (fun c21 => ?_)
          · have hv := hv.1 c21
            refine lv_iload_n hx hb dJ6_numberOfLeadingZeros_0f7a4_73 rfl (lv_at hl 1 rfl) ?_
            refine lv_iload_n hx hb dJ6_numberOfLeadingZeros_0f7a4_74 rfl (lv_at hl 0 rfl) ?_
            refine lv_iconst (v := 1) hx hb dJ6_numberOfLeadingZeros_0f7a4_75 (by decide) ?_
            refine lv_iushr (v := j_iushr x20 (1 : Int32)) hx hb dJ6_numberOfLeadingZeros_0f7a4_76 rfl ?_
            refine lv_isub hx hb dJ6_numberOfLeadingZeros_0f7a4_77 ?_
            exact fw_iret hx hb hr hlk hS hv dJ6_numberOfLeadingZeros_0f7a4_78
          · have hv := hv.2 c21
            obtain ⟨x22, ex22⟩ : ∃ y : Int32, y = x19 + (-2) := ⟨_, rfl⟩
            have hv := hv x22 ex22
            refine lv_iinc (v := x22) (lv' := [(1, .int x22), (0, .int x20)]) hx hb dJ6_numberOfLeadingZeros_0f7a4_66 hl (k := 1) rfl (by rw [ex22]; rfl) (by decide) rfl (fun ls hl => ?_)
            refine lv_iload_n hx hb dJ6_numberOfLeadingZeros_0f7a4_69 rfl (lv_at hl 1 rfl) ?_
            refine lv_iconst (v := 2) hx hb dJ6_numberOfLeadingZeros_0f7a4_70 (by decide) ?_
            refine lv_iushr (v := j_iushr x20 (2 : Int32)) hx hb dJ6_numberOfLeadingZeros_0f7a4_71 rfl ?_
            refine lv_topi (fun x23 ex23 => ?_)
            have hv := hv x23 ex23
            refine lv_istore_n (lv' := [(0, .int x23), (1, .int x22)]) hx hb dJ6_numberOfLeadingZeros_0f7a4_72 rfl hl (by decide) rfl (fun ls hl => ?_)
            refine lv_iload_n hx hb dJ6_numberOfLeadingZeros_0f7a4_73 rfl (lv_at hl 1 rfl) ?_
            refine lv_iload_n hx hb dJ6_numberOfLeadingZeros_0f7a4_74 rfl (lv_at hl 0 rfl) ?_
            refine lv_iconst (v := 1) hx hb dJ6_numberOfLeadingZeros_0f7a4_75 (by decide) ?_
            refine lv_iushr (v := j_iushr x23 (1 : Int32)) hx hb dJ6_numberOfLeadingZeros_0f7a4_76 rfl ?_
            refine lv_isub hx hb dJ6_numberOfLeadingZeros_0f7a4_77 ?_
            exact fw_iret hx hb hr hlk hS hv dJ6_numberOfLeadingZeros_0f7a4_78
    · have hv := hv.2 c2
      obtain ⟨x24, ex24⟩ : ∃ y : Int32, y = (31 : Int32) + (-16) := ⟨_, rfl⟩
      have hv := hv x24 ex24
      refine lv_iinc (v := x24) (lv' := [(1, .int x24), (0, .int p1)]) hx hb dJ6_numberOfLeadingZeros_0f7a4_25 hl (k := 0) rfl (by rw [ex24]; rfl) (by decide) rfl (fun ls hl => ?_)
      refine lv_iload_n hx hb dJ6_numberOfLeadingZeros_0f7a4_28 rfl (lv_at hl 1 rfl) ?_
      refine lv_bipush (v := 16) hx hb dJ6_numberOfLeadingZeros_0f7a4_29 (by decide) ?_
      refine lv_iushr (v := j_iushr p1 (16 : Int32)) hx hb dJ6_numberOfLeadingZeros_0f7a4_31 rfl ?_
      refine lv_topi (fun x25 ex25 => ?_)
      have hv := hv x25 ex25
      refine lv_istore_n (lv' := [(0, .int x25), (1, .int x24)]) hx hb dJ6_numberOfLeadingZeros_0f7a4_32 rfl hl (by decide) rfl (fun ls hl => ?_)
      refine lv_iload_n hx hb dJ6_numberOfLeadingZeros_0f7a4_33 rfl (lv_at hl 0 rfl) ?_
      refine lv_sipush (v := 256) hx hb dJ6_numberOfLeadingZeros_0f7a4_34 (by decide) ?_
      refine lv_icmp_lt (tgt := 48) hx hb dJ6_numberOfLeadingZeros_0f7a4_37 (by decide) (fun c26 => ?_) (fun c26 => ?_)
      · have hv := hv.1 c26
        refine lv_iload_n hx hb dJ6_numberOfLeadingZeros_0f7a4_48 rfl (lv_at hl 0 rfl) ?_
        refine lv_bipush (v := 16) hx hb dJ6_numberOfLeadingZeros_0f7a4_49 (by decide) ?_
        refine lv_icmp_lt (tgt := 61) hx hb dJ6_numberOfLeadingZeros_0f7a4_51 (by decide) (fun c27 => ?_) (fun c27 => ?_)
        · have hv := hv.1 c27
          refine lv_iload_n hx hb dJ6_numberOfLeadingZeros_0f7a4_61 rfl (lv_at hl 0 rfl) ?_
          refine lv_iconst (v := 4) hx hb dJ6_numberOfLeadingZeros_0f7a4_62 (by decide) ?_
          refine lv_icmp_lt (tgt := 73) hx hb dJ6_numberOfLeadingZeros_0f7a4_63 (by decide) (fun c28 => ?_) (fun c28 => ?_)
          · have hv := hv.1 c28
            refine lv_iload_n hx hb dJ6_numberOfLeadingZeros_0f7a4_73 rfl (lv_at hl 1 rfl) ?_
            refine lv_iload_n hx hb dJ6_numberOfLeadingZeros_0f7a4_74 rfl (lv_at hl 0 rfl) ?_
            refine lv_iconst (v := 1) hx hb dJ6_numberOfLeadingZeros_0f7a4_75 (by decide) ?_
            refine lv_iushr (v := j_iushr x25 (1 : Int32)) hx hb dJ6_numberOfLeadingZeros_0f7a4_76 rfl ?_
            refine lv_isub hx hb dJ6_numberOfLeadingZeros_0f7a4_77 ?_
            exact fw_iret hx hb hr hlk hS hv dJ6_numberOfLeadingZeros_0f7a4_78
          · have hv := hv.2 c28
            obtain ⟨x29, ex29⟩ : ∃ y : Int32, y = x24 + (-2) := ⟨_, rfl⟩
            have hv := hv x29 ex29
            refine lv_iinc (v := x29) (lv' := [(1, .int x29), (0, .int x25)]) hx hb dJ6_numberOfLeadingZeros_0f7a4_66 hl (k := 1) rfl (by rw [ex29]; rfl) (by decide) rfl (fun ls hl => ?_)
            refine lv_iload_n hx hb dJ6_numberOfLeadingZeros_0f7a4_69 rfl (lv_at hl 1 rfl) ?_
            refine lv_iconst (v := 2) hx hb dJ6_numberOfLeadingZeros_0f7a4_70 (by decide) ?_
            refine lv_iushr (v := j_iushr x25 (2 : Int32)) hx hb dJ6_numberOfLeadingZeros_0f7a4_71 rfl ?_
            refine lv_topi (fun x30 ex30 => ?_)
            have hv := hv x30 ex30
            refine lv_istore_n (lv' := [(0, .int x30), (1, .int x29)]) hx hb dJ6_numberOfLeadingZeros_0f7a4_72 rfl hl (by decide) rfl (fun ls hl => ?_)
            refine lv_iload_n hx hb dJ6_numberOfLeadingZeros_0f7a4_73 rfl (lv_at hl 1 rfl) ?_
            refine lv_iload_n hx hb dJ6_numberOfLeadingZeros_0f7a4_74 rfl (lv_at hl 0 rfl) ?_
            refine lv_iconst (v := 1) hx hb dJ6_numberOfLeadingZeros_0f7a4_75 (by decide) ?_
            refine lv_iushr (v := j_iushr x30 (1 : Int32)) hx hb dJ6_numberOfLeadingZeros_0f7a4_76 rfl ?_
            refine lv_isub hx hb dJ6_numberOfLeadingZeros_0f7a4_77 ?_
            exact fw_iret hx hb hr hlk hS hv dJ6_numberOfLeadingZeros_0f7a4_78
        · have hv := hv.2 c27
          obtain ⟨x31, ex31⟩ : ∃ y : Int32, y = x24 + (-4) := ⟨_, rfl⟩
          have hv := hv x31 ex31
          refine lv_iinc (v := x31) (lv' := [(1, .int x31), (0, .int x25)]) hx hb dJ6_numberOfLeadingZeros_0f7a4_54 hl (k := 1) rfl (by rw [ex31]; rfl) (by decide) rfl (fun ls hl => ?_)
          refine lv_iload_n hx hb dJ6_numberOfLeadingZeros_0f7a4_57 rfl (lv_at hl 1 rfl) ?_
          refine lv_iconst (v := 4) hx hb dJ6_numberOfLeadingZeros_0f7a4_58 (by decide) ?_
          refine lv_iushr (v := j_iushr x25 (4 : Int32)) hx hb dJ6_numberOfLeadingZeros_0f7a4_59 rfl ?_
          refine lv_topi (fun x32 ex32 => ?_)
          have hv := hv x32 ex32
          refine lv_istore_n (lv' := [(0, .int x32), (1, .int x31)]) hx hb dJ6_numberOfLeadingZeros_0f7a4_60 rfl hl (by decide) rfl (fun ls hl => ?_)
          refine lv_iload_n hx hb dJ6_numberOfLeadingZeros_0f7a4_61 rfl (lv_at hl 0 rfl) ?_
          refine lv_iconst (v := 4) hx hb dJ6_numberOfLeadingZeros_0f7a4_62 (by decide) ?_
          refine lv_icmp_lt (tgt := 73) hx hb dJ6_numberOfLeadingZeros_0f7a4_63 (by decide) (fun c33 => ?_) (fun c33 => ?_)
          · have hv := hv.1 c33
            refine lv_iload_n hx hb dJ6_numberOfLeadingZeros_0f7a4_73 rfl (lv_at hl 1 rfl) ?_
            refine lv_iload_n hx hb dJ6_numberOfLeadingZeros_0f7a4_74 rfl (lv_at hl 0 rfl) ?_
            refine lv_iconst (v := 1) hx hb dJ6_numberOfLeadingZeros_0f7a4_75 (by decide) ?_
            refine lv_iushr (v := j_iushr x32 (1 : Int32)) hx hb dJ6_numberOfLeadingZeros_0f7a4_76 rfl ?_
            refine lv_isub hx hb dJ6_numberOfLeadingZeros_0f7a4_77 ?_
            exact fw_iret hx hb hr hlk hS hv dJ6_numberOfLeadingZeros_0f7a4_78
          · have hv := hv.2 c33
            obtain ⟨x34, ex34⟩ : ∃ y : Int32, y = x31 + (-2) := ⟨_, rfl⟩
            have hv := hv x34 ex34
            refine lv_iinc (v := x34) (lv' := [(1, .int x34), (0, .int x32)]) hx hb dJ6_numberOfLeadingZeros_0f7a4_66 hl (k := 1) rfl (by rw [ex34]; rfl) (by decide) rfl (fun ls hl => ?_)
            refine lv_iload_n hx hb dJ6_numberOfLeadingZeros_0f7a4_69 rfl (lv_at hl 1 rfl) ?_
            refine lv_iconst (v := 2) hx hb dJ6_numberOfLeadingZeros_0f7a4_70 (by decide) ?_
            refine lv_iushr (v := j_iushr x32 (2 : Int32)) hx hb dJ6_numberOfLeadingZeros_0f7a4_71 rfl ?_
            refine lv_topi (fun x35 ex35 => ?_)
            have hv := hv x35 ex35
            refine lv_istore_n (lv' := [(0, .int x35), (1, .int x34)]) hx hb dJ6_numberOfLeadingZeros_0f7a4_72 rfl hl (by decide) rfl (fun ls hl => ?_)
            refine lv_iload_n hx hb dJ6_numberOfLeadingZeros_0f7a4_73 rfl (lv_at hl 1 rfl) ?_
            refine lv_iload_n hx hb dJ6_numberOfLeadingZeros_0f7a4_74 rfl (lv_at hl 0 rfl) ?_
            refine lv_iconst (v := 1) hx hb dJ6_numberOfLeadingZeros_0f7a4_75 (by decide) ?_
            refine lv_iushr (v := j_iushr x35 (1 : Int32)) hx hb dJ6_numberOfLeadingZeros_0f7a4_76 rfl ?_
            refine lv_isub hx hb dJ6_numberOfLeadingZeros_0f7a4_77 ?_
            exact fw_iret hx hb hr hlk hS hv dJ6_numberOfLeadingZeros_0f7a4_78
      · have hv := hv.2 c26
        obtain ⟨x36, ex36⟩ : ∃ y : Int32, y = x24 + (-8) := ⟨_, rfl⟩
        have hv := hv x36 ex36
        refine lv_iinc (v := x36) (lv' := [(1, .int x36), (0, .int x25)]) hx hb dJ6_numberOfLeadingZeros_0f7a4_40 hl (k := 1) rfl (by rw [ex36]; rfl) (by decide) rfl (fun ls hl => ?_)
        refine lv_iload_n hx hb dJ6_numberOfLeadingZeros_0f7a4_43 rfl (lv_at hl 1 rfl) ?_
        refine lv_bipush (v := 8) hx hb dJ6_numberOfLeadingZeros_0f7a4_44 (by decide) ?_
        refine lv_iushr (v := j_iushr x25 (8 : Int32)) hx hb dJ6_numberOfLeadingZeros_0f7a4_46 rfl ?_
        refine lv_topi (fun x37 ex37 => ?_)
        have hv := hv x37 ex37
        refine lv_istore_n (lv' := [(0, .int x37), (1, .int x36)]) hx hb dJ6_numberOfLeadingZeros_0f7a4_47 rfl hl (by decide) rfl (fun ls hl => ?_)
        refine lv_iload_n hx hb dJ6_numberOfLeadingZeros_0f7a4_48 rfl (lv_at hl 0 rfl) ?_
        refine lv_bipush (v := 16) hx hb dJ6_numberOfLeadingZeros_0f7a4_49 (by decide) ?_
        refine lv_icmp_lt (tgt := 61) hx hb dJ6_numberOfLeadingZeros_0f7a4_51 (by decide) (fun c38 => ?_) (fun c38 => ?_)
        · have hv := hv.1 c38
          refine lv_iload_n hx hb dJ6_numberOfLeadingZeros_0f7a4_61 rfl (lv_at hl 0 rfl) ?_
          refine lv_iconst (v := 4) hx hb dJ6_numberOfLeadingZeros_0f7a4_62 (by decide) ?_
          refine lv_icmp_lt (tgt := 73) hx hb dJ6_numberOfLeadingZeros_0f7a4_63 (by decide) (fun c39 => ?_) (fun c39 => ?_)
          · have hv := hv.1 c39
            refine lv_iload_n hx hb dJ6_numberOfLeadingZeros_0f7a4_73 rfl (lv_at hl 1 rfl) ?_
            refine lv_iload_n hx hb dJ6_numberOfLeadingZeros_0f7a4_74 rfl (lv_at hl 0 rfl) ?_
            refine lv_iconst (v := 1) hx hb dJ6_numberOfLeadingZeros_0f7a4_75 (by decide) ?_
            refine lv_iushr (v := j_iushr x37 (1 : Int32)) hx hb dJ6_numberOfLeadingZeros_0f7a4_76 rfl ?_
            refine lv_isub hx hb dJ6_numberOfLeadingZeros_0f7a4_77 ?_
            exact fw_iret hx hb hr hlk hS hv dJ6_numberOfLeadingZeros_0f7a4_78
          · have hv := hv.2 c39
            obtain ⟨x40, ex40⟩ : ∃ y : Int32, y = x36 + (-2) := ⟨_, rfl⟩
            have hv := hv x40 ex40
            refine lv_iinc (v := x40) (lv' := [(1, .int x40), (0, .int x37)]) hx hb dJ6_numberOfLeadingZeros_0f7a4_66 hl (k := 1) rfl (by rw [ex40]; rfl) (by decide) rfl (fun ls hl => ?_)
            refine lv_iload_n hx hb dJ6_numberOfLeadingZeros_0f7a4_69 rfl (lv_at hl 1 rfl) ?_
            refine lv_iconst (v := 2) hx hb dJ6_numberOfLeadingZeros_0f7a4_70 (by decide) ?_
            refine lv_iushr (v := j_iushr x37 (2 : Int32)) hx hb dJ6_numberOfLeadingZeros_0f7a4_71 rfl ?_
            refine lv_topi (fun x41 ex41 => ?_)
            have hv := hv x41 ex41
            refine lv_istore_n (lv' := [(0, .int x41), (1, .int x40)]) hx hb dJ6_numberOfLeadingZeros_0f7a4_72 rfl hl (by decide) rfl (fun ls hl => ?_)
            refine lv_iload_n hx hb dJ6_numberOfLeadingZeros_0f7a4_73 rfl (lv_at hl 1 rfl) ?_
            refine lv_iload_n hx hb dJ6_numberOfLeadingZeros_0f7a4_74 rfl (lv_at hl 0 rfl) ?_
            refine lv_iconst (v := 1) hx hb dJ6_numberOfLeadingZeros_0f7a4_75 (by decide) ?_
            refine lv_iushr (v := j_iushr x41 (1 : Int32)) hx hb dJ6_numberOfLeadingZeros_0f7a4_76 rfl ?_
            refine lv_isub hx hb dJ6_numberOfLeadingZeros_0f7a4_77 ?_
            exact fw_iret hx hb hr hlk hS hv dJ6_numberOfLeadingZeros_0f7a4_78
        · have hv := hv.2 c38
          obtain ⟨x42, ex42⟩ : ∃ y : Int32, y = x36 + (-4) := ⟨_, rfl⟩
          have hv := hv x42 ex42
          refine lv_iinc (v := x42) (lv' := [(1, .int x42), (0, .int x37)]) hx hb dJ6_numberOfLeadingZeros_0f7a4_54 hl (k := 1) rfl (by rw [ex42]; rfl) (by decide) rfl (fun ls hl => ?_)
          refine lv_iload_n hx hb dJ6_numberOfLeadingZeros_0f7a4_57 rfl (lv_at hl 1 rfl) ?_
          refine lv_iconst (v := 4) hx hb dJ6_numberOfLeadingZeros_0f7a4_58 (by decide) ?_
          refine lv_iushr (v := j_iushr x37 (4 : Int32)) hx hb dJ6_numberOfLeadingZeros_0f7a4_59 rfl ?_
          refine lv_topi (fun x43 ex43 => ?_)
          have hv := hv x43 ex43
          refine lv_istore_n (lv' := [(0, .int x43), (1, .int x42)]) hx hb dJ6_numberOfLeadingZeros_0f7a4_60 rfl hl (by decide) rfl (fun ls hl => ?_)
          refine lv_iload_n hx hb dJ6_numberOfLeadingZeros_0f7a4_61 rfl (lv_at hl 0 rfl) ?_
          refine lv_iconst (v := 4) hx hb dJ6_numberOfLeadingZeros_0f7a4_62 (by decide) ?_
          refine lv_icmp_lt (tgt := 73) hx hb dJ6_numberOfLeadingZeros_0f7a4_63 (by decide) (fun c44 => ?_) (fun c44 => ?_)
          · have hv := hv.1 c44
            refine lv_iload_n hx hb dJ6_numberOfLeadingZeros_0f7a4_73 rfl (lv_at hl 1 rfl) ?_
            refine lv_iload_n hx hb dJ6_numberOfLeadingZeros_0f7a4_74 rfl (lv_at hl 0 rfl) ?_
            refine lv_iconst (v := 1) hx hb dJ6_numberOfLeadingZeros_0f7a4_75 (by decide) ?_
            refine lv_iushr (v := j_iushr x43 (1 : Int32)) hx hb dJ6_numberOfLeadingZeros_0f7a4_76 rfl ?_
            refine lv_isub hx hb dJ6_numberOfLeadingZeros_0f7a4_77 ?_
            exact fw_iret hx hb hr hlk hS hv dJ6_numberOfLeadingZeros_0f7a4_78
          · have hv := hv.2 c44
            obtain ⟨x45, ex45⟩ : ∃ y : Int32, y = x42 + (-2) := ⟨_, rfl⟩
            have hv := hv x45 ex45
            refine lv_iinc (v := x45) (lv' := [(1, .int x45), (0, .int x43)]) hx hb dJ6_numberOfLeadingZeros_0f7a4_66 hl (k := 1) rfl (by rw [ex45]; rfl) (by decide) rfl (fun ls hl => ?_)
            refine lv_iload_n hx hb dJ6_numberOfLeadingZeros_0f7a4_69 rfl (lv_at hl 1 rfl) ?_
            refine lv_iconst (v := 2) hx hb dJ6_numberOfLeadingZeros_0f7a4_70 (by decide) ?_
            refine lv_iushr (v := j_iushr x43 (2 : Int32)) hx hb dJ6_numberOfLeadingZeros_0f7a4_71 rfl ?_
            refine lv_topi (fun x46 ex46 => ?_)
            have hv := hv x46 ex46
            refine lv_istore_n (lv' := [(0, .int x46), (1, .int x45)]) hx hb dJ6_numberOfLeadingZeros_0f7a4_72 rfl hl (by decide) rfl (fun ls hl => ?_)
            refine lv_iload_n hx hb dJ6_numberOfLeadingZeros_0f7a4_73 rfl (lv_at hl 1 rfl) ?_
            refine lv_iload_n hx hb dJ6_numberOfLeadingZeros_0f7a4_74 rfl (lv_at hl 0 rfl) ?_
            refine lv_iconst (v := 1) hx hb dJ6_numberOfLeadingZeros_0f7a4_75 (by decide) ?_
            refine lv_iushr (v := j_iushr x46 (1 : Int32)) hx hb dJ6_numberOfLeadingZeros_0f7a4_76 rfl ?_
            refine lv_isub hx hb dJ6_numberOfLeadingZeros_0f7a4_77 ?_
            exact fw_iret hx hb hr hlk hS hv dJ6_numberOfLeadingZeros_0f7a4_78
  · have hv := hv.2 c1
    refine lv_iload_n hx hb dJ6_numberOfLeadingZeros_0f7a4_4 rfl (lv_at hl 0 rfl) ?_
    refine lv_if_ne (tgt := 13) hx hb dJ6_numberOfLeadingZeros_0f7a4_5 (by decide) (fun c47 => ?_) (fun c47 => ?_)
    · have hv := hv.1 c47
      refine lv_iconst (v := 0) hx hb dJ6_numberOfLeadingZeros_0f7a4_13 (by decide) ?_
      exact fw_iret hx hb hr hlk hS hv dJ6_numberOfLeadingZeros_0f7a4_14
    · have hv := hv.2 c47
      refine lv_bipush (v := 32) hx hb dJ6_numberOfLeadingZeros_0f7a4_8 (by decide) ?_
      refine lv_goto (tgt := 14) hx hb dJ6_numberOfLeadingZeros_0f7a4_10 (by decide) ?_
      exact fw_iret hx hb hr hlk hS hv dJ6_numberOfLeadingZeros_0f7a4_14
set_option maxRecDepth 100000 in
set_option maxHeartbeats 4000000 in
theorem T_J6_numberOfLeadingZeros_0f7a4 {E : cx} {p1 : Int32} {f : hm} {K : Int32 → hm → Prop}  (h0 : X_J6_numberOfLeadingZeros_0f7a4_0 E p1 f  K) : S_J6_numberOfLeadingZeros_0f7a4 E p1 f K := by
  refine MI_of (cc := cJ6_numberOfLeadingZeros_0f7a4) (maxL := 2) (ret := (some .int)) (by decide) rfl ?_
  intro p e s m below meth c C
  have hl := lv_entry ([.int p1]) (n := 2) (Nat.le_of_ble_eq_true rfl)
  rw [lg_entry_eq]
  generalize (lg_sl ([.int p1]) ++ List.replicate (2 - (lg_sl ([.int p1])).length) Slot.unset).toArray = ls at hl ⊢
  have hl : lv_has ls 2 [(0, .int p1)] := hl
  have hS := C.2.2.2.2.2.2.2.2.2
  exact R_J6_numberOfLeadingZeros_0f7a4_0 C p1 f h0 hl hS
/-! ContinuedRatios$Natural.divide(LContinuedRatios$Natural;LContinuedRatios$Natural;)V -/
def S_X1_divide (E : cx) (h : Nat) (p1 : Nat) (p2 : Nat) (f : hm) (K : hm → Prop) : Prop := MV E.1 E.2.1 vwCl (eT E) yX1_divide wsX1_divide ({ frames := 3, cells := 0, slots := 0, locals := 83 }) [.ref h, .ref p1, .ref p2] f K
theorem mm_X1_divide_0 : Cond.fieldLink RX1 13 "ContinuedRatios$Natural" "length" "I" ∈ wsX1_divide := by decide +kernel
theorem mm_X1_divide_1 : Cond.fieldLink RX1 9 "ContinuedRatios$Natural" "limbs" "[I" ∈ wsX1_divide := by decide +kernel
theorem ii_X1_divide_X1 : ∀ w ∈ u_ws RX1 TX1 2, w ∈ wsX1_divide := by decide +kernel
def X_X1_divide_0 (E : cx) (h : Nat) (p1 : Nat) (p2 : Nat) (f : hm) (L65 : Nat → Nat → Nat → Int32 → Int32 → Int64 → Int64 → Int32 → hm → Prop) (K : hm → Prop) : Prop :=
  (isO f p2 1 ∧ S_X1_clear E p2 f (fun (f2 : hm) => (∃ v3 : Int32, rdV f2 p1 1 1 = some (.int v3) ∧ ((v3 = 0 → K f2) ∧ (¬ (v3 = 0) → (∃ v5 : Int32, rdV f2 h 1 1 = some (.int v5) ∧ ((v3 ≤ v5 → (∃ v7 : Nat, rdV f2 p1 1 0 = some (.ref v7) ∧ (∃ v8 : Int32, rdA (eI E) f2 v7 (v3 - (1 : Int32)) = some v8 ∧ S_J6_numberOfLeadingZeros_0f7a4 E v8 f2 (fun (r10 : Int32) (f9 : hm) => (isO f9 p1 1 ∧ S_X1_shiftedLimb E p1 (v3 - (1 : Int32)) r10 f9 (fun (r13 : Int64) (f12 : hm) => (isO f12 p1 1 ∧ S_X1_shiftedLimb E p1 (v3 - (2 : Int32)) r10 f12 (fun (r16 : Int64) (f15 : hm) => (∃ v17 : Int32, rdV f15 h 1 1 = some (.int v17) ∧ (∀ x18 : Int32, x18 = (v17 - v3) → L65 h p1 p2 v3 r10 r13 r16 x18 f15)))))))))) ∧ (¬ (v3 ≤ v5) → K f2))))))))
def X_X1_divide_65 (E : cx) (a_0 : Nat) (a_1 : Nat) (a_2 : Nat) (x_3 : Int32) (x_4 : Int32) (x_5 : Int64) (x_7 : Int64) (x_9 : Int32) (f : hm) (L65 : Nat → Nat → Nat → Int32 → Int32 → Int64 → Int64 → Int32 → hm → Prop) (K : hm → Prop) : Prop :=
  ((x_9 < 0 → (∃ v2 : Int32, rdV f a_0 1 1 = some (.int v2) ∧ (isO f a_2 1 ∧ S_X1_trimFrom E a_2 ((v2 - x_3) + (1 : Int32)) f (fun (f4 : hm) => (∃ v5 : Int32, rdV f4 a_0 1 1 = some (.int v5) ∧ (isO f4 a_0 1 ∧ S_X1_trimFrom E a_0 v5 f4 (fun (f7 : hm) => K f7))))))) ∧ (¬ (x_9 < 0) → (isO f a_0 1 ∧ S_X1_guessQuotient E a_0 (x_9 + x_3) x_4 x_5 x_7 f (fun (r10 : Int64) (f9 : hm) => (((lg_cmp r10 (0 : Int64)) = 0 → (∃ v12 : Nat, rdV f9 a_2 1 0 = some (.ref v12) ∧ (∃ f13 : hm, wrA (eI E) f9 v12 x_9 r10.toInt32 = some f13 ∧ (∀ x14 : Int32, x14 = x_9 + (-1) → L65 a_0 a_1 a_2 x_3 x_4 x_5 x_7 x14 f13)))) ∧ (¬ ((lg_cmp r10 (0 : Int64)) = 0) → (isO f9 a_0 1 ∧ S_X1_takeAwayAt E a_0 x_9 a_1 r10 f9 (fun (r17 : Int32) (f16 : hm) => ((r17 = 0 → (∃ v19 : Nat, rdV f16 a_2 1 0 = some (.ref v19) ∧ (∃ f20 : hm, wrA (eI E) f16 v19 x_9 r10.toInt32 = some f20 ∧ (∀ x21 : Int32, x21 = x_9 + (-1) → L65 a_0 a_1 a_2 x_3 x_4 x_5 x_7 x21 f20)))) ∧ (¬ (r17 = 0) → (isO f16 a_0 1 ∧ S_X1_addMultipleAt E a_0 x_9 a_1 (1 : Int64) f16 (fun (f23 : hm) => (∀ x24 : Int64, x24 = (r10 - (1 : Int64)) → (∃ v25 : Nat, rdV f23 a_2 1 0 = some (.ref v25) ∧ (∃ f26 : hm, wrA (eI E) f23 v25 x_9 x24.toInt32 = some f26 ∧ (∀ x27 : Int32, x27 = x_9 + (-1) → L65 a_0 a_1 a_2 x_3 x_4 x_5 x_7 x27 f26))))))))))))))))
set_option maxRecDepth 100000 in
set_option maxHeartbeats 4000000 in
theorem R_X1_divide_0 {E : cx} {p : Program} {e : Env} {s : State} {m : MethodId} {below : List Frame} {meth : Method} {c : Code} {f0 : hm} {zh : Nat} {zp1 : Nat} {zp2 : Nat} (C : wB E.2.1 vwCl (eT E) yX1_divide cX1_divide 12 none wsX1_divide [.ref zh, .ref zp1, .ref zp2] f0 p s m meth c) (h : Nat) (p1 : Nat) (p2 : Nat) (f : hm) {L65 : Nat → Nat → Nat → Int32 → Int32 → Int64 → Int64 → Int32 → hm → Prop} {K : hm → Prop} (hv : X_X1_divide_0 E h p1 p2 f L65 K) {ls : Array Slot} {H : Heap} {locs : List Loc} (hl : lv_has ls 12 [(0, .ref h), (1, .ref p1), (2, .ref p2)]) (hS : wS E.2.1 vwCl (wA f0 s.heap.size) s.heap f H locs) (hL65 : ∀ (y_0 : Nat) (y_1 : Nat) (y_2 : Nat) (y_3 : Int32) (y_4 : Int32) (y_5 : Int64) (y_7 : Int64) (y_9 : Int32) (f : hm) (ls : Array Slot) (H : Heap) (locs : List Loc), L65 y_0 y_1 y_2 y_3 y_4 y_5 y_7 y_9 f → lv_has ls 12 [(0, .ref y_0), (1, .ref y_1), (2, .ref y_2), (3, .int y_3), (4, .int y_4), (5, .long y_5), (7, .long y_7), (9, .int y_9)] → wS E.2.1 vwCl (wA f0 s.heap.size) s.heap f H locs → W p E.1 e ({ frames := 3, cells := 0, slots := 0, locals := 83 }) s m ([.ref zh, .ref zp1, .ref zp2] : List Value).toArray below meth c H locs 0 0 (MQ below (wQv f0 E.2.1 vwCl K s) ([.ref zh, .ref zp1, .ref zp2] : List Value).toArray s 0 0 (wA f0 s.heap.size)) (F0 m 65 ls [])) : W p E.1 e ({ frames := 3, cells := 0, slots := 0, locals := 83 }) s m ([.ref zh, .ref zp1, .ref zp2] : List Value).toArray below meth c H locs 0 0 (MQ below (wQv f0 E.2.1 vwCl K s) ([.ref zh, .ref zp1, .ref zp2] : List Value).toArray s 0 0 (wA f0 s.heap.size)) (F0 m 0 ls []) := by
  obtain ⟨hx, hb, hml, hown, hts, hr, hlk, hnm, hK, -⟩ := C
  unfold X_X1_divide_0 at hv
  refine lv_aload_n hx hb dX1_divide_0 rfl (lv_at hl 2 rfl) ?_
  obtain ⟨ho1, hv⟩ := hv
  refine fw_callVv hx hb hml hown hts hK hS [] [] hv gX1_divide_X1_clear rfl rfl rfl 0 (by decide +kernel) ⟨Nat.le_of_ble_eq_true rfl, Nat.le_of_ble_eq_true rfl⟩ rfl rfl ho1 rfl hl.1 rfl (Nat.le_of_ble_eq_true rfl) dX1_divide_1 ⟨Nat.zero_le _, Nat.zero_le _⟩ (fun f2 H locs hv hS => ?_)
  refine lv_aload_n hx hb dX1_divide_4 rfl (lv_at hl 1 rfl) ?_
  obtain ⟨v3, ev3, hv⟩ := hv
  refine fw_get hx hb hts ii_X1_divide_X1 hown hK hS 1 ev3 rfl (by decide) mm_X1_divide_0 rfl dX1_divide_5 ?_
  refine lv_istore_n (lv' := [(3, .int v3), (0, .ref h), (1, .ref p1), (2, .ref p2)]) hx hb dX1_divide_8 rfl hl (by decide) rfl (fun ls hl => ?_)
  refine lv_iload_n hx hb dX1_divide_9 rfl (lv_at hl 0 rfl) ?_
  refine lv_if_eq (tgt := 21) hx hb dX1_divide_10 (by decide) (fun c4 => ?_) (fun c4 => ?_)
  · have hv := hv.1 c4
    exact fw_vret hx hb hr hlk hS hv dX1_divide_21
  · have hv := hv.2 c4
    refine lv_iload_n hx hb dX1_divide_13 rfl (lv_at hl 0 rfl) ?_
    refine lv_aload_n hx hb dX1_divide_14 rfl (lv_at hl 1 rfl) ?_
    obtain ⟨v5, ev5, hv⟩ := hv
    refine fw_get hx hb hts ii_X1_divide_X1 hown hK hS 1 ev5 rfl (by decide) mm_X1_divide_0 rfl dX1_divide_15 ?_
    refine lv_icmp_le (tgt := 22) hx hb dX1_divide_18 (by decide) (fun c6 => ?_) (fun c6 => ?_)
    · have hv := hv.1 c6
      refine lv_aload_n hx hb dX1_divide_22 rfl (lv_at hl 2 rfl) ?_
      obtain ⟨v7, ev7, hv⟩ := hv
      refine fw_get hx hb hts ii_X1_divide_X1 hown hK hS 0 ev7 rfl (by decide) mm_X1_divide_1 rfl dX1_divide_23 ?_
      refine lv_iload_n hx hb dX1_divide_26 rfl (lv_at hl 0 rfl) ?_
      refine lv_iconst (v := 1) hx hb dX1_divide_27 (by decide) ?_
      refine lv_isub hx hb dX1_divide_28 ?_
      obtain ⟨v8, ev8, hv⟩ := hv
      refine fw_ald hx hb hK hS 0 rfl ev8 dX1_divide_29 ?_
      refine fw_callSi hx hb hml hown hts hK hS [.int v8] [] hv gX1_divide_J6_numberOfLeadingZeros_0f7a4 rfl rfl rfl 1 (by decide +kernel) ⟨Nat.le_of_ble_eq_true rfl, Nat.le_of_ble_eq_true rfl⟩ rfl hl.1 rfl (Nat.le_of_ble_eq_true rfl) dX1_divide_30 ⟨Nat.zero_le _, Nat.zero_le _⟩ (fun r10 f9 H locs hv hS => ?_)
      refine lv_istore (lv' := [(4, .int r10), (3, .int v3), (0, .ref h), (1, .ref p1), (2, .ref p2)]) hx hb dX1_divide_33 hl (by decide) rfl (fun ls hl => ?_)
      refine lv_aload_n hx hb dX1_divide_35 rfl (lv_at hl 3 rfl) ?_
      refine lv_iload_n hx hb dX1_divide_36 rfl (lv_at hl 1 rfl) ?_
      refine lv_iconst (v := 1) hx hb dX1_divide_37 (by decide) ?_
      refine lv_isub hx hb dX1_divide_38 ?_
      refine lv_iload hx hb dX1_divide_39 (lv_at hl 0 rfl) ?_
      obtain ⟨ho11, hv⟩ := hv
      refine fw_callVl hx hb hml hown hts hK hS [.int (v3 - (1 : Int32)), .int r10] [] hv gX1_divide_X1_shiftedLimb rfl rfl rfl 2 (by decide +kernel) ⟨Nat.le_of_ble_eq_true rfl, Nat.le_of_ble_eq_true rfl⟩ rfl rfl ho11 rfl hl.1 rfl (Nat.le_of_ble_eq_true rfl) dX1_divide_41 ⟨Nat.zero_le _, Nat.zero_le _⟩ (fun r13 f12 H locs hv hS => ?_)
      refine lv_lstore (lv' := [(5, .long r13), (4, .int r10), (3, .int v3), (0, .ref h), (1, .ref p1), (2, .ref p2)]) hx hb dX1_divide_44 hl (by decide) rfl (fun ls hl => ?_)
      refine lv_aload_n hx hb dX1_divide_46 rfl (lv_at hl 4 rfl) ?_
      refine lv_iload_n hx hb dX1_divide_47 rfl (lv_at hl 2 rfl) ?_
      refine lv_iconst (v := 2) hx hb dX1_divide_48 (by decide) ?_
      refine lv_isub hx hb dX1_divide_49 ?_
      refine lv_iload hx hb dX1_divide_50 (lv_at hl 1 rfl) ?_
      obtain ⟨ho14, hv⟩ := hv
      refine fw_callVl hx hb hml hown hts hK hS [.int (v3 - (2 : Int32)), .int r10] [] hv gX1_divide_X1_shiftedLimb rfl rfl rfl 2 (by decide +kernel) ⟨Nat.le_of_ble_eq_true rfl, Nat.le_of_ble_eq_true rfl⟩ rfl rfl ho14 rfl hl.1 rfl (Nat.le_of_ble_eq_true rfl) dX1_divide_52 ⟨Nat.zero_le _, Nat.zero_le _⟩ (fun r16 f15 H locs hv hS => ?_)
      refine lv_lstore (lv' := [(7, .long r16), (5, .long r13), (4, .int r10), (3, .int v3), (0, .ref h), (1, .ref p1), (2, .ref p2)]) hx hb dX1_divide_55 hl (by decide) rfl (fun ls hl => ?_)
      refine lv_aload_n hx hb dX1_divide_57 rfl (lv_at hl 4 rfl) ?_
      obtain ⟨v17, ev17, hv⟩ := hv
      refine fw_get hx hb hts ii_X1_divide_X1 hown hK hS 1 ev17 rfl (by decide) mm_X1_divide_0 rfl dX1_divide_58 ?_
      refine lv_iload_n hx hb dX1_divide_61 rfl (lv_at hl 3 rfl) ?_
      refine lv_isub hx hb dX1_divide_62 ?_
      refine lv_topi (fun x18 ex18 => ?_)
      have hv := hv x18 ex18
      refine lv_istore (lv' := [(9, .int x18), (7, .long r16), (5, .long r13), (4, .int r10), (3, .int v3), (0, .ref h), (1, .ref p1), (2, .ref p2)]) hx hb dX1_divide_63 hl (by decide) rfl (fun ls hl => ?_)
      exact hL65 _ _ _ _ _ _ _ _ _ _ _ _ hv (lv_sub hl [5, 6, 7, 4, 3, 2, 1, 0] rfl) hS
    · have hv := hv.2 c6
      exact fw_vret hx hb hr hlk hS hv dX1_divide_21
set_option maxRecDepth 100000 in
set_option maxHeartbeats 4000000 in
theorem R_X1_divide_65 {E : cx} {p : Program} {e : Env} {s : State} {m : MethodId} {below : List Frame} {meth : Method} {c : Code} {f0 : hm} {zh : Nat} {zp1 : Nat} {zp2 : Nat} (C : wB E.2.1 vwCl (eT E) yX1_divide cX1_divide 12 none wsX1_divide [.ref zh, .ref zp1, .ref zp2] f0 p s m meth c) (a_0 : Nat) (a_1 : Nat) (a_2 : Nat) (x_3 : Int32) (x_4 : Int32) (x_5 : Int64) (x_7 : Int64) (x_9 : Int32) (f : hm) {L65 : Nat → Nat → Nat → Int32 → Int32 → Int64 → Int64 → Int32 → hm → Prop} {K : hm → Prop} (hv : X_X1_divide_65 E a_0 a_1 a_2 x_3 x_4 x_5 x_7 x_9 f L65 K) {ls : Array Slot} {H : Heap} {locs : List Loc} (hl : lv_has ls 12 [(0, .ref a_0), (1, .ref a_1), (2, .ref a_2), (3, .int x_3), (4, .int x_4), (5, .long x_5), (7, .long x_7), (9, .int x_9)]) (hS : wS E.2.1 vwCl (wA f0 s.heap.size) s.heap f H locs) (hL65 : ∀ (y_0 : Nat) (y_1 : Nat) (y_2 : Nat) (y_3 : Int32) (y_4 : Int32) (y_5 : Int64) (y_7 : Int64) (y_9 : Int32) (f : hm) (ls : Array Slot) (H : Heap) (locs : List Loc), L65 y_0 y_1 y_2 y_3 y_4 y_5 y_7 y_9 f → lv_has ls 12 [(0, .ref y_0), (1, .ref y_1), (2, .ref y_2), (3, .int y_3), (4, .int y_4), (5, .long y_5), (7, .long y_7), (9, .int y_9)] → wS E.2.1 vwCl (wA f0 s.heap.size) s.heap f H locs → W p E.1 e ({ frames := 3, cells := 0, slots := 0, locals := 83 }) s m ([.ref zh, .ref zp1, .ref zp2] : List Value).toArray below meth c H locs 0 0 (MQ below (wQv f0 E.2.1 vwCl K s) ([.ref zh, .ref zp1, .ref zp2] : List Value).toArray s 0 0 (wA f0 s.heap.size)) (F0 m 65 ls [])) : W p E.1 e ({ frames := 3, cells := 0, slots := 0, locals := 83 }) s m ([.ref zh, .ref zp1, .ref zp2] : List Value).toArray below meth c H locs 0 0 (MQ below (wQv f0 E.2.1 vwCl K s) ([.ref zh, .ref zp1, .ref zp2] : List Value).toArray s 0 0 (wA f0 s.heap.size)) (F0 m 65 ls []) := by
  obtain ⟨hx, hb, hml, hown, hts, hr, hlk, hnm, hK, -⟩ := C
  unfold X_X1_divide_65 at hv
  refine lv_iload hx hb dX1_divide_65 (lv_at hl 7 rfl) ?_
  refine lv_if_lt (tgt := 135) hx hb dX1_divide_67 (by decide) (fun c1 => ?_) (fun c1 => ?_)
  · have hv := hv.1 c1
    refine lv_aload_n hx hb dX1_divide_135 rfl (lv_at hl 2 rfl) ?_
    refine lv_aload_n hx hb dX1_divide_136 rfl (lv_at hl 0 rfl) ?_
    obtain ⟨v2, ev2, hv⟩ := hv
    refine fw_get hx hb hts ii_X1_divide_X1 hown hK hS 1 ev2 rfl (by decide) mm_X1_divide_0 rfl dX1_divide_137 ?_
    refine lv_iload_n hx hb dX1_divide_140 rfl (lv_at hl 3 rfl) ?_
    refine lv_isub hx hb dX1_divide_141 ?_
    refine lv_iconst (v := 1) hx hb dX1_divide_142 (by decide) ?_
    refine lv_iadd hx hb dX1_divide_143 ?_
    obtain ⟨ho3, hv⟩ := hv
    refine fw_callVv hx hb hml hown hts hK hS [.int ((v2 - x_3) + (1 : Int32))] [] hv gX1_divide_X1_trimFrom rfl rfl rfl 1 (by decide +kernel) ⟨Nat.le_of_ble_eq_true rfl, Nat.le_of_ble_eq_true rfl⟩ rfl rfl ho3 rfl hl.1 rfl (Nat.le_of_ble_eq_true rfl) dX1_divide_144 ⟨Nat.zero_le _, Nat.zero_le _⟩ (fun f4 H locs hv hS => ?_)
    refine lv_aload_n hx hb dX1_divide_147 rfl (lv_at hl 0 rfl) ?_
    refine lv_aload_n hx hb dX1_divide_148 rfl (lv_at hl 0 rfl) ?_
    obtain ⟨v5, ev5, hv⟩ := hv
    refine fw_get hx hb hts ii_X1_divide_X1 hown hK hS 1 ev5 rfl (by decide) mm_X1_divide_0 rfl dX1_divide_149 ?_
    obtain ⟨ho6, hv⟩ := hv
    refine fw_callVv hx hb hml hown hts hK hS [.int v5] [] hv gX1_divide_X1_trimFrom rfl rfl rfl 1 (by decide +kernel) ⟨Nat.le_of_ble_eq_true rfl, Nat.le_of_ble_eq_true rfl⟩ rfl rfl ho6 rfl hl.1 rfl (Nat.le_of_ble_eq_true rfl) dX1_divide_152 ⟨Nat.zero_le _, Nat.zero_le _⟩ (fun f7 H locs hv hS => ?_)
    exact fw_vret hx hb hr hlk hS hv dX1_divide_155
  · have hv := hv.2 c1
    refine lv_aload_n hx hb dX1_divide_70 rfl (lv_at hl 0 rfl) ?_
    refine lv_iload hx hb dX1_divide_71 (lv_at hl 7 rfl) ?_
    refine lv_iload_n hx hb dX1_divide_73 rfl (lv_at hl 3 rfl) ?_
    refine lv_iadd hx hb dX1_divide_74 ?_
    refine lv_iload hx hb dX1_divide_75 (lv_at hl 4 rfl) ?_
    refine lv_lload hx hb dX1_divide_77 (lv_at hl 5 rfl) ?_
    refine lv_lload hx hb dX1_divide_79 (lv_at hl 6 rfl) ?_
    obtain ⟨ho8, hv⟩ := hv
    refine fw_callVl hx hb hml hown hts hK hS [.int (x_9 + x_3), .int x_4, .long x_5, .long x_7] [] hv gX1_divide_X1_guessQuotient rfl rfl rfl 4 (by decide +kernel) ⟨Nat.le_of_ble_eq_true rfl, Nat.le_of_ble_eq_true rfl⟩ rfl rfl ho8 rfl hl.1 rfl (Nat.le_of_ble_eq_true rfl) dX1_divide_81 ⟨Nat.zero_le _, Nat.zero_le _⟩ (fun r10 f9 H locs hv hS => ?_)
    refine lv_lstore (lv' := [(10, .long r10), (0, .ref a_0), (1, .ref a_1), (2, .ref a_2), (3, .int x_3), (4, .int x_4), (5, .long x_5), (7, .long x_7), (9, .int x_9)]) hx hb dX1_divide_84 hl (by decide) rfl (fun ls hl => ?_)
    refine lv_lload hx hb dX1_divide_86 (lv_at hl 0 rfl) ?_
    refine lv_lconst (v := 0) hx hb dX1_divide_88 (by decide) ?_
    refine W.lcmp hx hb dX1_divide_89 ?_
    refine lv_if_eq (tgt := 119) hx hb dX1_divide_90 (by decide) (fun c11 => ?_) (fun c11 => ?_)
    · have hv := hv.1 c11
      refine lv_aload_n hx hb dX1_divide_119 rfl (lv_at hl 3 rfl) ?_
      obtain ⟨v12, ev12, hv⟩ := hv
      refine fw_get hx hb hts ii_X1_divide_X1 hown hK hS 0 ev12 rfl (by decide) mm_X1_divide_1 rfl dX1_divide_120 ?_
      refine lv_iload hx hb dX1_divide_123 (lv_at hl 8 rfl) ?_
      refine lv_lload hx hb dX1_divide_125 (lv_at hl 0 rfl) ?_
      refine lv_l2i hx hb dX1_divide_127 rfl ?_
      obtain ⟨f13, ef13, hv⟩ := hv
      refine fw_ast hx hb hK hS 0 rfl ef13 dX1_divide_128 (fun H locs hS => ?_)
      obtain ⟨x14, ex14⟩ : ∃ y : Int32, y = x_9 + (-1) := ⟨_, rfl⟩
      have hv := hv x14 ex14
      refine lv_iinc (v := x14) (lv' := [(9, .int x14), (10, .long r10), (0, .ref a_0), (1, .ref a_1), (2, .ref a_2), (3, .int x_3), (4, .int x_4), (5, .long x_5), (7, .long x_7)]) hx hb dX1_divide_129 hl (k := 8) rfl (by rw [ex14]; rfl) (by decide) rfl (fun ls hl => ?_)
      refine lv_goto (tgt := 65) hx hb dX1_divide_132 (by decide) ?_
      exact hL65 _ _ _ _ _ _ _ _ _ _ _ _ hv (lv_sub hl [2, 3, 4, 5, 6, 7, 8, 0] rfl) hS
    · have hv := hv.2 c11
      refine lv_aload_n hx hb dX1_divide_93 rfl (lv_at hl 1 rfl) ?_
      refine lv_iload hx hb dX1_divide_94 (lv_at hl 8 rfl) ?_
      refine lv_aload_n hx hb dX1_divide_96 rfl (lv_at hl 2 rfl) ?_
      refine lv_lload hx hb dX1_divide_97 (lv_at hl 0 rfl) ?_
      obtain ⟨ho15, hv⟩ := hv
      refine fw_callVi hx hb hml hown hts hK hS [.int x_9, .ref a_1, .long r10] [] hv gX1_divide_X1_takeAwayAt rfl rfl rfl 3 (by decide +kernel) ⟨Nat.le_of_ble_eq_true rfl, Nat.le_of_ble_eq_true rfl⟩ rfl rfl ho15 rfl hl.1 rfl (Nat.le_of_ble_eq_true rfl) dX1_divide_99 ⟨Nat.zero_le _, Nat.zero_le _⟩ (fun r17 f16 H locs hv hS => ?_)
      refine lv_if_eq (tgt := 119) hx hb dX1_divide_102 (by decide) (fun c18 => ?_) (fun c18 => ?_)
      · have hv := hv.1 c18
        refine lv_aload_n hx hb dX1_divide_119 rfl (lv_at hl 3 rfl) ?_
        obtain ⟨v19, ev19, hv⟩ := hv
        refine fw_get hx hb hts ii_X1_divide_X1 hown hK hS 0 ev19 rfl (by decide) mm_X1_divide_1 rfl dX1_divide_120 ?_
        refine lv_iload hx hb dX1_divide_123 (lv_at hl 8 rfl) ?_
        refine lv_lload hx hb dX1_divide_125 (lv_at hl 0 rfl) ?_
        refine lv_l2i hx hb dX1_divide_127 rfl ?_
        obtain ⟨f20, ef20, hv⟩ := hv
        refine fw_ast hx hb hK hS 0 rfl ef20 dX1_divide_128 (fun H locs hS => ?_)
        obtain ⟨x21, ex21⟩ : ∃ y : Int32, y = x_9 + (-1) := ⟨_, rfl⟩
        have hv := hv x21 ex21
        refine lv_iinc (v := x21) (lv' := [(9, .int x21), (10, .long r10), (0, .ref a_0), (1, .ref a_1), (2, .ref a_2), (3, .int x_3), (4, .int x_4), (5, .long x_5), (7, .long x_7)]) hx hb dX1_divide_129 hl (k := 8) rfl (by rw [ex21]; rfl) (by decide) rfl (fun ls hl => ?_)
        refine lv_goto (tgt := 65) hx hb dX1_divide_132 (by decide) ?_
        exact hL65 _ _ _ _ _ _ _ _ _ _ _ _ hv (lv_sub hl [2, 3, 4, 5, 6, 7, 8, 0] rfl) hS
      · have hv := hv.2 c18
        refine lv_aload_n hx hb dX1_divide_105 rfl (lv_at hl 1 rfl) ?_
        refine lv_iload hx hb dX1_divide_106 (lv_at hl 8 rfl) ?_
        refine lv_aload_n hx hb dX1_divide_108 rfl (lv_at hl 2 rfl) ?_
        refine lv_lconst (v := 1) hx hb dX1_divide_109 (by decide) ?_
        obtain ⟨ho22, hv⟩ := hv
        refine fw_callVv hx hb hml hown hts hK hS [.int x_9, .ref a_1, .long (1 : Int64)] [] hv gX1_divide_X1_addMultipleAt rfl rfl rfl 3 (by decide +kernel) ⟨Nat.le_of_ble_eq_true rfl, Nat.le_of_ble_eq_true rfl⟩ rfl rfl ho22 rfl hl.1 rfl (Nat.le_of_ble_eq_true rfl) dX1_divide_110 ⟨Nat.zero_le _, Nat.zero_le _⟩ (fun f23 H locs hv hS => ?_)
        refine lv_lload hx hb dX1_divide_113 (lv_at hl 0 rfl) ?_
        refine lv_lconst (v := 1) hx hb dX1_divide_115 (by decide) ?_
        refine lv_lsub hx hb dX1_divide_116 ?_
        refine lv_topl (fun x24 ex24 => ?_)
        have hv := hv x24 ex24
        refine lv_lstore (lv' := [(10, .long x24), (0, .ref a_0), (1, .ref a_1), (2, .ref a_2), (3, .int x_3), (4, .int x_4), (5, .long x_5), (7, .long x_7), (9, .int x_9)]) hx hb dX1_divide_117 hl (by decide) rfl (fun ls hl => ?_)
        refine lv_aload_n hx hb dX1_divide_119 rfl (lv_at hl 3 rfl) ?_
        obtain ⟨v25, ev25, hv⟩ := hv
        refine fw_get hx hb hts ii_X1_divide_X1 hown hK hS 0 ev25 rfl (by decide) mm_X1_divide_1 rfl dX1_divide_120 ?_
        refine lv_iload hx hb dX1_divide_123 (lv_at hl 8 rfl) ?_
        refine lv_lload hx hb dX1_divide_125 (lv_at hl 0 rfl) ?_
        refine lv_l2i hx hb dX1_divide_127 rfl ?_
        obtain ⟨f26, ef26, hv⟩ := hv
        refine fw_ast hx hb hK hS 0 rfl ef26 dX1_divide_128 (fun H locs hS => ?_)
        obtain ⟨x27, ex27⟩ : ∃ y : Int32, y = x_9 + (-1) := ⟨_, rfl⟩
        have hv := hv x27 ex27
        refine lv_iinc (v := x27) (lv' := [(9, .int x27), (10, .long x24), (0, .ref a_0), (1, .ref a_1), (2, .ref a_2), (3, .int x_3), (4, .int x_4), (5, .long x_5), (7, .long x_7)]) hx hb dX1_divide_129 hl (k := 8) rfl (by rw [ex27]; rfl) (by decide) rfl (fun ls hl => ?_)
        refine lv_goto (tgt := 65) hx hb dX1_divide_132 (by decide) ?_
        exact hL65 _ _ _ _ _ _ _ _ _ _ _ _ hv (lv_sub hl [2, 3, 4, 5, 6, 7, 8, 0] rfl) hS
set_option maxRecDepth 100000 in
set_option maxHeartbeats 4000000 in
theorem T_X1_divide {E : cx} {h : Nat} {p1 : Nat} {p2 : Nat} {f : hm} {K : hm → Prop} (I65 : Nat → Nat → Nat → Nat → Int32 → Int32 → Int64 → Int64 → Int32 → hm → Prop) (h0 : X_X1_divide_0 E h p1 p2 f (fun (y_0 : Nat) (y_1 : Nat) (y_2 : Nat) (y_3 : Int32) (y_4 : Int32) (y_5 : Int64) (y_7 : Int64) (y_9 : Int32) (f : hm) => ∃ k : Nat, I65 k y_0 y_1 y_2 y_3 y_4 y_5 y_7 y_9 f) K) (h65 : ∀ (n : Nat) (a_0 : Nat) (a_1 : Nat) (a_2 : Nat) (x_3 : Int32) (x_4 : Int32) (x_5 : Int64) (x_7 : Int64) (x_9 : Int32) (f : hm), I65 n a_0 a_1 a_2 x_3 x_4 x_5 x_7 x_9 f → X_X1_divide_65 E a_0 a_1 a_2 x_3 x_4 x_5 x_7 x_9 f (fun (y_0 : Nat) (y_1 : Nat) (y_2 : Nat) (y_3 : Int32) (y_4 : Int32) (y_5 : Int64) (y_7 : Int64) (y_9 : Int32) (f : hm) => ∃ k : Nat, k < n ∧ I65 k y_0 y_1 y_2 y_3 y_4 y_5 y_7 y_9 f) K) : S_X1_divide E h p1 p2 f K := by
  refine MV_of (cc := cX1_divide) (maxL := 12) (ret := none) (by decide) rfl ?_
  intro p e s m below meth c C
  have hl := lv_entry ([.ref h, .ref p1, .ref p2]) (n := 12) (Nat.le_of_ble_eq_true rfl)
  rw [lg_entry_eq]
  generalize (lg_sl ([.ref h, .ref p1, .ref p2]) ++ List.replicate (12 - (lg_sl ([.ref h, .ref p1, .ref p2])).length) Slot.unset).toArray = ls at hl ⊢
  have hl : lv_has ls 12 [(0, .ref h), (1, .ref p1), (2, .ref p2)] := hl
  have hS := C.2.2.2.2.2.2.2.2.2
  have key : ∀ n : Nat, (∀ (a_0 : Nat) (a_1 : Nat) (a_2 : Nat) (x_3 : Int32) (x_4 : Int32) (x_5 : Int64) (x_7 : Int64) (x_9 : Int32) (g : hm) (ls : Array Slot) (H : Heap) (locs : List Loc), I65 n a_0 a_1 a_2 x_3 x_4 x_5 x_7 x_9 g → lv_has ls 12 [(0, .ref a_0), (1, .ref a_1), (2, .ref a_2), (3, .int x_3), (4, .int x_4), (5, .long x_5), (7, .long x_7), (9, .int x_9)] → wS E.2.1 vwCl (wA f s.heap.size) s.heap g H locs → W p E.1 e ({ frames := 3, cells := 0, slots := 0, locals := 83 }) s m ([.ref h, .ref p1, .ref p2] : List Value).toArray below meth c H locs 0 0 (MQ below (wQv f E.2.1 vwCl K s) ([.ref h, .ref p1, .ref p2] : List Value).toArray s 0 0 (wA f s.heap.size)) (F0 m 65 ls [])) := by
    refine st_ind (fun n ih => ?_)
    intro a_0 a_1 a_2 x_3 x_4 x_5 x_7 x_9 g ls H locs hI hl hS
    exact R_X1_divide_65 C a_0 a_1 a_2 x_3 x_4 x_5 x_7 x_9 g (h65 n a_0 a_1 a_2 x_3 x_4 x_5 x_7 x_9 g hI) hl hS (fun _ _ _ _ _ _ _ _ _ _ _ _ hI hl hS => by obtain ⟨k, hk, hI⟩ := hI; exact (ih k hk) _ _ _ _ _ _ _ _ _ _ _ _ hI hl hS)
  exact R_X1_divide_0 C h p1 p2 f h0 hl hS (fun _ _ _ _ _ _ _ _ _ _ _ _ hI hl hS => by obtain ⟨k, hI⟩ := hI; exact (key k) _ _ _ _ _ _ _ _ _ _ _ _ hI hl hS)
