/-! By program (wip/whole/gen.py), out of the printed names: do not edit. -/
/-! ContinuedRatios$Natural.isZero()Z -/
def S_X1_isZero (E : cx) (h : Nat) (f : hm) (K : Int32 → hm → Prop) : Prop := MI E.1 E.2.1 vwCl (eT E) yX1_isZero wsX1_isZero ({ frames := 0, cells := 0, slots := 0, locals := 0 }) [.ref h] f K
theorem mm_X1_isZero_0 : Cond.fieldLink RX1 13 "ContinuedRatios$Natural" "length" "I" ∈ wsX1_isZero := by decide +kernel
theorem ii_X1_isZero_X1 : ∀ w ∈ u_ws RX1 TX1 2, w ∈ wsX1_isZero := by decide +kernel
def X_X1_isZero_0 (E : cx) (h : Nat) (f : hm)  (K : Int32 → hm → Prop) : Prop :=
  (∃ v1 : Int32, rdV f h 1 1 = some (.int v1) ∧ ((¬ v1 = 0 → (narrow .boolean (.int (0 : Int32)) = .int (0 : Int32) ∧ K (0 : Int32) f)) ∧ (v1 = 0 → (narrow .boolean (.int (1 : Int32)) = .int (1 : Int32) ∧ K (1 : Int32) f))))
set_option maxRecDepth 100000 in
set_option maxHeartbeats 4000000 in
theorem R_X1_isZero_0 {E : cx} {p : Program} {e : Env} {s : State} {m : MethodId} {below : List Frame} {meth : Method} {c : Code} {f0 : hm} {zh : Nat} (C : wB E.2.1 vwCl (eT E) yX1_isZero cX1_isZero 1 (some .boolean) wsX1_isZero [.ref zh] f0 p s m meth c) (h : Nat) (f : hm)  {K : Int32 → hm → Prop} (hv : X_X1_isZero_0 E h f  K) {ls : Array Slot} {H : Heap} {locs : List Loc} (hl : lv_has ls 1 [(0, .ref h)]) (hS : wS E.2.1 vwCl (wA f0 s.heap.size) s.heap f H locs)  : W p E.1 e ({ frames := 0, cells := 0, slots := 0, locals := 0 }) s m ([.ref zh] : List Value).toArray below meth c H locs 0 0 (MQ below (wQi f0 E.2.1 vwCl K s) ([.ref zh] : List Value).toArray s 0 0 (wA f0 s.heap.size)) (F0 m 0 ls []) := by
  obtain ⟨hx, hb, hml, hown, hts, hr, hlk, hnm, hK, -⟩ := C
  unfold X_X1_isZero_0 at hv
  refine lv_aload_n hx hb dX1_isZero_0 rfl (lv_at hl 0 rfl) ?_
  obtain ⟨v1, ev1, hv⟩ := hv
  refine fw_get hx hb hts ii_X1_isZero_X1 hown hK hS 1 ev1 rfl (by decide) mm_X1_isZero_0 rfl dX1_isZero_1 ?_
  refine lv_if_ne (tgt := 11) hx hb dX1_isZero_4 (by decide) (fun c2 => ?_) (fun c2 => ?_)
  · have hv := hv.1 c2
    refine lv_iconst (v := 0) hx hb dX1_isZero_11 (by decide) ?_
    exact fw_zret hx hb hr hlk hS hv dX1_isZero_12
  · have hv := hv.2 c2
    refine lv_iconst (v := 1) hx hb dX1_isZero_7 (by decide) ?_
    refine lv_goto (tgt := 12) hx hb dX1_isZero_8 (by decide) ?_
    exact fw_zret hx hb hr hlk hS hv dX1_isZero_12
set_option maxRecDepth 100000 in
set_option maxHeartbeats 4000000 in
theorem T_X1_isZero {E : cx} {h : Nat} {f : hm} {K : Int32 → hm → Prop}  (h0 : X_X1_isZero_0 E h f  K) : S_X1_isZero E h f K := by
  refine MI_of (cc := cX1_isZero) (maxL := 1) (ret := (some .boolean)) (by decide) rfl ?_
  intro p e s m below meth c C
  have hl := lv_entry ([.ref h]) (n := 1) (Nat.le_of_ble_eq_true rfl)
  rw [lg_entry_eq]
  generalize (lg_sl ([.ref h]) ++ List.replicate (1 - (lg_sl ([.ref h])).length) Slot.unset).toArray = ls at hl ⊢
  have hl : lv_has ls 1 [(0, .ref h)] := hl
  have hS := C.2.2.2.2.2.2.2.2.2
  exact R_X1_isZero_0 C h f h0 hl hS
/-! ContinuedRatios$Natural.isOne()Z -/
def S_X1_isOne (E : cx) (h : Nat) (f : hm) (K : Int32 → hm → Prop) : Prop := MI E.1 E.2.1 vwCl (eT E) yX1_isOne wsX1_isOne ({ frames := 0, cells := 0, slots := 0, locals := 0 }) [.ref h] f K
theorem mm_X1_isOne_0 : Cond.fieldLink RX1 13 "ContinuedRatios$Natural" "length" "I" ∈ wsX1_isOne := by decide +kernel
theorem mm_X1_isOne_1 : Cond.fieldLink RX1 9 "ContinuedRatios$Natural" "limbs" "[I" ∈ wsX1_isOne := by decide +kernel
theorem ii_X1_isOne_X1 : ∀ w ∈ u_ws RX1 TX1 2, w ∈ wsX1_isOne := by decide +kernel
def X_X1_isOne_0 (E : cx) (h : Nat) (f : hm)  (K : Int32 → hm → Prop) : Prop :=
  (∃ v1 : Int32, rdV f h 1 1 = some (.int v1) ∧ ((¬ v1 = (1 : Int32) → (narrow .boolean (.int (0 : Int32)) = .int (0 : Int32) ∧ K (0 : Int32) f)) ∧ (v1 = (1 : Int32) → (∃ v3 : Nat, rdV f h 1 0 = some (.ref v3) ∧ (∃ v4 : Int32, rdA (eI E) f v3 (0 : Int32) = some v4 ∧ ((¬ v4 = (1 : Int32) → (narrow .boolean (.int (0 : Int32)) = .int (0 : Int32) ∧ K (0 : Int32) f)) ∧ (v4 = (1 : Int32) → (narrow .boolean (.int (1 : Int32)) = .int (1 : Int32) ∧ K (1 : Int32) f))))))))
set_option maxRecDepth 100000 in
set_option maxHeartbeats 4000000 in
theorem R_X1_isOne_0 {E : cx} {p : Program} {e : Env} {s : State} {m : MethodId} {below : List Frame} {meth : Method} {c : Code} {f0 : hm} {zh : Nat} (C : wB E.2.1 vwCl (eT E) yX1_isOne cX1_isOne 1 (some .boolean) wsX1_isOne [.ref zh] f0 p s m meth c) (h : Nat) (f : hm)  {K : Int32 → hm → Prop} (hv : X_X1_isOne_0 E h f  K) {ls : Array Slot} {H : Heap} {locs : List Loc} (hl : lv_has ls 1 [(0, .ref h)]) (hS : wS E.2.1 vwCl (wA f0 s.heap.size) s.heap f H locs)  : W p E.1 e ({ frames := 0, cells := 0, slots := 0, locals := 0 }) s m ([.ref zh] : List Value).toArray below meth c H locs 0 0 (MQ below (wQi f0 E.2.1 vwCl K s) ([.ref zh] : List Value).toArray s 0 0 (wA f0 s.heap.size)) (F0 m 0 ls []) := by
  obtain ⟨hx, hb, hml, hown, hts, hr, hlk, hnm, hK, -⟩ := C
  unfold X_X1_isOne_0 at hv
  refine lv_aload_n hx hb dX1_isOne_0 rfl (lv_at hl 0 rfl) ?_
  obtain ⟨v1, ev1, hv⟩ := hv
  refine fw_get hx hb hts ii_X1_isOne_X1 hown hK hS 1 ev1 rfl (by decide) mm_X1_isOne_0 rfl dX1_isOne_1 ?_
  refine lv_iconst (v := 1) hx hb dX1_isOne_4 (by decide) ?_
  refine lv_icmp_ne (tgt := 22) hx hb dX1_isOne_5 (by decide) (fun c2 => ?_) (fun c2 => ?_)
  · have hv := hv.1 c2
    refine lv_iconst (v := 0) hx hb dX1_isOne_22 (by decide) ?_
    exact fw_zret hx hb hr hlk hS hv dX1_isOne_23
  · have hv := hv.2 c2
    refine lv_aload_n hx hb dX1_isOne_8 rfl (lv_at hl 0 rfl) ?_
    obtain ⟨v3, ev3, hv⟩ := hv
    refine fw_get hx hb hts ii_X1_isOne_X1 hown hK hS 0 ev3 rfl (by decide) mm_X1_isOne_1 rfl dX1_isOne_9 ?_
    refine lv_iconst (v := 0) hx hb dX1_isOne_12 (by decide) ?_
    obtain ⟨v4, ev4, hv⟩ := hv
    refine fw_ald hx hb hK hS 0 rfl ev4 dX1_isOne_13 ?_
    refine lv_iconst (v := 1) hx hb dX1_isOne_14 (by decide) ?_
    refine lv_icmp_ne (tgt := 22) hx hb dX1_isOne_15 (by decide) (fun c5 => ?_) (fun c5 => ?_)
    · have hv := hv.1 c5
      refine lv_iconst (v := 0) hx hb dX1_isOne_22 (by decide) ?_
      exact fw_zret hx hb hr hlk hS hv dX1_isOne_23
    · have hv := hv.2 c5
      refine lv_iconst (v := 1) hx hb dX1_isOne_18 (by decide) ?_
      refine lv_goto (tgt := 23) hx hb dX1_isOne_19 (by decide) ?_
      exact fw_zret hx hb hr hlk hS hv dX1_isOne_23
set_option maxRecDepth 100000 in
set_option maxHeartbeats 4000000 in
theorem T_X1_isOne {E : cx} {h : Nat} {f : hm} {K : Int32 → hm → Prop}  (h0 : X_X1_isOne_0 E h f  K) : S_X1_isOne E h f K := by
  refine MI_of (cc := cX1_isOne) (maxL := 1) (ret := (some .boolean)) (by decide) rfl ?_
  intro p e s m below meth c C
  have hl := lv_entry ([.ref h]) (n := 1) (Nat.le_of_ble_eq_true rfl)
  rw [lg_entry_eq]
  generalize (lg_sl ([.ref h]) ++ List.replicate (1 - (lg_sl ([.ref h])).length) Slot.unset).toArray = ls at hl ⊢
  have hl : lv_has ls 1 [(0, .ref h)] := hl
  have hS := C.2.2.2.2.2.2.2.2.2
  exact R_X1_isOne_0 C h f h0 hl hS
/-! ContinuedRatios$Natural.limb(I)J -/
def S_X1_limb (E : cx) (h : Nat) (p1 : Int32) (f : hm) (K : Int64 → hm → Prop) : Prop := ML E.1 E.2.1 vwCl (eT E) yX1_limb wsX1_limb ({ frames := 0, cells := 0, slots := 0, locals := 0 }) [.ref h, .int p1] f K
theorem mm_X1_limb_0 : Cond.fieldLink RX1 9 "ContinuedRatios$Natural" "limbs" "[I" ∈ wsX1_limb := by decide +kernel
theorem mm_X1_limb_1 : Cond.constantLong RX1 17 (4294967295) ∈ wsX1_limb := by decide +kernel
theorem ii_X1_limb_X1 : ∀ w ∈ u_ws RX1 TX1 2, w ∈ wsX1_limb := by decide +kernel
def X_X1_limb_0 (E : cx) (h : Nat) (p1 : Int32) (f : hm)  (K : Int64 → hm → Prop) : Prop :=
  ((p1 < 0 → K (0 : Int64) f) ∧ (¬ (p1 < 0) → (((20 : Int32) ≤ p1 → K (0 : Int64) f) ∧ (¬ ((20 : Int32) ≤ p1) → (∃ v3 : Nat, rdV f h 1 0 = some (.ref v3) ∧ (∃ v4 : Int32, rdA (eI E) f v3 p1 = some v4 ∧ K (v4.toInt64 &&& (4294967295 : Int64)) f))))))
set_option maxRecDepth 100000 in
set_option maxHeartbeats 4000000 in
theorem R_X1_limb_0 {E : cx} {p : Program} {e : Env} {s : State} {m : MethodId} {below : List Frame} {meth : Method} {c : Code} {f0 : hm} {zh : Nat} {zp1 : Int32} (C : wB E.2.1 vwCl (eT E) yX1_limb cX1_limb 2 (some .long) wsX1_limb [.ref zh, .int zp1] f0 p s m meth c) (h : Nat) (p1 : Int32) (f : hm)  {K : Int64 → hm → Prop} (hv : X_X1_limb_0 E h p1 f  K) {ls : Array Slot} {H : Heap} {locs : List Loc} (hl : lv_has ls 2 [(0, .ref h), (1, .int p1)]) (hS : wS E.2.1 vwCl (wA f0 s.heap.size) s.heap f H locs)  : W p E.1 e ({ frames := 0, cells := 0, slots := 0, locals := 0 }) s m ([.ref zh, .int zp1] : List Value).toArray below meth c H locs 0 0 (MQ below (wQl f0 E.2.1 vwCl K s) ([.ref zh, .int zp1] : List Value).toArray s 0 0 (wA f0 s.heap.size)) (F0 m 0 ls []) := by
  obtain ⟨hx, hb, hml, hown, hts, hr, hlk, hnm, hK, -⟩ := C
  unfold X_X1_limb_0 at hv
  refine lv_iload_n hx hb dX1_limb_0 rfl (lv_at hl 1 rfl) ?_
  refine lv_if_lt (tgt := 24) hx hb dX1_limb_1 (by decide) (fun c1 => ?_) (fun c1 => ?_)
  · have hv := hv.1 c1
    refine lv_lconst (v := 0) hx hb dX1_limb_24 (by decide) ?_
    exact fw_lret hx hb hr hlk hS hv dX1_limb_25
  · have hv := hv.2 c1
    refine lv_iload_n hx hb dX1_limb_4 rfl (lv_at hl 1 rfl) ?_
    refine lv_bipush (v := 20) hx hb dX1_limb_5 (by decide) ?_
    refine lv_icmp_ge (tgt := 24) hx hb dX1_limb_7 (by decide) (fun c2 => ?_) (fun c2 => ?_)
    · have hv := hv.1 c2
      refine lv_lconst (v := 0) hx hb dX1_limb_24 (by decide) ?_
      exact fw_lret hx hb hr hlk hS hv dX1_limb_25
    · have hv := hv.2 c2
      refine lv_aload_n hx hb dX1_limb_10 rfl (lv_at hl 0 rfl) ?_
      obtain ⟨v3, ev3, hv⟩ := hv
      refine fw_get hx hb hts ii_X1_limb_X1 hown hK hS 0 ev3 rfl (by decide) mm_X1_limb_0 rfl dX1_limb_11 ?_
      refine lv_iload_n hx hb dX1_limb_14 rfl (lv_at hl 1 rfl) ?_
      obtain ⟨v4, ev4, hv⟩ := hv
      refine fw_ald hx hb hK hS 0 rfl ev4 dX1_limb_15 ?_
      refine lv_i2l hx hb dX1_limb_16 rfl ?_
      refine lv_ldc2 (v := (4294967295)) hx hb hown (hts _ mm_X1_limb_1) dX1_limb_17 ?_
      refine lv_land hx hb dX1_limb_20 ?_
      refine lv_goto (tgt := 25) hx hb dX1_limb_21 (by decide) ?_
      exact fw_lret hx hb hr hlk hS hv dX1_limb_25
set_option maxRecDepth 100000 in
set_option maxHeartbeats 4000000 in
theorem T_X1_limb {E : cx} {h : Nat} {p1 : Int32} {f : hm} {K : Int64 → hm → Prop}  (h0 : X_X1_limb_0 E h p1 f  K) : S_X1_limb E h p1 f K := by
  refine ML_of (cc := cX1_limb) (maxL := 2) (ret := (some .long)) (by decide) rfl ?_
  intro p e s m below meth c C
  have hl := lv_entry ([.ref h, .int p1]) (n := 2) (Nat.le_of_ble_eq_true rfl)
  rw [lg_entry_eq]
  generalize (lg_sl ([.ref h, .int p1]) ++ List.replicate (2 - (lg_sl ([.ref h, .int p1])).length) Slot.unset).toArray = ls at hl ⊢
  have hl : lv_has ls 2 [(0, .ref h), (1, .int p1)] := hl
  have hS := C.2.2.2.2.2.2.2.2.2
  exact R_X1_limb_0 C h p1 f h0 hl hS
/-! ContinuedRatios$Natural.capped()J -/
def S_X1_capped (E : cx) (h : Nat) (f : hm) (K : Int64 → hm → Prop) : Prop := ML E.1 E.2.1 vwCl (eT E) yX1_capped wsX1_capped ({ frames := 1, cells := 0, slots := 0, locals := 21 }) [.ref h] f K
theorem mm_X1_capped_0 : Cond.fieldLink RX1 13 "ContinuedRatios$Natural" "length" "I" ∈ wsX1_capped := by decide +kernel
theorem mm_X1_capped_1 : Cond.constantLong RX1 19 (4294967296) ∈ wsX1_capped := by decide +kernel
theorem ii_X1_capped_X1 : ∀ w ∈ u_ws RX1 TX1 2, w ∈ wsX1_capped := by decide +kernel
def X_X1_capped_0 (E : cx) (h : Nat) (f : hm)  (K : Int64 → hm → Prop) : Prop :=
  (∃ v1 : Int32, rdV f h 1 1 = some (.int v1) ∧ ((v1 ≤ (1 : Int32) → (isO f h 1 ∧ S_X1_limb E h (0 : Int32) f (fun (r5 : Int64) (f4 : hm) => K r5 f4))) ∧ (¬ (v1 ≤ (1 : Int32)) → K (4294967296 : Int64) f)))
set_option maxRecDepth 100000 in
set_option maxHeartbeats 4000000 in
theorem R_X1_capped_0 {E : cx} {p : Program} {e : Env} {s : State} {m : MethodId} {below : List Frame} {meth : Method} {c : Code} {f0 : hm} {zh : Nat} (C : wB E.2.1 vwCl (eT E) yX1_capped cX1_capped 1 (some .long) wsX1_capped [.ref zh] f0 p s m meth c) (h : Nat) (f : hm)  {K : Int64 → hm → Prop} (hv : X_X1_capped_0 E h f  K) {ls : Array Slot} {H : Heap} {locs : List Loc} (hl : lv_has ls 1 [(0, .ref h)]) (hS : wS E.2.1 vwCl (wA f0 s.heap.size) s.heap f H locs)  : W p E.1 e ({ frames := 1, cells := 0, slots := 0, locals := 21 }) s m ([.ref zh] : List Value).toArray below meth c H locs 0 0 (MQ below (wQl f0 E.2.1 vwCl K s) ([.ref zh] : List Value).toArray s 0 0 (wA f0 s.heap.size)) (F0 m 0 ls []) := by
  obtain ⟨hx, hb, hml, hown, hts, hr, hlk, hnm, hK, -⟩ := C
  unfold X_X1_capped_0 at hv
  refine lv_aload_n hx hb dX1_capped_0 rfl (lv_at hl 0 rfl) ?_
  obtain ⟨v1, ev1, hv⟩ := hv
  refine fw_get hx hb hts ii_X1_capped_X1 hown hK hS 1 ev1 rfl (by decide) mm_X1_capped_0 rfl dX1_capped_1 ?_
  refine lv_iconst (v := 1) hx hb dX1_capped_4 (by decide) ?_
  refine lv_icmp_le (tgt := 14) hx hb dX1_capped_5 (by decide) (fun c2 => ?_) (fun c2 => ?_)
  · have hv := hv.1 c2
    refine lv_aload_n hx hb dX1_capped_14 rfl (lv_at hl 0 rfl) ?_
    refine lv_iconst (v := 0) hx hb dX1_capped_15 (by decide) ?_
    obtain ⟨ho3, hv⟩ := hv
    refine fw_callVl hx hb hml hown hts hK hS [.int (0 : Int32)] [] hv gX1_capped_X1_limb rfl rfl rfl 1 (by decide +kernel) ⟨Nat.le_of_ble_eq_true rfl, Nat.le_of_ble_eq_true rfl⟩ rfl rfl ho3 rfl hl.1 rfl (Nat.le_of_ble_eq_true rfl) dX1_capped_16 ⟨Nat.zero_le _, Nat.zero_le _⟩ (fun r5 f4 H locs hv hS => ?_)
    exact fw_lret hx hb hr hlk hS hv dX1_capped_19
  · have hv := hv.2 c2
    refine lv_ldc2 (v := (4294967296)) hx hb hown (hts _ mm_X1_capped_1) dX1_capped_8 ?_
    refine lv_goto (tgt := 19) hx hb dX1_capped_11 (by decide) ?_
    exact fw_lret hx hb hr hlk hS hv dX1_capped_19
set_option maxRecDepth 100000 in
set_option maxHeartbeats 4000000 in
theorem T_X1_capped {E : cx} {h : Nat} {f : hm} {K : Int64 → hm → Prop}  (h0 : X_X1_capped_0 E h f  K) : S_X1_capped E h f K := by
  refine ML_of (cc := cX1_capped) (maxL := 1) (ret := (some .long)) (by decide) rfl ?_
  intro p e s m below meth c C
  have hl := lv_entry ([.ref h]) (n := 1) (Nat.le_of_ble_eq_true rfl)
  rw [lg_entry_eq]
  generalize (lg_sl ([.ref h]) ++ List.replicate (1 - (lg_sl ([.ref h])).length) Slot.unset).toArray = ls at hl ⊢
  have hl : lv_has ls 1 [(0, .ref h)] := hl
  have hS := C.2.2.2.2.2.2.2.2.2
  exact R_X1_capped_0 C h f h0 hl hS
/-! ContinuedRatios$Natural.clear()V -/
def S_X1_clear (E : cx) (h : Nat) (f : hm) (K : hm → Prop) : Prop := MV E.1 E.2.1 vwCl (eT E) yX1_clear wsX1_clear ({ frames := 0, cells := 0, slots := 0, locals := 0 }) [.ref h] f K
theorem mm_X1_clear_0 : Cond.fieldLink RX1 13 "ContinuedRatios$Natural" "length" "I" ∈ wsX1_clear := by decide +kernel
theorem mm_X1_clear_1 : Cond.fieldLink RX1 9 "ContinuedRatios$Natural" "limbs" "[I" ∈ wsX1_clear := by decide +kernel
theorem ii_X1_clear_X1 : ∀ w ∈ u_ws RX1 TX1 2, w ∈ wsX1_clear := by decide +kernel
def X_X1_clear_0 (E : cx) (h : Nat) (f : hm) (L2 : Nat → Int32 → hm → Prop) (K : hm → Prop) : Prop :=
  L2 h (0 : Int32) f
def X_X1_clear_2 (E : cx) (a_0 : Nat) (x_1 : Int32) (f : hm) (L2 : Nat → Int32 → hm → Prop) (K : hm → Prop) : Prop :=
  (∃ v1 : Int32, rdV f a_0 1 1 = some (.int v1) ∧ ((v1 ≤ x_1 → (∃ f3 : hm, wrV f a_0 1 1 (.int (0 : Int32)) = some f3 ∧ K f3)) ∧ (¬ (v1 ≤ x_1) → (∃ v4 : Nat, rdV f a_0 1 0 = some (.ref v4) ∧ (∃ f5 : hm, wrA (eI E) f v4 x_1 (0 : Int32) = some f5 ∧ (∀ x6 : Int32, x6 = x_1 + (1) → L2 a_0 x6 f5))))))
set_option maxRecDepth 100000 in
set_option maxHeartbeats 4000000 in
theorem R_X1_clear_0 {E : cx} {p : Program} {e : Env} {s : State} {m : MethodId} {below : List Frame} {meth : Method} {c : Code} {f0 : hm} {zh : Nat} (C : wB E.2.1 vwCl (eT E) yX1_clear cX1_clear 2 none wsX1_clear [.ref zh] f0 p s m meth c) (h : Nat) (f : hm) {L2 : Nat → Int32 → hm → Prop} {K : hm → Prop} (hv : X_X1_clear_0 E h f L2 K) {ls : Array Slot} {H : Heap} {locs : List Loc} (hl : lv_has ls 2 [(0, .ref h)]) (hS : wS E.2.1 vwCl (wA f0 s.heap.size) s.heap f H locs) (hL2 : ∀ (y_0 : Nat) (y_1 : Int32) (f : hm) (ls : Array Slot) (H : Heap) (locs : List Loc), L2 y_0 y_1 f → lv_has ls 2 [(0, .ref y_0), (1, .int y_1)] → wS E.2.1 vwCl (wA f0 s.heap.size) s.heap f H locs → W p E.1 e ({ frames := 0, cells := 0, slots := 0, locals := 0 }) s m ([.ref zh] : List Value).toArray below meth c H locs 0 0 (MQ below (wQv f0 E.2.1 vwCl K s) ([.ref zh] : List Value).toArray s 0 0 (wA f0 s.heap.size)) (F0 m 2 ls [])) : W p E.1 e ({ frames := 0, cells := 0, slots := 0, locals := 0 }) s m ([.ref zh] : List Value).toArray below meth c H locs 0 0 (MQ below (wQv f0 E.2.1 vwCl K s) ([.ref zh] : List Value).toArray s 0 0 (wA f0 s.heap.size)) (F0 m 0 ls []) := by
  obtain ⟨hx, hb, hml, hown, hts, hr, hlk, hnm, hK, -⟩ := C
  unfold X_X1_clear_0 at hv
  refine lv_iconst (v := 0) hx hb dX1_clear_0 (by decide) ?_
  refine lv_istore_n (lv' := [(1, .int (0 : Int32)), (0, .ref h)]) hx hb dX1_clear_1 rfl hl (by decide) rfl (fun ls hl => ?_)
  exact hL2 _ _ _ _ _ _ hv (lv_sub hl [1, 0] rfl) hS
set_option maxRecDepth 100000 in
set_option maxHeartbeats 4000000 in
theorem R_X1_clear_2 {E : cx} {p : Program} {e : Env} {s : State} {m : MethodId} {below : List Frame} {meth : Method} {c : Code} {f0 : hm} {zh : Nat} (C : wB E.2.1 vwCl (eT E) yX1_clear cX1_clear 2 none wsX1_clear [.ref zh] f0 p s m meth c) (a_0 : Nat) (x_1 : Int32) (f : hm) {L2 : Nat → Int32 → hm → Prop} {K : hm → Prop} (hv : X_X1_clear_2 E a_0 x_1 f L2 K) {ls : Array Slot} {H : Heap} {locs : List Loc} (hl : lv_has ls 2 [(0, .ref a_0), (1, .int x_1)]) (hS : wS E.2.1 vwCl (wA f0 s.heap.size) s.heap f H locs) (hL2 : ∀ (y_0 : Nat) (y_1 : Int32) (f : hm) (ls : Array Slot) (H : Heap) (locs : List Loc), L2 y_0 y_1 f → lv_has ls 2 [(0, .ref y_0), (1, .int y_1)] → wS E.2.1 vwCl (wA f0 s.heap.size) s.heap f H locs → W p E.1 e ({ frames := 0, cells := 0, slots := 0, locals := 0 }) s m ([.ref zh] : List Value).toArray below meth c H locs 0 0 (MQ below (wQv f0 E.2.1 vwCl K s) ([.ref zh] : List Value).toArray s 0 0 (wA f0 s.heap.size)) (F0 m 2 ls [])) : W p E.1 e ({ frames := 0, cells := 0, slots := 0, locals := 0 }) s m ([.ref zh] : List Value).toArray below meth c H locs 0 0 (MQ below (wQv f0 E.2.1 vwCl K s) ([.ref zh] : List Value).toArray s 0 0 (wA f0 s.heap.size)) (F0 m 2 ls []) := by
  obtain ⟨hx, hb, hml, hown, hts, hr, hlk, hnm, hK, -⟩ := C
  unfold X_X1_clear_2 at hv
  refine lv_iload_n hx hb dX1_clear_2 rfl (lv_at hl 1 rfl) ?_
  refine lv_aload_n hx hb dX1_clear_3 rfl (lv_at hl 0 rfl) ?_
  obtain ⟨v1, ev1, hv⟩ := hv
  refine fw_get hx hb hts ii_X1_clear_X1 hown hK hS 1 ev1 rfl (by decide) mm_X1_clear_0 rfl dX1_clear_4 ?_
  refine lv_icmp_ge (tgt := 23) hx hb dX1_clear_7 (by decide) (fun c2 => ?_) (fun c2 => ?_)
  · have hv := hv.1 c2
    refine lv_aload_n hx hb dX1_clear_23 rfl (lv_at hl 0 rfl) ?_
    refine lv_iconst (v := 0) hx hb dX1_clear_24 (by decide) ?_
    obtain ⟨f3, ef3, hv⟩ := hv
    refine fw_put hx hb hts ii_X1_clear_X1 tyX1 tyX1_ok nmX1 hown hK hS 1 ef3 rfl (by decide) mm_X1_clear_0 rfl rfl rfl rfl dX1_clear_25 (fun H locs hS => ?_)
    exact fw_vret hx hb hr hlk hS hv dX1_clear_28
  · have hv := hv.2 c2
    refine lv_aload_n hx hb dX1_clear_10 rfl (lv_at hl 0 rfl) ?_
    obtain ⟨v4, ev4, hv⟩ := hv
    refine fw_get hx hb hts ii_X1_clear_X1 hown hK hS 0 ev4 rfl (by decide) mm_X1_clear_1 rfl dX1_clear_11 ?_
    refine lv_iload_n hx hb dX1_clear_14 rfl (lv_at hl 1 rfl) ?_
    refine lv_iconst (v := 0) hx hb dX1_clear_15 (by decide) ?_
    obtain ⟨f5, ef5, hv⟩ := hv
    refine fw_ast hx hb hK hS 0 rfl ef5 dX1_clear_16 (fun H locs hS => ?_)
    obtain ⟨x6, ex6⟩ : ∃ y : Int32, y = x_1 + (1) := ⟨_, rfl⟩
    have hv := hv x6 ex6
    refine lv_iinc (v := x6) (lv' := [(1, .int x6), (0, .ref a_0)]) hx hb dX1_clear_17 hl (k := 1) rfl (by rw [ex6]; rfl) (by decide) rfl (fun ls hl => ?_)
    refine lv_goto (tgt := 2) hx hb dX1_clear_20 (by decide) ?_
    exact hL2 _ _ _ _ _ _ hv (lv_sub hl [1, 0] rfl) hS
set_option maxRecDepth 100000 in
set_option maxHeartbeats 4000000 in
theorem T_X1_clear {E : cx} {h : Nat} {f : hm} {K : hm → Prop} (I2 : Nat → Nat → Int32 → hm → Prop) (h0 : X_X1_clear_0 E h f (fun (y_0 : Nat) (y_1 : Int32) (f : hm) => ∃ k : Nat, I2 k y_0 y_1 f) K) (h2 : ∀ (n : Nat) (a_0 : Nat) (x_1 : Int32) (f : hm), I2 n a_0 x_1 f → X_X1_clear_2 E a_0 x_1 f (fun (y_0 : Nat) (y_1 : Int32) (f : hm) => ∃ k : Nat, k < n ∧ I2 k y_0 y_1 f) K) : S_X1_clear E h f K := by
  refine MV_of (cc := cX1_clear) (maxL := 2) (ret := none) (by decide) rfl ?_
  intro p e s m below meth c C
  have hl := lv_entry ([.ref h]) (n := 2) (Nat.le_of_ble_eq_true rfl)
  rw [lg_entry_eq]
  generalize (lg_sl ([.ref h]) ++ List.replicate (2 - (lg_sl ([.ref h])).length) Slot.unset).toArray = ls at hl ⊢
  have hl : lv_has ls 2 [(0, .ref h)] := hl
  have hS := C.2.2.2.2.2.2.2.2.2
  have key : ∀ n : Nat, (∀ (a_0 : Nat) (x_1 : Int32) (g : hm) (ls : Array Slot) (H : Heap) (locs : List Loc), I2 n a_0 x_1 g → lv_has ls 2 [(0, .ref a_0), (1, .int x_1)] → wS E.2.1 vwCl (wA f s.heap.size) s.heap g H locs → W p E.1 e ({ frames := 0, cells := 0, slots := 0, locals := 0 }) s m ([.ref h] : List Value).toArray below meth c H locs 0 0 (MQ below (wQv f E.2.1 vwCl K s) ([.ref h] : List Value).toArray s 0 0 (wA f s.heap.size)) (F0 m 2 ls [])) := by
    refine st_ind (fun n ih => ?_)
    intro a_0 x_1 g ls H locs hI hl hS
    exact R_X1_clear_2 C a_0 x_1 g (h2 n a_0 x_1 g hI) hl hS (fun _ _ _ _ _ _ hI hl hS => by obtain ⟨k, hk, hI⟩ := hI; exact (ih k hk) _ _ _ _ _ _ hI hl hS)
  exact R_X1_clear_0 C h f h0 hl hS (fun _ _ _ _ _ _ hI hl hS => by obtain ⟨k, hI⟩ := hI; exact (key k) _ _ _ _ _ _ hI hl hS)
/-! ContinuedRatios$Natural.trimFrom(I)V -/
def S_X1_trimFrom (E : cx) (h : Nat) (p1 : Int32) (f : hm) (K : hm → Prop) : Prop := MV E.1 E.2.1 vwCl (eT E) yX1_trimFrom wsX1_trimFrom ({ frames := 0, cells := 0, slots := 0, locals := 0 }) [.ref h, .int p1] f K
theorem mm_X1_trimFrom_0 : Cond.fieldLink RX1 13 "ContinuedRatios$Natural" "length" "I" ∈ wsX1_trimFrom := by decide +kernel
theorem mm_X1_trimFrom_1 : Cond.fieldLink RX1 9 "ContinuedRatios$Natural" "limbs" "[I" ∈ wsX1_trimFrom := by decide +kernel
theorem ii_X1_trimFrom_X1 : ∀ w ∈ u_ws RX1 TX1 2, w ∈ wsX1_trimFrom := by decide +kernel
def X_X1_trimFrom_0 (E : cx) (h : Nat) (p1 : Int32) (f : hm) (L2 : Nat → Int32 → Int32 → hm → Prop) (K : hm → Prop) : Prop :=
  L2 h p1 p1 f
def X_X1_trimFrom_2 (E : cx) (a_0 : Nat) (x_1 : Int32) (x_2 : Int32) (f : hm) (L2 : Nat → Int32 → Int32 → hm → Prop) (K : hm → Prop) : Prop :=
  ((x_2 ≤ 0 → (∃ f2 : hm, wrV f a_0 1 1 (.int x_2) = some f2 ∧ K f2)) ∧ (¬ (x_2 ≤ 0) → (∃ v3 : Nat, rdV f a_0 1 0 = some (.ref v3) ∧ (∃ v4 : Int32, rdA (eI E) f v3 (x_2 - (1 : Int32)) = some v4 ∧ ((¬ v4 = 0 → (∃ f6 : hm, wrV f a_0 1 1 (.int x_2) = some f6 ∧ K f6)) ∧ (v4 = 0 → (∀ x7 : Int32, x7 = x_2 + (-1) → L2 a_0 x_1 x7 f)))))))
set_option maxRecDepth 100000 in
set_option maxHeartbeats 4000000 in
theorem R_X1_trimFrom_0 {E : cx} {p : Program} {e : Env} {s : State} {m : MethodId} {below : List Frame} {meth : Method} {c : Code} {f0 : hm} {zh : Nat} {zp1 : Int32} (C : wB E.2.1 vwCl (eT E) yX1_trimFrom cX1_trimFrom 3 none wsX1_trimFrom [.ref zh, .int zp1] f0 p s m meth c) (h : Nat) (p1 : Int32) (f : hm) {L2 : Nat → Int32 → Int32 → hm → Prop} {K : hm → Prop} (hv : X_X1_trimFrom_0 E h p1 f L2 K) {ls : Array Slot} {H : Heap} {locs : List Loc} (hl : lv_has ls 3 [(0, .ref h), (1, .int p1)]) (hS : wS E.2.1 vwCl (wA f0 s.heap.size) s.heap f H locs) (hL2 : ∀ (y_0 : Nat) (y_1 : Int32) (y_2 : Int32) (f : hm) (ls : Array Slot) (H : Heap) (locs : List Loc), L2 y_0 y_1 y_2 f → lv_has ls 3 [(0, .ref y_0), (1, .int y_1), (2, .int y_2)] → wS E.2.1 vwCl (wA f0 s.heap.size) s.heap f H locs → W p E.1 e ({ frames := 0, cells := 0, slots := 0, locals := 0 }) s m ([.ref zh, .int zp1] : List Value).toArray below meth c H locs 0 0 (MQ below (wQv f0 E.2.1 vwCl K s) ([.ref zh, .int zp1] : List Value).toArray s 0 0 (wA f0 s.heap.size)) (F0 m 2 ls [])) : W p E.1 e ({ frames := 0, cells := 0, slots := 0, locals := 0 }) s m ([.ref zh, .int zp1] : List Value).toArray below meth c H locs 0 0 (MQ below (wQv f0 E.2.1 vwCl K s) ([.ref zh, .int zp1] : List Value).toArray s 0 0 (wA f0 s.heap.size)) (F0 m 0 ls []) := by
  obtain ⟨hx, hb, hml, hown, hts, hr, hlk, hnm, hK, -⟩ := C
  unfold X_X1_trimFrom_0 at hv
  refine lv_iload_n hx hb dX1_trimFrom_0 rfl (lv_at hl 1 rfl) ?_
  refine lv_istore_n (lv' := [(2, .int p1), (0, .ref h), (1, .int p1)]) hx hb dX1_trimFrom_1 rfl hl (by decide) rfl (fun ls hl => ?_)
  exact hL2 _ _ _ _ _ _ _ hv (lv_sub hl [1, 2, 0] rfl) hS
set_option maxRecDepth 100000 in
set_option maxHeartbeats 4000000 in
theorem R_X1_trimFrom_2 {E : cx} {p : Program} {e : Env} {s : State} {m : MethodId} {below : List Frame} {meth : Method} {c : Code} {f0 : hm} {zh : Nat} {zp1 : Int32} (C : wB E.2.1 vwCl (eT E) yX1_trimFrom cX1_trimFrom 3 none wsX1_trimFrom [.ref zh, .int zp1] f0 p s m meth c) (a_0 : Nat) (x_1 : Int32) (x_2 : Int32) (f : hm) {L2 : Nat → Int32 → Int32 → hm → Prop} {K : hm → Prop} (hv : X_X1_trimFrom_2 E a_0 x_1 x_2 f L2 K) {ls : Array Slot} {H : Heap} {locs : List Loc} (hl : lv_has ls 3 [(0, .ref a_0), (1, .int x_1), (2, .int x_2)]) (hS : wS E.2.1 vwCl (wA f0 s.heap.size) s.heap f H locs) (hL2 : ∀ (y_0 : Nat) (y_1 : Int32) (y_2 : Int32) (f : hm) (ls : Array Slot) (H : Heap) (locs : List Loc), L2 y_0 y_1 y_2 f → lv_has ls 3 [(0, .ref y_0), (1, .int y_1), (2, .int y_2)] → wS E.2.1 vwCl (wA f0 s.heap.size) s.heap f H locs → W p E.1 e ({ frames := 0, cells := 0, slots := 0, locals := 0 }) s m ([.ref zh, .int zp1] : List Value).toArray below meth c H locs 0 0 (MQ below (wQv f0 E.2.1 vwCl K s) ([.ref zh, .int zp1] : List Value).toArray s 0 0 (wA f0 s.heap.size)) (F0 m 2 ls [])) : W p E.1 e ({ frames := 0, cells := 0, slots := 0, locals := 0 }) s m ([.ref zh, .int zp1] : List Value).toArray below meth c H locs 0 0 (MQ below (wQv f0 E.2.1 vwCl K s) ([.ref zh, .int zp1] : List Value).toArray s 0 0 (wA f0 s.heap.size)) (F0 m 2 ls []) := by
  obtain ⟨hx, hb, hml, hown, hts, hr, hlk, hnm, hK, -⟩ := C
  unfold X_X1_trimFrom_2 at hv
  refine lv_iload_n hx hb dX1_trimFrom_2 rfl (lv_at hl 2 rfl) ?_
  refine lv_if_le (tgt := 23) hx hb dX1_trimFrom_3 (by decide) (fun c1 => ?_) (fun c1 => ?_)
  · have hv := hv.1 c1
    refine lv_aload_n hx hb dX1_trimFrom_23 rfl (lv_at hl 0 rfl) ?_
    refine lv_iload_n hx hb dX1_trimFrom_24 rfl (lv_at hl 2 rfl) ?_
    obtain ⟨f2, ef2, hv⟩ := hv
    refine fw_put hx hb hts ii_X1_trimFrom_X1 tyX1 tyX1_ok nmX1 hown hK hS 1 ef2 rfl (by decide) mm_X1_trimFrom_0 rfl rfl rfl rfl dX1_trimFrom_25 (fun H locs hS => ?_)
    exact fw_vret hx hb hr hlk hS hv dX1_trimFrom_28
  · have hv := hv.2 c1
    refine lv_aload_n hx hb dX1_trimFrom_6 rfl (lv_at hl 0 rfl) ?_
    obtain ⟨v3, ev3, hv⟩ := hv
    refine fw_get hx hb hts ii_X1_trimFrom_X1 hown hK hS 0 ev3 rfl (by decide) mm_X1_trimFrom_1 rfl dX1_trimFrom_7 ?_
    refine lv_iload_n hx hb dX1_trimFrom_10 rfl (lv_at hl 2 rfl) ?_
    refine lv_iconst (v := 1) hx hb dX1_trimFrom_11 (by decide) ?_
    refine lv_isub hx hb dX1_trimFrom_12 ?_
    obtain ⟨v4, ev4, hv⟩ := hv
    refine fw_ald hx hb hK hS 0 rfl ev4 dX1_trimFrom_13 ?_
    refine lv_if_ne (tgt := 23) hx hb dX1_trimFrom_14 (by decide) (fun c5 => ?_) (fun c5 => ?_)
    · have hv := hv.1 c5
      refine lv_aload_n hx hb dX1_trimFrom_23 rfl (lv_at hl 0 rfl) ?_
      refine lv_iload_n hx hb dX1_trimFrom_24 rfl (lv_at hl 2 rfl) ?_
      obtain ⟨f6, ef6, hv⟩ := hv
      refine fw_put hx hb hts ii_X1_trimFrom_X1 tyX1 tyX1_ok nmX1 hown hK hS 1 ef6 rfl (by decide) mm_X1_trimFrom_0 rfl rfl rfl rfl dX1_trimFrom_25 (fun H locs hS => ?_)
      exact fw_vret hx hb hr hlk hS hv dX1_trimFrom_28
    · have hv := hv.2 c5
      obtain ⟨x7, ex7⟩ : ∃ y : Int32, y = x_2 + (-1) := ⟨_, rfl⟩
      have hv := hv x7 ex7
      refine lv_iinc (v := x7) (lv' := [(2, .int x7), (0, .ref a_0), (1, .int x_1)]) hx hb dX1_trimFrom_17 hl (k := 2) rfl (by rw [ex7]; rfl) (by decide) rfl (fun ls hl => ?_)
      refine lv_goto (tgt := 2) hx hb dX1_trimFrom_20 (by decide) ?_
      exact hL2 _ _ _ _ _ _ _ hv (lv_sub hl [1, 2, 0] rfl) hS
set_option maxRecDepth 100000 in
set_option maxHeartbeats 4000000 in
theorem T_X1_trimFrom {E : cx} {h : Nat} {p1 : Int32} {f : hm} {K : hm → Prop} (I2 : Nat → Nat → Int32 → Int32 → hm → Prop) (h0 : X_X1_trimFrom_0 E h p1 f (fun (y_0 : Nat) (y_1 : Int32) (y_2 : Int32) (f : hm) => ∃ k : Nat, I2 k y_0 y_1 y_2 f) K) (h2 : ∀ (n : Nat) (a_0 : Nat) (x_1 : Int32) (x_2 : Int32) (f : hm), I2 n a_0 x_1 x_2 f → X_X1_trimFrom_2 E a_0 x_1 x_2 f (fun (y_0 : Nat) (y_1 : Int32) (y_2 : Int32) (f : hm) => ∃ k : Nat, k < n ∧ I2 k y_0 y_1 y_2 f) K) : S_X1_trimFrom E h p1 f K := by
  refine MV_of (cc := cX1_trimFrom) (maxL := 3) (ret := none) (by decide) rfl ?_
  intro p e s m below meth c C
  have hl := lv_entry ([.ref h, .int p1]) (n := 3) (Nat.le_of_ble_eq_true rfl)
  rw [lg_entry_eq]
  generalize (lg_sl ([.ref h, .int p1]) ++ List.replicate (3 - (lg_sl ([.ref h, .int p1])).length) Slot.unset).toArray = ls at hl ⊢
  have hl : lv_has ls 3 [(0, .ref h), (1, .int p1)] := hl
  have hS := C.2.2.2.2.2.2.2.2.2
  have key : ∀ n : Nat, (∀ (a_0 : Nat) (x_1 : Int32) (x_2 : Int32) (g : hm) (ls : Array Slot) (H : Heap) (locs : List Loc), I2 n a_0 x_1 x_2 g → lv_has ls 3 [(0, .ref a_0), (1, .int x_1), (2, .int x_2)] → wS E.2.1 vwCl (wA f s.heap.size) s.heap g H locs → W p E.1 e ({ frames := 0, cells := 0, slots := 0, locals := 0 }) s m ([.ref h, .int p1] : List Value).toArray below meth c H locs 0 0 (MQ below (wQv f E.2.1 vwCl K s) ([.ref h, .int p1] : List Value).toArray s 0 0 (wA f s.heap.size)) (F0 m 2 ls [])) := by
    refine st_ind (fun n ih => ?_)
    intro a_0 x_1 x_2 g ls H locs hI hl hS
    exact R_X1_trimFrom_2 C a_0 x_1 x_2 g (h2 n a_0 x_1 x_2 g hI) hl hS (fun _ _ _ _ _ _ _ hI hl hS => by obtain ⟨k, hk, hI⟩ := hI; exact (ih k hk) _ _ _ _ _ _ _ hI hl hS)
  exact R_X1_trimFrom_0 C h p1 f h0 hl hS (fun _ _ _ _ _ _ _ hI hl hS => by obtain ⟨k, hI⟩ := hI; exact (key k) _ _ _ _ _ _ _ hI hl hS)
/-! ContinuedRatios$Natural.become(J)V -/
def S_X1_become (E : cx) (h : Nat) (p1 : Int64) (f : hm) (K : hm → Prop) : Prop := MV E.1 E.2.1 vwCl (eT E) yX1_become wsX1_become ({ frames := 1, cells := 0, slots := 0, locals := 22 }) [.ref h, .long p1] f K
theorem mm_X1_become_0 : Cond.fieldLink RX1 9 "ContinuedRatios$Natural" "limbs" "[I" ∈ wsX1_become := by decide +kernel
theorem ii_X1_become_X1 : ∀ w ∈ u_ws RX1 TX1 2, w ∈ wsX1_become := by decide +kernel
def X_X1_become_0 (E : cx) (h : Nat) (p1 : Int64) (f : hm)  (K : hm → Prop) : Prop :=
  (isO f h 1 ∧ S_X1_clear E h f (fun (f2 : hm) => (∃ v3 : Nat, rdV f2 h 1 0 = some (.ref v3) ∧ (∃ f4 : hm, wrA (eI E) f2 v3 (0 : Int32) p1.toInt32 = some f4 ∧ (isO f4 h 1 ∧ S_X1_trimFrom E h (1 : Int32) f4 (fun (f6 : hm) => K f6))))))
set_option maxRecDepth 100000 in
set_option maxHeartbeats 4000000 in
theorem R_X1_become_0 {E : cx} {p : Program} {e : Env} {s : State} {m : MethodId} {below : List Frame} {meth : Method} {c : Code} {f0 : hm} {zh : Nat} {zp1 : Int64} (C : wB E.2.1 vwCl (eT E) yX1_become cX1_become 3 none wsX1_become [.ref zh, .long zp1] f0 p s m meth c) (h : Nat) (p1 : Int64) (f : hm)  {K : hm → Prop} (hv : X_X1_become_0 E h p1 f  K) {ls : Array Slot} {H : Heap} {locs : List Loc} (hl : lv_has ls 3 [(0, .ref h), (1, .long p1)]) (hS : wS E.2.1 vwCl (wA f0 s.heap.size) s.heap f H locs)  : W p E.1 e ({ frames := 1, cells := 0, slots := 0, locals := 22 }) s m ([.ref zh, .long zp1] : List Value).toArray below meth c H locs 0 0 (MQ below (wQv f0 E.2.1 vwCl K s) ([.ref zh, .long zp1] : List Value).toArray s 0 0 (wA f0 s.heap.size)) (F0 m 0 ls []) := by
  obtain ⟨hx, hb, hml, hown, hts, hr, hlk, hnm, hK, -⟩ := C
  unfold X_X1_become_0 at hv
  refine lv_aload_n hx hb dX1_become_0 rfl (lv_at hl 0 rfl) ?_
  obtain ⟨ho1, hv⟩ := hv
  refine fw_callVv hx hb hml hown hts hK hS [] [] hv gX1_become_X1_clear rfl rfl rfl 0 (by decide +kernel) ⟨Nat.le_of_ble_eq_true rfl, Nat.le_of_ble_eq_true rfl⟩ rfl rfl ho1 rfl hl.1 rfl (Nat.le_of_ble_eq_true rfl) dX1_become_1 ⟨Nat.zero_le _, Nat.zero_le _⟩ (fun f2 H locs hv hS => ?_)
  refine lv_aload_n hx hb dX1_become_4 rfl (lv_at hl 0 rfl) ?_
  obtain ⟨v3, ev3, hv⟩ := hv
  refine fw_get hx hb hts ii_X1_become_X1 hown hK hS 0 ev3 rfl (by decide) mm_X1_become_0 rfl dX1_become_5 ?_
  refine lv_iconst (v := 0) hx hb dX1_become_8 (by decide) ?_
  refine lv_lload_n hx hb dX1_become_9 rfl (lv_at hl 1 rfl) ?_
  refine lv_l2i hx hb dX1_become_10 rfl ?_
  obtain ⟨f4, ef4, hv⟩ := hv
  refine fw_ast hx hb hK hS 0 rfl ef4 dX1_become_11 (fun H locs hS => ?_)
  refine lv_aload_n hx hb dX1_become_12 rfl (lv_at hl 0 rfl) ?_
  refine lv_iconst (v := 1) hx hb dX1_become_13 (by decide) ?_
  obtain ⟨ho5, hv⟩ := hv
  refine fw_callVv hx hb hml hown hts hK hS [.int (1 : Int32)] [] hv gX1_become_X1_trimFrom rfl rfl rfl 1 (by decide +kernel) ⟨Nat.le_of_ble_eq_true rfl, Nat.le_of_ble_eq_true rfl⟩ rfl rfl ho5 rfl hl.1 rfl (Nat.le_of_ble_eq_true rfl) dX1_become_14 ⟨Nat.zero_le _, Nat.zero_le _⟩ (fun f6 H locs hv hS => ?_)
  exact fw_vret hx hb hr hlk hS hv dX1_become_17
set_option maxRecDepth 100000 in
set_option maxHeartbeats 4000000 in
theorem T_X1_become {E : cx} {h : Nat} {p1 : Int64} {f : hm} {K : hm → Prop}  (h0 : X_X1_become_0 E h p1 f  K) : S_X1_become E h p1 f K := by
  refine MV_of (cc := cX1_become) (maxL := 3) (ret := none) (by decide) rfl ?_
  intro p e s m below meth c C
  have hl := lv_entry ([.ref h, .long p1]) (n := 3) (Nat.le_of_ble_eq_true rfl)
  rw [lg_entry_eq]
  generalize (lg_sl ([.ref h, .long p1]) ++ List.replicate (3 - (lg_sl ([.ref h, .long p1])).length) Slot.unset).toArray = ls at hl ⊢
  have hl : lv_has ls 3 [(0, .ref h), (1, .long p1)] := hl
  have hS := C.2.2.2.2.2.2.2.2.2
  exact R_X1_become_0 C h p1 f h0 hl hS
/-! ContinuedRatios$Natural.become(LContinuedRatios$Natural;)V -/
def S_X1_become_ (E : cx) (h : Nat) (p1 : Nat) (f : hm) (K : hm → Prop) : Prop := MV E.1 E.2.1 vwCl (eT E) yX1_become_ wsX1_become_ ({ frames := 1, cells := 0, slots := 0, locals := 21 }) [.ref h, .ref p1] f K
theorem mm_X1_become__0 : Cond.fieldLink RX1 13 "ContinuedRatios$Natural" "length" "I" ∈ wsX1_become_ := by decide +kernel
theorem mm_X1_become__1 : Cond.methodLink RX1 32 Lib.Math.max.name ∈ wsX1_become_ := by decide +kernel
theorem mm_X1_become__2 : Cond.static Lib.Math.max.name ∈ wsX1_become_ := by decide +kernel
theorem mm_X1_become__3 : Cond.initialized "java/lang/Math" ∈ wsX1_become_ := by decide +kernel
theorem mm_X1_become__4 : Cond.code Lib.Math.max.name Lib.Math.max.code 2 (some .int) ∈ wsX1_become_ := by decide +kernel
theorem mm_X1_become__5 : Cond.fieldLink RX1 9 "ContinuedRatios$Natural" "limbs" "[I" ∈ wsX1_become_ := by decide +kernel
theorem ii_X1_become__X1 : ∀ w ∈ u_ws RX1 TX1 2, w ∈ wsX1_become_ := by decide +kernel
def X_X1_become__0 (E : cx) (h : Nat) (p1 : Nat) (f : hm) (L14 : Nat → Nat → Int32 → hm → Prop) (K : hm → Prop) : Prop :=
  (∃ v1 : Int32, rdV f h 1 1 = some (.int v1) ∧ (∃ v2 : Int32, rdV f p1 1 1 = some (.int v2) ∧ (∀ x3 : Int32, x3 = ((if v1 < v2 then v2 else v1) - (1 : Int32)) → L14 h p1 x3 f)))
def X_X1_become__14 (E : cx) (a_0 : Nat) (a_1 : Nat) (x_2 : Int32) (f : hm) (L14 : Nat → Nat → Int32 → hm → Prop) (K : hm → Prop) : Prop :=
  ((x_2 < 0 → (∃ v2 : Int32, rdV f a_1 1 1 = some (.int v2) ∧ (∃ f3 : hm, wrV f a_0 1 1 (.int v2) = some f3 ∧ K f3))) ∧ (¬ (x_2 < 0) → (∃ v4 : Nat, rdV f a_0 1 0 = some (.ref v4) ∧ (∃ v5 : Nat, rdV f a_1 1 0 = some (.ref v5) ∧ (∃ v6 : Int32, rdA (eI E) f v5 x_2 = some v6 ∧ (∃ f7 : hm, wrA (eI E) f v4 x_2 v6 = some f7 ∧ (∀ x8 : Int32, x8 = x_2 + (-1) → L14 a_0 a_1 x8 f7)))))))
set_option maxRecDepth 100000 in
set_option maxHeartbeats 4000000 in
theorem R_X1_become__0 {E : cx} {p : Program} {e : Env} {s : State} {m : MethodId} {below : List Frame} {meth : Method} {c : Code} {f0 : hm} {zh : Nat} {zp1 : Nat} (C : wB E.2.1 vwCl (eT E) yX1_become_ cX1_become_ 3 none wsX1_become_ [.ref zh, .ref zp1] f0 p s m meth c) (h : Nat) (p1 : Nat) (f : hm) {L14 : Nat → Nat → Int32 → hm → Prop} {K : hm → Prop} (hv : X_X1_become__0 E h p1 f L14 K) {ls : Array Slot} {H : Heap} {locs : List Loc} (hl : lv_has ls 3 [(0, .ref h), (1, .ref p1)]) (hS : wS E.2.1 vwCl (wA f0 s.heap.size) s.heap f H locs) (hL14 : ∀ (y_0 : Nat) (y_1 : Nat) (y_2 : Int32) (f : hm) (ls : Array Slot) (H : Heap) (locs : List Loc), L14 y_0 y_1 y_2 f → lv_has ls 3 [(0, .ref y_0), (1, .ref y_1), (2, .int y_2)] → wS E.2.1 vwCl (wA f0 s.heap.size) s.heap f H locs → W p E.1 e ({ frames := 1, cells := 0, slots := 0, locals := 21 }) s m ([.ref zh, .ref zp1] : List Value).toArray below meth c H locs 0 0 (MQ below (wQv f0 E.2.1 vwCl K s) ([.ref zh, .ref zp1] : List Value).toArray s 0 0 (wA f0 s.heap.size)) (F0 m 14 ls [])) : W p E.1 e ({ frames := 1, cells := 0, slots := 0, locals := 21 }) s m ([.ref zh, .ref zp1] : List Value).toArray below meth c H locs 0 0 (MQ below (wQv f0 E.2.1 vwCl K s) ([.ref zh, .ref zp1] : List Value).toArray s 0 0 (wA f0 s.heap.size)) (F0 m 0 ls []) := by
  obtain ⟨hx, hb, hml, hown, hts, hr, hlk, hnm, hK, -⟩ := C
  unfold X_X1_become__0 at hv
  refine lv_aload_n hx hb dX1_become__0 rfl (lv_at hl 0 rfl) ?_
  obtain ⟨v1, ev1, hv⟩ := hv
  refine fw_get hx hb hts ii_X1_become__X1 hown hK hS 1 ev1 rfl (by decide) mm_X1_become__0 rfl dX1_become__1 ?_
  refine lv_aload_n hx hb dX1_become__4 rfl (lv_at hl 1 rfl) ?_
  obtain ⟨v2, ev2, hv⟩ := hv
  refine fw_get hx hb hts ii_X1_become__X1 hown hK hS 1 ev2 rfl (by decide) mm_X1_become__0 rfl dX1_become__5 ?_
  refine va_mmax hx hb (hml.trans hl.1.symm) hown (hts _ mm_X1_become__1) (hts _ mm_X1_become__2) (hts _ mm_X1_become__3) (hts _ mm_X1_become__4) (by decide) (Nat.le_of_ble_eq_true rfl) (Nat.zero_le _) (Nat.zero_le _) dX1_become__8 ?_
  refine lv_iconst (v := 1) hx hb dX1_become__11 (by decide) ?_
  refine lv_isub hx hb dX1_become__12 ?_
  refine lv_topi (fun x3 ex3 => ?_)
  have hv := hv x3 ex3
  refine lv_istore_n (lv' := [(2, .int x3), (0, .ref h), (1, .ref p1)]) hx hb dX1_become__13 rfl hl (by decide) rfl (fun ls hl => ?_)
  exact hL14 _ _ _ _ _ _ _ hv (lv_sub hl [1, 2, 0] rfl) hS
set_option maxRecDepth 100000 in
set_option maxHeartbeats 4000000 in
theorem R_X1_become__14 {E : cx} {p : Program} {e : Env} {s : State} {m : MethodId} {below : List Frame} {meth : Method} {c : Code} {f0 : hm} {zh : Nat} {zp1 : Nat} (C : wB E.2.1 vwCl (eT E) yX1_become_ cX1_become_ 3 none wsX1_become_ [.ref zh, .ref zp1] f0 p s m meth c) (a_0 : Nat) (a_1 : Nat) (x_2 : Int32) (f : hm) {L14 : Nat → Nat → Int32 → hm → Prop} {K : hm → Prop} (hv : X_X1_become__14 E a_0 a_1 x_2 f L14 K) {ls : Array Slot} {H : Heap} {locs : List Loc} (hl : lv_has ls 3 [(0, .ref a_0), (1, .ref a_1), (2, .int x_2)]) (hS : wS E.2.1 vwCl (wA f0 s.heap.size) s.heap f H locs) (hL14 : ∀ (y_0 : Nat) (y_1 : Nat) (y_2 : Int32) (f : hm) (ls : Array Slot) (H : Heap) (locs : List Loc), L14 y_0 y_1 y_2 f → lv_has ls 3 [(0, .ref y_0), (1, .ref y_1), (2, .int y_2)] → wS E.2.1 vwCl (wA f0 s.heap.size) s.heap f H locs → W p E.1 e ({ frames := 1, cells := 0, slots := 0, locals := 21 }) s m ([.ref zh, .ref zp1] : List Value).toArray below meth c H locs 0 0 (MQ below (wQv f0 E.2.1 vwCl K s) ([.ref zh, .ref zp1] : List Value).toArray s 0 0 (wA f0 s.heap.size)) (F0 m 14 ls [])) : W p E.1 e ({ frames := 1, cells := 0, slots := 0, locals := 21 }) s m ([.ref zh, .ref zp1] : List Value).toArray below meth c H locs 0 0 (MQ below (wQv f0 E.2.1 vwCl K s) ([.ref zh, .ref zp1] : List Value).toArray s 0 0 (wA f0 s.heap.size)) (F0 m 14 ls []) := by
  obtain ⟨hx, hb, hml, hown, hts, hr, hlk, hnm, hK, -⟩ := C
  unfold X_X1_become__14 at hv
  refine lv_iload_n hx hb dX1_become__14 rfl (lv_at hl 2 rfl) ?_
  refine lv_if_lt (tgt := 36) hx hb dX1_become__15 (by decide) (fun c1 => ?_) (fun c1 => ?_)
  · have hv := hv.1 c1
    refine lv_aload_n hx hb dX1_become__36 rfl (lv_at hl 0 rfl) ?_
    refine lv_aload_n hx hb dX1_become__37 rfl (lv_at hl 1 rfl) ?_
    obtain ⟨v2, ev2, hv⟩ := hv
    refine fw_get hx hb hts ii_X1_become__X1 hown hK hS 1 ev2 rfl (by decide) mm_X1_become__0 rfl dX1_become__38 ?_
    obtain ⟨f3, ef3, hv⟩ := hv
    refine fw_put hx hb hts ii_X1_become__X1 tyX1 tyX1_ok nmX1 hown hK hS 1 ef3 rfl (by decide) mm_X1_become__0 rfl rfl rfl rfl dX1_become__41 (fun H locs hS => ?_)
    exact fw_vret hx hb hr hlk hS hv dX1_become__44
  · have hv := hv.2 c1
    refine lv_aload_n hx hb dX1_become__18 rfl (lv_at hl 0 rfl) ?_
    obtain ⟨v4, ev4, hv⟩ := hv
    refine fw_get hx hb hts ii_X1_become__X1 hown hK hS 0 ev4 rfl (by decide) mm_X1_become__5 rfl dX1_become__19 ?_
    refine lv_iload_n hx hb dX1_become__22 rfl (lv_at hl 2 rfl) ?_
    refine lv_aload_n hx hb dX1_become__23 rfl (lv_at hl 1 rfl) ?_
    obtain ⟨v5, ev5, hv⟩ := hv
    refine fw_get hx hb hts ii_X1_become__X1 hown hK hS 0 ev5 rfl (by decide) mm_X1_become__5 rfl dX1_become__24 ?_
    refine lv_iload_n hx hb dX1_become__27 rfl (lv_at hl 2 rfl) ?_
    obtain ⟨v6, ev6, hv⟩ := hv
    refine fw_ald hx hb hK hS 0 rfl ev6 dX1_become__28 ?_
    obtain ⟨f7, ef7, hv⟩ := hv
    refine fw_ast hx hb hK hS 0 rfl ef7 dX1_become__29 (fun H locs hS => ?_)
    obtain ⟨x8, ex8⟩ : ∃ y : Int32, y = x_2 + (-1) := ⟨_, rfl⟩
    have hv := hv x8 ex8
    refine lv_iinc (v := x8) (lv' := [(2, .int x8), (0, .ref a_0), (1, .ref a_1)]) hx hb dX1_become__30 hl (k := 2) rfl (by rw [ex8]; rfl) (by decide) rfl (fun ls hl => ?_)
    refine lv_goto (tgt := 14) hx hb dX1_become__33 (by decide) ?_
    exact hL14 _ _ _ _ _ _ _ hv (lv_sub hl [1, 2, 0] rfl) hS
set_option maxRecDepth 100000 in
set_option maxHeartbeats 4000000 in
theorem T_X1_become_ {E : cx} {h : Nat} {p1 : Nat} {f : hm} {K : hm → Prop} (I14 : Nat → Nat → Nat → Int32 → hm → Prop) (h0 : X_X1_become__0 E h p1 f (fun (y_0 : Nat) (y_1 : Nat) (y_2 : Int32) (f : hm) => ∃ k : Nat, I14 k y_0 y_1 y_2 f) K) (h14 : ∀ (n : Nat) (a_0 : Nat) (a_1 : Nat) (x_2 : Int32) (f : hm), I14 n a_0 a_1 x_2 f → X_X1_become__14 E a_0 a_1 x_2 f (fun (y_0 : Nat) (y_1 : Nat) (y_2 : Int32) (f : hm) => ∃ k : Nat, k < n ∧ I14 k y_0 y_1 y_2 f) K) : S_X1_become_ E h p1 f K := by
  refine MV_of (cc := cX1_become_) (maxL := 3) (ret := none) (by decide) rfl ?_
  intro p e s m below meth c C
  have hl := lv_entry ([.ref h, .ref p1]) (n := 3) (Nat.le_of_ble_eq_true rfl)
  rw [lg_entry_eq]
  generalize (lg_sl ([.ref h, .ref p1]) ++ List.replicate (3 - (lg_sl ([.ref h, .ref p1])).length) Slot.unset).toArray = ls at hl ⊢
  have hl : lv_has ls 3 [(0, .ref h), (1, .ref p1)] := hl
  have hS := C.2.2.2.2.2.2.2.2.2
  have key : ∀ n : Nat, (∀ (a_0 : Nat) (a_1 : Nat) (x_2 : Int32) (g : hm) (ls : Array Slot) (H : Heap) (locs : List Loc), I14 n a_0 a_1 x_2 g → lv_has ls 3 [(0, .ref a_0), (1, .ref a_1), (2, .int x_2)] → wS E.2.1 vwCl (wA f s.heap.size) s.heap g H locs → W p E.1 e ({ frames := 1, cells := 0, slots := 0, locals := 21 }) s m ([.ref h, .ref p1] : List Value).toArray below meth c H locs 0 0 (MQ below (wQv f E.2.1 vwCl K s) ([.ref h, .ref p1] : List Value).toArray s 0 0 (wA f s.heap.size)) (F0 m 14 ls [])) := by
    refine st_ind (fun n ih => ?_)
    intro a_0 a_1 x_2 g ls H locs hI hl hS
    exact R_X1_become__14 C a_0 a_1 x_2 g (h14 n a_0 a_1 x_2 g hI) hl hS (fun _ _ _ _ _ _ _ hI hl hS => by obtain ⟨k, hk, hI⟩ := hI; exact (ih k hk) _ _ _ _ _ _ _ hI hl hS)
  exact R_X1_become__0 C h p1 f h0 hl hS (fun _ _ _ _ _ _ _ hI hl hS => by obtain ⟨k, hI⟩ := hI; exact (key k) _ _ _ _ _ _ _ hI hl hS)
/-! ContinuedRatios$Natural.compareWith(LContinuedRatios$Natural;)I -/
def S_X1_compareWith (E : cx) (h : Nat) (p1 : Nat) (f : hm) (K : Int32 → hm → Prop) : Prop := MI E.1 E.2.1 vwCl (eT E) yX1_compareWith wsX1_compareWith ({ frames := 1, cells := 0, slots := 0, locals := 21 }) [.ref h, .ref p1] f K
theorem mm_X1_compareWith_0 : Cond.fieldLink RX1 13 "ContinuedRatios$Natural" "length" "I" ∈ wsX1_compareWith := by decide +kernel
theorem mm_X1_compareWith_1 : Cond.fieldLink RX1 9 "ContinuedRatios$Natural" "limbs" "[I" ∈ wsX1_compareWith := by decide +kernel
theorem ii_X1_compareWith_X1 : ∀ w ∈ u_ws RX1 TX1 2, w ∈ wsX1_compareWith := by decide +kernel
def X_X1_compareWith_0 (E : cx) (h : Nat) (p1 : Nat) (f : hm) (L35 : Nat → Nat → Int32 → hm → Prop) (K : Int32 → hm → Prop) : Prop :=
  (∃ v1 : Int32, rdV f h 1 1 = some (.int v1) ∧ (∃ v2 : Int32, rdV f p1 1 1 = some (.int v2) ∧ ((v1 = v2 → (∃ v4 : Int32, rdV f h 1 1 = some (.int v4) ∧ (∀ x5 : Int32, x5 = (v4 - (1 : Int32)) → L35 h p1 x5 f))) ∧ (¬ (v1 = v2) → (∃ v6 : Int32, rdV f h 1 1 = some (.int v6) ∧ (∃ v7 : Int32, rdV f p1 1 1 = some (.int v7) ∧ ((v7 ≤ v6 → K (1 : Int32) f) ∧ (¬ (v7 ≤ v6) → K (-1 : Int32) f))))))))
def X_X1_compareWith_35 (E : cx) (a_0 : Nat) (a_1 : Nat) (x_2 : Int32) (f : hm) (L35 : Nat → Nat → Int32 → hm → Prop) (K : Int32 → hm → Prop) : Prop :=
  ((x_2 < 0 → K (0 : Int32) f) ∧ (¬ (x_2 < 0) → (∃ v2 : Nat, rdV f a_0 1 0 = some (.ref v2) ∧ (∃ v3 : Int32, rdA (eI E) f v2 x_2 = some v3 ∧ (∃ v4 : Nat, rdV f a_1 1 0 = some (.ref v4) ∧ (∃ v5 : Int32, rdA (eI E) f v4 x_2 = some v5 ∧ ((v3 = v5 → (∀ x7 : Int32, x7 = x_2 + (-1) → L35 a_0 a_1 x7 f)) ∧ (¬ (v3 = v5) → (isO f a_0 1 ∧ S_X1_limb E a_0 x_2 f (fun (r10 : Int64) (f9 : hm) => (isO f9 a_1 1 ∧ S_X1_limb E a_1 x_2 f9 (fun (r13 : Int64) (f12 : hm) => ((0 ≤ (lg_cmp r10 r13) → K (1 : Int32) f12) ∧ (¬ (0 ≤ (lg_cmp r10 r13)) → K (-1 : Int32) f12))))))))))))))
set_option maxRecDepth 100000 in
set_option maxHeartbeats 4000000 in
theorem R_X1_compareWith_0 {E : cx} {p : Program} {e : Env} {s : State} {m : MethodId} {below : List Frame} {meth : Method} {c : Code} {f0 : hm} {zh : Nat} {zp1 : Nat} (C : wB E.2.1 vwCl (eT E) yX1_compareWith cX1_compareWith 3 (some .int) wsX1_compareWith [.ref zh, .ref zp1] f0 p s m meth c) (h : Nat) (p1 : Nat) (f : hm) {L35 : Nat → Nat → Int32 → hm → Prop} {K : Int32 → hm → Prop} (hv : X_X1_compareWith_0 E h p1 f L35 K) {ls : Array Slot} {H : Heap} {locs : List Loc} (hl : lv_has ls 3 [(0, .ref h), (1, .ref p1)]) (hS : wS E.2.1 vwCl (wA f0 s.heap.size) s.heap f H locs) (hL35 : ∀ (y_0 : Nat) (y_1 : Nat) (y_2 : Int32) (f : hm) (ls : Array Slot) (H : Heap) (locs : List Loc), L35 y_0 y_1 y_2 f → lv_has ls 3 [(0, .ref y_0), (1, .ref y_1), (2, .int y_2)] → wS E.2.1 vwCl (wA f0 s.heap.size) s.heap f H locs → W p E.1 e ({ frames := 1, cells := 0, slots := 0, locals := 21 }) s m ([.ref zh, .ref zp1] : List Value).toArray below meth c H locs 0 0 (MQ below (wQi f0 E.2.1 vwCl K s) ([.ref zh, .ref zp1] : List Value).toArray s 0 0 (wA f0 s.heap.size)) (F0 m 35 ls [])) : W p E.1 e ({ frames := 1, cells := 0, slots := 0, locals := 21 }) s m ([.ref zh, .ref zp1] : List Value).toArray below meth c H locs 0 0 (MQ below (wQi f0 E.2.1 vwCl K s) ([.ref zh, .ref zp1] : List Value).toArray s 0 0 (wA f0 s.heap.size)) (F0 m 0 ls []) := by
  obtain ⟨hx, hb, hml, hown, hts, hr, hlk, hnm, hK, -⟩ := C
  unfold X_X1_compareWith_0 at hv
  refine lv_aload_n hx hb dX1_compareWith_0 rfl (lv_at hl 0 rfl) ?_
  obtain ⟨v1, ev1, hv⟩ := hv
  refine fw_get hx hb hts ii_X1_compareWith_X1 hown hK hS 1 ev1 rfl (by decide) mm_X1_compareWith_0 rfl dX1_compareWith_1 ?_
  refine lv_aload_n hx hb dX1_compareWith_4 rfl (lv_at hl 1 rfl) ?_
  obtain ⟨v2, ev2, hv⟩ := hv
  refine fw_get hx hb hts ii_X1_compareWith_X1 hown hK hS 1 ev2 rfl (by decide) mm_X1_compareWith_0 rfl dX1_compareWith_5 ?_
  refine lv_icmp_eq (tgt := 28) hx hb dX1_compareWith_8 (by decide) (fun c3 => ?_) (fun c3 => ?_)
  · have hv := hv.1 c3
    refine lv_aload_n hx hb dX1_compareWith_28 rfl (lv_at hl 0 rfl) ?_
    obtain ⟨v4, ev4, hv⟩ := hv
    refine fw_get hx hb hts ii_X1_compareWith_X1 hown hK hS 1 ev4 rfl (by decide) mm_X1_compareWith_0 rfl dX1_compareWith_29 ?_
    refine lv_iconst (v := 1) hx hb dX1_compareWith_32 (by decide) ?_
    refine lv_isub hx hb dX1_compareWith_33 ?_
    refine lv_topi (fun x5 ex5 => ?_)
    have hv := hv x5 ex5
    refine lv_istore_n (lv' := [(2, .int x5), (0, .ref h), (1, .ref p1)]) hx hb dX1_compareWith_34 rfl hl (by decide) rfl (fun ls hl => ?_)
    exact hL35 _ _ _ _ _ _ _ hv (lv_sub hl [1, 2, 0] rfl) hS
  · have hv := hv.2 c3
    refine lv_aload_n hx hb dX1_compareWith_11 rfl (lv_at hl 0 rfl) ?_
    obtain ⟨v6, ev6, hv⟩ := hv
    refine fw_get hx hb hts ii_X1_compareWith_X1 hown hK hS 1 ev6 rfl (by decide) mm_X1_compareWith_0 rfl dX1_compareWith_12 ?_
    refine lv_aload_n hx hb dX1_compareWith_15 rfl (lv_at hl 1 rfl) ?_
    obtain ⟨v7, ev7, hv⟩ := hv
    refine fw_get hx hb hts ii_X1_compareWith_X1 hown hK hS 1 ev7 rfl (by decide) mm_X1_compareWith_0 rfl dX1_compareWith_16 ?_
    refine lv_icmp_ge (tgt := 26) hx hb dX1_compareWith_19 (by decide) (fun c8 => ?_) (fun c8 => ?_)
    · have hv := hv.1 c8
      refine lv_iconst (v := 1) hx hb dX1_compareWith_26 (by decide) ?_
      exact fw_iret hx hb hr hlk hS hv dX1_compareWith_27
    · have hv := hv.2 c8
      refine lv_iconst (v := (-1)) hx hb dX1_compareWith_22 (by decide) ?_
      refine lv_goto (tgt := 27) hx hb dX1_compareWith_23 (by decide) ?_
      exact fw_iret hx hb hr hlk hS hv dX1_compareWith_27
set_option maxRecDepth 100000 in
set_option maxHeartbeats 4000000 in
theorem R_X1_compareWith_35 {E : cx} {p : Program} {e : Env} {s : State} {m : MethodId} {below : List Frame} {meth : Method} {c : Code} {f0 : hm} {zh : Nat} {zp1 : Nat} (C : wB E.2.1 vwCl (eT E) yX1_compareWith cX1_compareWith 3 (some .int) wsX1_compareWith [.ref zh, .ref zp1] f0 p s m meth c) (a_0 : Nat) (a_1 : Nat) (x_2 : Int32) (f : hm) {L35 : Nat → Nat → Int32 → hm → Prop} {K : Int32 → hm → Prop} (hv : X_X1_compareWith_35 E a_0 a_1 x_2 f L35 K) {ls : Array Slot} {H : Heap} {locs : List Loc} (hl : lv_has ls 3 [(0, .ref a_0), (1, .ref a_1), (2, .int x_2)]) (hS : wS E.2.1 vwCl (wA f0 s.heap.size) s.heap f H locs) (hL35 : ∀ (y_0 : Nat) (y_1 : Nat) (y_2 : Int32) (f : hm) (ls : Array Slot) (H : Heap) (locs : List Loc), L35 y_0 y_1 y_2 f → lv_has ls 3 [(0, .ref y_0), (1, .ref y_1), (2, .int y_2)] → wS E.2.1 vwCl (wA f0 s.heap.size) s.heap f H locs → W p E.1 e ({ frames := 1, cells := 0, slots := 0, locals := 21 }) s m ([.ref zh, .ref zp1] : List Value).toArray below meth c H locs 0 0 (MQ below (wQi f0 E.2.1 vwCl K s) ([.ref zh, .ref zp1] : List Value).toArray s 0 0 (wA f0 s.heap.size)) (F0 m 35 ls [])) : W p E.1 e ({ frames := 1, cells := 0, slots := 0, locals := 21 }) s m ([.ref zh, .ref zp1] : List Value).toArray below meth c H locs 0 0 (MQ below (wQi f0 E.2.1 vwCl K s) ([.ref zh, .ref zp1] : List Value).toArray s 0 0 (wA f0 s.heap.size)) (F0 m 35 ls []) := by
  obtain ⟨hx, hb, hml, hown, hts, hr, hlk, hnm, hK, -⟩ := C
  unfold X_X1_compareWith_35 at hv
  refine lv_iload_n hx hb dX1_compareWith_35 rfl (lv_at hl 2 rfl) ?_
  refine lv_if_lt (tgt := 80) hx hb dX1_compareWith_36 (by decide) (fun c1 => ?_) (fun c1 => ?_)
  · have hv := hv.1 c1
    refine lv_iconst (v := 0) hx hb dX1_compareWith_80 (by decide) ?_
    exact fw_iret hx hb hr hlk hS hv dX1_compareWith_81
  · have hv := hv.2 c1
    refine lv_aload_n hx hb dX1_compareWith_39 rfl (lv_at hl 0 rfl) ?_
    obtain ⟨v2, ev2, hv⟩ := hv
    refine fw_get hx hb hts ii_X1_compareWith_X1 hown hK hS 0 ev2 rfl (by decide) mm_X1_compareWith_1 rfl dX1_compareWith_40 ?_
    refine lv_iload_n hx hb dX1_compareWith_43 rfl (lv_at hl 2 rfl) ?_
    obtain ⟨v3, ev3, hv⟩ := hv
    refine fw_ald hx hb hK hS 0 rfl ev3 dX1_compareWith_44 ?_
    refine lv_aload_n hx hb dX1_compareWith_45 rfl (lv_at hl 1 rfl) ?_
    obtain ⟨v4, ev4, hv⟩ := hv
    refine fw_get hx hb hts ii_X1_compareWith_X1 hown hK hS 0 ev4 rfl (by decide) mm_X1_compareWith_1 rfl dX1_compareWith_46 ?_
    refine lv_iload_n hx hb dX1_compareWith_49 rfl (lv_at hl 2 rfl) ?_
    obtain ⟨v5, ev5, hv⟩ := hv
    refine fw_ald hx hb hK hS 0 rfl ev5 dX1_compareWith_50 ?_
    refine lv_icmp_eq (tgt := 74) hx hb dX1_compareWith_51 (by decide) (fun c6 => ?_) (fun c6 => ?_)
    · have hv := hv.1 c6
      obtain ⟨x7, ex7⟩ : ∃ y : Int32, y = x_2 + (-1) := ⟨_, rfl⟩
      have hv := hv x7 ex7
      refine lv_iinc (v := x7) (lv' := [(2, .int x7), (0, .ref a_0), (1, .ref a_1)]) hx hb dX1_compareWith_74 hl (k := 2) rfl (by rw [ex7]; rfl) (by decide) rfl (fun ls hl => ?_)
      refine lv_goto (tgt := 35) hx hb dX1_compareWith_77 (by decide) ?_
      exact hL35 _ _ _ _ _ _ _ hv (lv_sub hl [1, 2, 0] rfl) hS
    · have hv := hv.2 c6
      refine lv_aload_n hx hb dX1_compareWith_54 rfl (lv_at hl 0 rfl) ?_
      refine lv_iload_n hx hb dX1_compareWith_55 rfl (lv_at hl 2 rfl) ?_
      obtain ⟨ho8, hv⟩ := hv
      refine fw_callVl hx hb hml hown hts hK hS [.int x_2] [] hv gX1_compareWith_X1_limb rfl rfl rfl 1 (by decide +kernel) ⟨Nat.le_of_ble_eq_true rfl, Nat.le_of_ble_eq_true rfl⟩ rfl rfl ho8 rfl hl.1 rfl (Nat.le_of_ble_eq_true rfl) dX1_compareWith_56 ⟨Nat.zero_le _, Nat.zero_le _⟩ (fun r10 f9 H locs hv hS => ?_)
      refine lv_aload_n hx hb dX1_compareWith_59 rfl (lv_at hl 1 rfl) ?_
      refine lv_iload_n hx hb dX1_compareWith_60 rfl (lv_at hl 2 rfl) ?_
      obtain ⟨ho11, hv⟩ := hv
      refine fw_callVl hx hb hml hown hts hK hS [.int x_2] [.long r10] hv gX1_compareWith_X1_limb rfl rfl rfl 1 (by decide +kernel) ⟨Nat.le_of_ble_eq_true rfl, Nat.le_of_ble_eq_true rfl⟩ rfl rfl ho11 rfl hl.1 rfl (Nat.le_of_ble_eq_true rfl) dX1_compareWith_61 ⟨Nat.zero_le _, Nat.zero_le _⟩ (fun r13 f12 H locs hv hS => ?_)
      refine W.lcmp hx hb dX1_compareWith_64 ?_
      refine lv_if_ge (tgt := 72) hx hb dX1_compareWith_65 (by decide) (fun c14 => ?_) (fun c14 => ?_)
      · have hv := hv.1 c14
        refine lv_iconst (v := 1) hx hb dX1_compareWith_72 (by decide) ?_
        exact fw_iret hx hb hr hlk hS hv dX1_compareWith_73
      · have hv := hv.2 c14
        refine lv_iconst (v := (-1)) hx hb dX1_compareWith_68 (by decide) ?_
        refine lv_goto (tgt := 73) hx hb dX1_compareWith_69 (by decide) ?_
        exact fw_iret hx hb hr hlk hS hv dX1_compareWith_73
set_option maxRecDepth 100000 in
set_option maxHeartbeats 4000000 in
theorem T_X1_compareWith {E : cx} {h : Nat} {p1 : Nat} {f : hm} {K : Int32 → hm → Prop} (I35 : Nat → Nat → Nat → Int32 → hm → Prop) (h0 : X_X1_compareWith_0 E h p1 f (fun (y_0 : Nat) (y_1 : Nat) (y_2 : Int32) (f : hm) => ∃ k : Nat, I35 k y_0 y_1 y_2 f) K) (h35 : ∀ (n : Nat) (a_0 : Nat) (a_1 : Nat) (x_2 : Int32) (f : hm), I35 n a_0 a_1 x_2 f → X_X1_compareWith_35 E a_0 a_1 x_2 f (fun (y_0 : Nat) (y_1 : Nat) (y_2 : Int32) (f : hm) => ∃ k : Nat, k < n ∧ I35 k y_0 y_1 y_2 f) K) : S_X1_compareWith E h p1 f K := by
  refine MI_of (cc := cX1_compareWith) (maxL := 3) (ret := (some .int)) (by decide) rfl ?_
  intro p e s m below meth c C
  have hl := lv_entry ([.ref h, .ref p1]) (n := 3) (Nat.le_of_ble_eq_true rfl)
  rw [lg_entry_eq]
  generalize (lg_sl ([.ref h, .ref p1]) ++ List.replicate (3 - (lg_sl ([.ref h, .ref p1])).length) Slot.unset).toArray = ls at hl ⊢
  have hl : lv_has ls 3 [(0, .ref h), (1, .ref p1)] := hl
  have hS := C.2.2.2.2.2.2.2.2.2
  have key : ∀ n : Nat, (∀ (a_0 : Nat) (a_1 : Nat) (x_2 : Int32) (g : hm) (ls : Array Slot) (H : Heap) (locs : List Loc), I35 n a_0 a_1 x_2 g → lv_has ls 3 [(0, .ref a_0), (1, .ref a_1), (2, .int x_2)] → wS E.2.1 vwCl (wA f s.heap.size) s.heap g H locs → W p E.1 e ({ frames := 1, cells := 0, slots := 0, locals := 21 }) s m ([.ref h, .ref p1] : List Value).toArray below meth c H locs 0 0 (MQ below (wQi f E.2.1 vwCl K s) ([.ref h, .ref p1] : List Value).toArray s 0 0 (wA f s.heap.size)) (F0 m 35 ls [])) := by
    refine st_ind (fun n ih => ?_)
    intro a_0 a_1 x_2 g ls H locs hI hl hS
    exact R_X1_compareWith_35 C a_0 a_1 x_2 g (h35 n a_0 a_1 x_2 g hI) hl hS (fun _ _ _ _ _ _ _ hI hl hS => by obtain ⟨k, hk, hI⟩ := hI; exact (ih k hk) _ _ _ _ _ _ _ hI hl hS)
  exact R_X1_compareWith_0 C h p1 f h0 hl hS (fun _ _ _ _ _ _ _ hI hl hS => by obtain ⟨k, hI⟩ := hI; exact (key k) _ _ _ _ _ _ _ hI hl hS)
/-! ContinuedRatios$Natural.becomeSum(LContinuedRatios$Natural;LContinuedRatios$Natural;)V -/
def S_X1_becomeSum (E : cx) (h : Nat) (p1 : Nat) (p2 : Nat) (f : hm) (K : hm → Prop) : Prop := MV E.1 E.2.1 vwCl (eT E) yX1_becomeSum wsX1_becomeSum ({ frames := 1, cells := 0, slots := 0, locals := 22 }) [.ref h, .ref p1, .ref p2] f K
theorem mm_X1_becomeSum_0 : Cond.fieldLink RX1 9 "ContinuedRatios$Natural" "limbs" "[I" ∈ wsX1_becomeSum := by decide +kernel
theorem ii_X1_becomeSum_X1 : ∀ w ∈ u_ws RX1 TX1 2, w ∈ wsX1_becomeSum := by decide +kernel
def X_X1_becomeSum_0 (E : cx) (h : Nat) (p1 : Nat) (p2 : Nat) (f : hm) (L5 : Nat → Nat → Nat → Int64 → Int32 → hm → Prop) (K : hm → Prop) : Prop :=
  L5 h p1 p2 (0 : Int64) (0 : Int32) f
def X_X1_becomeSum_5 (E : cx) (a_0 : Nat) (a_1 : Nat) (a_2 : Nat) (x_3 : Int64) (x_5 : Int32) (f : hm) (L5 : Nat → Nat → Nat → Int64 → Int32 → hm → Prop) (K : hm → Prop) : Prop :=
  (((20 : Int32) ≤ x_5 → (isO f a_0 1 ∧ S_X1_trimFrom E a_0 (20 : Int32) f (fun (f3 : hm) => K f3))) ∧ (¬ ((20 : Int32) ≤ x_5) → (isO f a_1 1 ∧ S_X1_limb E a_1 x_5 f (fun (r6 : Int64) (f5 : hm) => (isO f5 a_2 1 ∧ S_X1_limb E a_2 x_5 f5 (fun (r9 : Int64) (f8 : hm) => (∀ x10 : Int64, x10 = ((r6 + r9) + x_3) → (∃ v11 : Nat, rdV f8 a_0 1 0 = some (.ref v11) ∧ (∃ f12 : hm, wrA (eI E) f8 v11 x_5 x10.toInt32 = some f12 ∧ (∀ x13 : Int64, x13 = (j_lushr x10 (32 : Int32)) → (∀ x14 : Int32, x14 = x_5 + (1) → L5 a_0 a_1 a_2 x13 x14 f12)))))))))))
set_option maxRecDepth 100000 in
set_option maxHeartbeats 4000000 in
theorem R_X1_becomeSum_0 {E : cx} {p : Program} {e : Env} {s : State} {m : MethodId} {below : List Frame} {meth : Method} {c : Code} {f0 : hm} {zh : Nat} {zp1 : Nat} {zp2 : Nat} (C : wB E.2.1 vwCl (eT E) yX1_becomeSum cX1_becomeSum 8 none wsX1_becomeSum [.ref zh, .ref zp1, .ref zp2] f0 p s m meth c) (h : Nat) (p1 : Nat) (p2 : Nat) (f : hm) {L5 : Nat → Nat → Nat → Int64 → Int32 → hm → Prop} {K : hm → Prop} (hv : X_X1_becomeSum_0 E h p1 p2 f L5 K) {ls : Array Slot} {H : Heap} {locs : List Loc} (hl : lv_has ls 8 [(0, .ref h), (1, .ref p1), (2, .ref p2)]) (hS : wS E.2.1 vwCl (wA f0 s.heap.size) s.heap f H locs) (hL5 : ∀ (y_0 : Nat) (y_1 : Nat) (y_2 : Nat) (y_3 : Int64) (y_5 : Int32) (f : hm) (ls : Array Slot) (H : Heap) (locs : List Loc), L5 y_0 y_1 y_2 y_3 y_5 f → lv_has ls 8 [(0, .ref y_0), (1, .ref y_1), (2, .ref y_2), (3, .long y_3), (5, .int y_5)] → wS E.2.1 vwCl (wA f0 s.heap.size) s.heap f H locs → W p E.1 e ({ frames := 1, cells := 0, slots := 0, locals := 22 }) s m ([.ref zh, .ref zp1, .ref zp2] : List Value).toArray below meth c H locs 0 0 (MQ below (wQv f0 E.2.1 vwCl K s) ([.ref zh, .ref zp1, .ref zp2] : List Value).toArray s 0 0 (wA f0 s.heap.size)) (F0 m 5 ls [])) : W p E.1 e ({ frames := 1, cells := 0, slots := 0, locals := 22 }) s m ([.ref zh, .ref zp1, .ref zp2] : List Value).toArray below meth c H locs 0 0 (MQ below (wQv f0 E.2.1 vwCl K s) ([.ref zh, .ref zp1, .ref zp2] : List Value).toArray s 0 0 (wA f0 s.heap.size)) (F0 m 0 ls []) := by
  obtain ⟨hx, hb, hml, hown, hts, hr, hlk, hnm, hK, -⟩ := C
  unfold X_X1_becomeSum_0 at hv
  refine lv_lconst (v := 0) hx hb dX1_becomeSum_0 (by decide) ?_
  refine lv_lstore_n (lv' := [(3, .long (0 : Int64)), (0, .ref h), (1, .ref p1), (2, .ref p2)]) hx hb dX1_becomeSum_1 rfl hl (by decide) rfl (fun ls hl => ?_)
  refine lv_iconst (v := 0) hx hb dX1_becomeSum_2 (by decide) ?_
  refine lv_istore (lv' := [(5, .int (0 : Int32)), (3, .long (0 : Int64)), (0, .ref h), (1, .ref p1), (2, .ref p2)]) hx hb dX1_becomeSum_3 hl (by decide) rfl (fun ls hl => ?_)
  exact hL5 _ _ _ _ _ _ _ _ _ hv (lv_sub hl [2, 3, 4, 1, 0] rfl) hS
set_option maxRecDepth 100000 in
set_option maxHeartbeats 4000000 in
theorem R_X1_becomeSum_5 {E : cx} {p : Program} {e : Env} {s : State} {m : MethodId} {below : List Frame} {meth : Method} {c : Code} {f0 : hm} {zh : Nat} {zp1 : Nat} {zp2 : Nat} (C : wB E.2.1 vwCl (eT E) yX1_becomeSum cX1_becomeSum 8 none wsX1_becomeSum [.ref zh, .ref zp1, .ref zp2] f0 p s m meth c) (a_0 : Nat) (a_1 : Nat) (a_2 : Nat) (x_3 : Int64) (x_5 : Int32) (f : hm) {L5 : Nat → Nat → Nat → Int64 → Int32 → hm → Prop} {K : hm → Prop} (hv : X_X1_becomeSum_5 E a_0 a_1 a_2 x_3 x_5 f L5 K) {ls : Array Slot} {H : Heap} {locs : List Loc} (hl : lv_has ls 8 [(0, .ref a_0), (1, .ref a_1), (2, .ref a_2), (3, .long x_3), (5, .int x_5)]) (hS : wS E.2.1 vwCl (wA f0 s.heap.size) s.heap f H locs) (hL5 : ∀ (y_0 : Nat) (y_1 : Nat) (y_2 : Nat) (y_3 : Int64) (y_5 : Int32) (f : hm) (ls : Array Slot) (H : Heap) (locs : List Loc), L5 y_0 y_1 y_2 y_3 y_5 f → lv_has ls 8 [(0, .ref y_0), (1, .ref y_1), (2, .ref y_2), (3, .long y_3), (5, .int y_5)] → wS E.2.1 vwCl (wA f0 s.heap.size) s.heap f H locs → W p E.1 e ({ frames := 1, cells := 0, slots := 0, locals := 22 }) s m ([.ref zh, .ref zp1, .ref zp2] : List Value).toArray below meth c H locs 0 0 (MQ below (wQv f0 E.2.1 vwCl K s) ([.ref zh, .ref zp1, .ref zp2] : List Value).toArray s 0 0 (wA f0 s.heap.size)) (F0 m 5 ls [])) : W p E.1 e ({ frames := 1, cells := 0, slots := 0, locals := 22 }) s m ([.ref zh, .ref zp1, .ref zp2] : List Value).toArray below meth c H locs 0 0 (MQ below (wQv f0 E.2.1 vwCl K s) ([.ref zh, .ref zp1, .ref zp2] : List Value).toArray s 0 0 (wA f0 s.heap.size)) (F0 m 5 ls []) := by
  obtain ⟨hx, hb, hml, hown, hts, hr, hlk, hnm, hK, -⟩ := C
  unfold X_X1_becomeSum_5 at hv
  refine lv_iload hx hb dX1_becomeSum_5 (lv_at hl 4 rfl) ?_
  refine lv_bipush (v := 20) hx hb dX1_becomeSum_7 (by decide) ?_
  refine lv_icmp_ge (tgt := 51) hx hb dX1_becomeSum_9 (by decide) (fun c1 => ?_) (fun c1 => ?_)
  · have hv := hv.1 c1
    refine lv_aload_n hx hb dX1_becomeSum_51 rfl (lv_at hl 0 rfl) ?_
    refine lv_bipush (v := 20) hx hb dX1_becomeSum_52 (by decide) ?_
    obtain ⟨ho2, hv⟩ := hv
    refine fw_callVv hx hb hml hown hts hK hS [.int (20 : Int32)] [] hv gX1_becomeSum_X1_trimFrom rfl rfl rfl 1 (by decide +kernel) ⟨Nat.le_of_ble_eq_true rfl, Nat.le_of_ble_eq_true rfl⟩ rfl rfl ho2 rfl hl.1 rfl (Nat.le_of_ble_eq_true rfl) dX1_becomeSum_54 ⟨Nat.zero_le _, Nat.zero_le _⟩ (fun f3 H locs hv hS => ?_)
    exact fw_vret hx hb hr hlk hS hv dX1_becomeSum_57
  · have hv := hv.2 c1
    refine lv_aload_n hx hb dX1_becomeSum_12 rfl (lv_at hl 1 rfl) ?_
    refine lv_iload hx hb dX1_becomeSum_13 (lv_at hl 4 rfl) ?_
    obtain ⟨ho4, hv⟩ := hv
    refine fw_callVl hx hb hml hown hts hK hS [.int x_5] [] hv gX1_becomeSum_X1_limb rfl rfl rfl 1 (by decide +kernel) ⟨Nat.le_of_ble_eq_true rfl, Nat.le_of_ble_eq_true rfl⟩ rfl rfl ho4 rfl hl.1 rfl (Nat.le_of_ble_eq_true rfl) dX1_becomeSum_15 ⟨Nat.zero_le _, Nat.zero_le _⟩ (fun r6 f5 H locs hv hS => ?_)
    refine lv_aload_n hx hb dX1_becomeSum_18 rfl (lv_at hl 2 rfl) ?_
    refine lv_iload hx hb dX1_becomeSum_19 (lv_at hl 4 rfl) ?_
    obtain ⟨ho7, hv⟩ := hv
    refine fw_callVl hx hb hml hown hts hK hS [.int x_5] [.long r6] hv gX1_becomeSum_X1_limb rfl rfl rfl 1 (by decide +kernel) ⟨Nat.le_of_ble_eq_true rfl, Nat.le_of_ble_eq_true rfl⟩ rfl rfl ho7 rfl hl.1 rfl (Nat.le_of_ble_eq_true rfl) dX1_becomeSum_21 ⟨Nat.zero_le _, Nat.zero_le _⟩ (fun r9 f8 H locs hv hS => ?_)
    refine lv_ladd hx hb dX1_becomeSum_24 ?_
    refine lv_lload_n hx hb dX1_becomeSum_25 rfl (lv_at hl 3 rfl) ?_
    refine lv_ladd hx hb dX1_becomeSum_26 ?_
    refine lv_topl (fun x10 ex10 => ?_)
    have hv := hv x10 ex10
    refine lv_lstore (lv' := [(6, .long x10), (0, .ref a_0), (1, .ref a_1), (2, .ref a_2), (3, .long x_3), (5, .int x_5)]) hx hb dX1_becomeSum_27 hl (by decide) rfl (fun ls hl => ?_)
    refine lv_aload_n hx hb dX1_becomeSum_29 rfl (lv_at hl 1 rfl) ?_
    obtain ⟨v11, ev11, hv⟩ := hv
    refine fw_get hx hb hts ii_X1_becomeSum_X1 hown hK hS 0 ev11 rfl (by decide) mm_X1_becomeSum_0 rfl dX1_becomeSum_30 ?_
    refine lv_iload hx hb dX1_becomeSum_33 (lv_at hl 5 rfl) ?_
    refine lv_lload hx hb dX1_becomeSum_35 (lv_at hl 0 rfl) ?_
    refine lv_l2i hx hb dX1_becomeSum_37 rfl ?_
    obtain ⟨f12, ef12, hv⟩ := hv
    refine fw_ast hx hb hK hS 0 rfl ef12 dX1_becomeSum_38 (fun H locs hS => ?_)
    refine lv_lload hx hb dX1_becomeSum_39 (lv_at hl 0 rfl) ?_
    refine lv_bipush (v := 32) hx hb dX1_becomeSum_41 (by decide) ?_
    refine lv_lushr (v := j_lushr x10 (32 : Int32)) hx hb dX1_becomeSum_43 rfl ?_
    refine lv_topl (fun x13 ex13 => ?_)
    have hv := hv x13 ex13
    refine lv_lstore_n (lv' := [(3, .long x13), (6, .long x10), (0, .ref a_0), (1, .ref a_1), (2, .ref a_2), (5, .int x_5)]) hx hb dX1_becomeSum_44 rfl hl (by decide) rfl (fun ls hl => ?_)
    obtain ⟨x14, ex14⟩ : ∃ y : Int32, y = x_5 + (1) := ⟨_, rfl⟩
    have hv := hv x14 ex14
    refine lv_iinc (v := x14) (lv' := [(5, .int x14), (3, .long x13), (6, .long x10), (0, .ref a_0), (1, .ref a_1), (2, .ref a_2)]) hx hb dX1_becomeSum_45 hl (k := 5) rfl (by rw [ex14]; rfl) (by decide) rfl (fun ls hl => ?_)
    refine lv_goto (tgt := 5) hx hb dX1_becomeSum_48 (by decide) ?_
    exact hL5 _ _ _ _ _ _ _ _ _ hv (lv_sub hl [3, 4, 5, 1, 0] rfl) hS
set_option maxRecDepth 100000 in
set_option maxHeartbeats 4000000 in
theorem T_X1_becomeSum {E : cx} {h : Nat} {p1 : Nat} {p2 : Nat} {f : hm} {K : hm → Prop} (I5 : Nat → Nat → Nat → Nat → Int64 → Int32 → hm → Prop) (h0 : X_X1_becomeSum_0 E h p1 p2 f (fun (y_0 : Nat) (y_1 : Nat) (y_2 : Nat) (y_3 : Int64) (y_5 : Int32) (f : hm) => ∃ k : Nat, I5 k y_0 y_1 y_2 y_3 y_5 f) K) (h5 : ∀ (n : Nat) (a_0 : Nat) (a_1 : Nat) (a_2 : Nat) (x_3 : Int64) (x_5 : Int32) (f : hm), I5 n a_0 a_1 a_2 x_3 x_5 f → X_X1_becomeSum_5 E a_0 a_1 a_2 x_3 x_5 f (fun (y_0 : Nat) (y_1 : Nat) (y_2 : Nat) (y_3 : Int64) (y_5 : Int32) (f : hm) => ∃ k : Nat, k < n ∧ I5 k y_0 y_1 y_2 y_3 y_5 f) K) : S_X1_becomeSum E h p1 p2 f K := by
  refine MV_of (cc := cX1_becomeSum) (maxL := 8) (ret := none) (by decide) rfl ?_
  intro p e s m below meth c C
  have hl := lv_entry ([.ref h, .ref p1, .ref p2]) (n := 8) (Nat.le_of_ble_eq_true rfl)
  rw [lg_entry_eq]
  generalize (lg_sl ([.ref h, .ref p1, .ref p2]) ++ List.replicate (8 - (lg_sl ([.ref h, .ref p1, .ref p2])).length) Slot.unset).toArray = ls at hl ⊢
  have hl : lv_has ls 8 [(0, .ref h), (1, .ref p1), (2, .ref p2)] := hl
  have hS := C.2.2.2.2.2.2.2.2.2
  have key : ∀ n : Nat, (∀ (a_0 : Nat) (a_1 : Nat) (a_2 : Nat) (x_3 : Int64) (x_5 : Int32) (g : hm) (ls : Array Slot) (H : Heap) (locs : List Loc), I5 n a_0 a_1 a_2 x_3 x_5 g → lv_has ls 8 [(0, .ref a_0), (1, .ref a_1), (2, .ref a_2), (3, .long x_3), (5, .int x_5)] → wS E.2.1 vwCl (wA f s.heap.size) s.heap g H locs → W p E.1 e ({ frames := 1, cells := 0, slots := 0, locals := 22 }) s m ([.ref h, .ref p1, .ref p2] : List Value).toArray below meth c H locs 0 0 (MQ below (wQv f E.2.1 vwCl K s) ([.ref h, .ref p1, .ref p2] : List Value).toArray s 0 0 (wA f s.heap.size)) (F0 m 5 ls [])) := by
    refine st_ind (fun n ih => ?_)
    intro a_0 a_1 a_2 x_3 x_5 g ls H locs hI hl hS
    exact R_X1_becomeSum_5 C a_0 a_1 a_2 x_3 x_5 g (h5 n a_0 a_1 a_2 x_3 x_5 g hI) hl hS (fun _ _ _ _ _ _ _ _ _ hI hl hS => by obtain ⟨k, hk, hI⟩ := hI; exact (ih k hk) _ _ _ _ _ _ _ _ _ hI hl hS)
  exact R_X1_becomeSum_0 C h p1 p2 f h0 hl hS (fun _ _ _ _ _ _ _ _ _ hI hl hS => by obtain ⟨k, hI⟩ := hI; exact (key k) _ _ _ _ _ _ _ _ _ hI hl hS)
/-! ContinuedRatios$Natural.becomeDifference(LContinuedRatios$Natural;LContinuedRatios$Natural;)V -/
def S_X1_becomeDifference (E : cx) (h : Nat) (p1 : Nat) (p2 : Nat) (f : hm) (K : hm → Prop) : Prop := MV E.1 E.2.1 vwCl (eT E) yX1_becomeDifference wsX1_becomeDifference ({ frames := 1, cells := 0, slots := 0, locals := 22 }) [.ref h, .ref p1, .ref p2] f K
theorem mm_X1_becomeDifference_0 : Cond.fieldLink RX1 9 "ContinuedRatios$Natural" "limbs" "[I" ∈ wsX1_becomeDifference := by decide +kernel
theorem ii_X1_becomeDifference_X1 : ∀ w ∈ u_ws RX1 TX1 2, w ∈ wsX1_becomeDifference := by decide +kernel
def X_X1_becomeDifference_0 (E : cx) (h : Nat) (p1 : Nat) (p2 : Nat) (f : hm) (L5 : Nat → Nat → Nat → Int64 → Int32 → hm → Prop) (K : hm → Prop) : Prop :=
  L5 h p1 p2 (0 : Int64) (0 : Int32) f
def X_X1_becomeDifference_5 (E : cx) (a_0 : Nat) (a_1 : Nat) (a_2 : Nat) (x_3 : Int64) (x_5 : Int32) (f : hm) (L5 : Nat → Nat → Nat → Int64 → Int32 → hm → Prop) (K : hm → Prop) : Prop :=
  (((20 : Int32) ≤ x_5 → (isO f a_0 1 ∧ S_X1_trimFrom E a_0 (20 : Int32) f (fun (f3 : hm) => K f3))) ∧ (¬ ((20 : Int32) ≤ x_5) → (isO f a_1 1 ∧ S_X1_limb E a_1 x_5 f (fun (r6 : Int64) (f5 : hm) => (isO f5 a_2 1 ∧ S_X1_limb E a_2 x_5 f5 (fun (r9 : Int64) (f8 : hm) => (∀ x10 : Int64, x10 = ((r6 - r9) - x_3) → (∃ v11 : Nat, rdV f8 a_0 1 0 = some (.ref v11) ∧ (∃ f12 : hm, wrA (eI E) f8 v11 x_5 x10.toInt32 = some f12 ∧ ((0 ≤ (lg_cmp x10 (0 : Int64)) → (∀ x14 : Int32, x14 = x_5 + (1) → L5 a_0 a_1 a_2 (0 : Int64) x14 f12)) ∧ (¬ (0 ≤ (lg_cmp x10 (0 : Int64))) → (∀ x15 : Int32, x15 = x_5 + (1) → L5 a_0 a_1 a_2 (1 : Int64) x15 f12))))))))))))
set_option maxRecDepth 100000 in
set_option maxHeartbeats 4000000 in
theorem R_X1_becomeDifference_0 {E : cx} {p : Program} {e : Env} {s : State} {m : MethodId} {below : List Frame} {meth : Method} {c : Code} {f0 : hm} {zh : Nat} {zp1 : Nat} {zp2 : Nat} (C : wB E.2.1 vwCl (eT E) yX1_becomeDifference cX1_becomeDifference 8 none wsX1_becomeDifference [.ref zh, .ref zp1, .ref zp2] f0 p s m meth c) (h : Nat) (p1 : Nat) (p2 : Nat) (f : hm) {L5 : Nat → Nat → Nat → Int64 → Int32 → hm → Prop} {K : hm → Prop} (hv : X_X1_becomeDifference_0 E h p1 p2 f L5 K) {ls : Array Slot} {H : Heap} {locs : List Loc} (hl : lv_has ls 8 [(0, .ref h), (1, .ref p1), (2, .ref p2)]) (hS : wS E.2.1 vwCl (wA f0 s.heap.size) s.heap f H locs) (hL5 : ∀ (y_0 : Nat) (y_1 : Nat) (y_2 : Nat) (y_3 : Int64) (y_5 : Int32) (f : hm) (ls : Array Slot) (H : Heap) (locs : List Loc), L5 y_0 y_1 y_2 y_3 y_5 f → lv_has ls 8 [(0, .ref y_0), (1, .ref y_1), (2, .ref y_2), (3, .long y_3), (5, .int y_5)] → wS E.2.1 vwCl (wA f0 s.heap.size) s.heap f H locs → W p E.1 e ({ frames := 1, cells := 0, slots := 0, locals := 22 }) s m ([.ref zh, .ref zp1, .ref zp2] : List Value).toArray below meth c H locs 0 0 (MQ below (wQv f0 E.2.1 vwCl K s) ([.ref zh, .ref zp1, .ref zp2] : List Value).toArray s 0 0 (wA f0 s.heap.size)) (F0 m 5 ls [])) : W p E.1 e ({ frames := 1, cells := 0, slots := 0, locals := 22 }) s m ([.ref zh, .ref zp1, .ref zp2] : List Value).toArray below meth c H locs 0 0 (MQ below (wQv f0 E.2.1 vwCl K s) ([.ref zh, .ref zp1, .ref zp2] : List Value).toArray s 0 0 (wA f0 s.heap.size)) (F0 m 0 ls []) := by
  obtain ⟨hx, hb, hml, hown, hts, hr, hlk, hnm, hK, -⟩ := C
  unfold X_X1_becomeDifference_0 at hv
  refine lv_lconst (v := 0) hx hb dX1_becomeDifference_0 (by decide) ?_
  refine lv_lstore_n (lv' := [(3, .long (0 : Int64)), (0, .ref h), (1, .ref p1), (2, .ref p2)]) hx hb dX1_becomeDifference_1 rfl hl (by decide) rfl (fun ls hl => ?_)
  refine lv_iconst (v := 0) hx hb dX1_becomeDifference_2 (by decide) ?_
  refine lv_istore (lv' := [(5, .int (0 : Int32)), (3, .long (0 : Int64)), (0, .ref h), (1, .ref p1), (2, .ref p2)]) hx hb dX1_becomeDifference_3 hl (by decide) rfl (fun ls hl => ?_)
  exact hL5 _ _ _ _ _ _ _ _ _ hv (lv_sub hl [2, 3, 4, 1, 0] rfl) hS
set_option maxRecDepth 100000 in
set_option maxHeartbeats 4000000 in
theorem R_X1_becomeDifference_5 {E : cx} {p : Program} {e : Env} {s : State} {m : MethodId} {below : List Frame} {meth : Method} {c : Code} {f0 : hm} {zh : Nat} {zp1 : Nat} {zp2 : Nat} (C : wB E.2.1 vwCl (eT E) yX1_becomeDifference cX1_becomeDifference 8 none wsX1_becomeDifference [.ref zh, .ref zp1, .ref zp2] f0 p s m meth c) (a_0 : Nat) (a_1 : Nat) (a_2 : Nat) (x_3 : Int64) (x_5 : Int32) (f : hm) {L5 : Nat → Nat → Nat → Int64 → Int32 → hm → Prop} {K : hm → Prop} (hv : X_X1_becomeDifference_5 E a_0 a_1 a_2 x_3 x_5 f L5 K) {ls : Array Slot} {H : Heap} {locs : List Loc} (hl : lv_has ls 8 [(0, .ref a_0), (1, .ref a_1), (2, .ref a_2), (3, .long x_3), (5, .int x_5)]) (hS : wS E.2.1 vwCl (wA f0 s.heap.size) s.heap f H locs) (hL5 : ∀ (y_0 : Nat) (y_1 : Nat) (y_2 : Nat) (y_3 : Int64) (y_5 : Int32) (f : hm) (ls : Array Slot) (H : Heap) (locs : List Loc), L5 y_0 y_1 y_2 y_3 y_5 f → lv_has ls 8 [(0, .ref y_0), (1, .ref y_1), (2, .ref y_2), (3, .long y_3), (5, .int y_5)] → wS E.2.1 vwCl (wA f0 s.heap.size) s.heap f H locs → W p E.1 e ({ frames := 1, cells := 0, slots := 0, locals := 22 }) s m ([.ref zh, .ref zp1, .ref zp2] : List Value).toArray below meth c H locs 0 0 (MQ below (wQv f0 E.2.1 vwCl K s) ([.ref zh, .ref zp1, .ref zp2] : List Value).toArray s 0 0 (wA f0 s.heap.size)) (F0 m 5 ls [])) : W p E.1 e ({ frames := 1, cells := 0, slots := 0, locals := 22 }) s m ([.ref zh, .ref zp1, .ref zp2] : List Value).toArray below meth c H locs 0 0 (MQ below (wQv f0 E.2.1 vwCl K s) ([.ref zh, .ref zp1, .ref zp2] : List Value).toArray s 0 0 (wA f0 s.heap.size)) (F0 m 5 ls []) := by
  obtain ⟨hx, hb, hml, hown, hts, hr, hlk, hnm, hK, -⟩ := C
  unfold X_X1_becomeDifference_5 at hv
  refine lv_iload hx hb dX1_becomeDifference_5 (lv_at hl 4 rfl) ?_
  refine lv_bipush (v := 20) hx hb dX1_becomeDifference_7 (by decide) ?_
  refine lv_icmp_ge (tgt := 58) hx hb dX1_becomeDifference_9 (by decide) (fun c1 => ?_) (fun c1 => ?_)
  · have hv := hv.1 c1
    refine lv_aload_n hx hb dX1_becomeDifference_58 rfl (lv_at hl 0 rfl) ?_
    refine lv_bipush (v := 20) hx hb dX1_becomeDifference_59 (by decide) ?_
    obtain ⟨ho2, hv⟩ := hv
    refine fw_callVv hx hb hml hown hts hK hS [.int (20 : Int32)] [] hv gX1_becomeDifference_X1_trimFrom rfl rfl rfl 1 (by decide +kernel) ⟨Nat.le_of_ble_eq_true rfl, Nat.le_of_ble_eq_true rfl⟩ rfl rfl ho2 rfl hl.1 rfl (Nat.le_of_ble_eq_true rfl) dX1_becomeDifference_61 ⟨Nat.zero_le _, Nat.zero_le _⟩ (fun f3 H locs hv hS => ?_)
    exact fw_vret hx hb hr hlk hS hv dX1_becomeDifference_64
  · have hv := hv.2 c1
    refine lv_aload_n hx hb dX1_becomeDifference_12 rfl (lv_at hl 1 rfl) ?_
    refine lv_iload hx hb dX1_becomeDifference_13 (lv_at hl 4 rfl) ?_
    obtain ⟨ho4, hv⟩ := hv
    refine fw_callVl hx hb hml hown hts hK hS [.int x_5] [] hv gX1_becomeDifference_X1_limb rfl rfl rfl 1 (by decide +kernel) ⟨Nat.le_of_ble_eq_true rfl, Nat.le_of_ble_eq_true rfl⟩ rfl rfl ho4 rfl hl.1 rfl (Nat.le_of_ble_eq_true rfl) dX1_becomeDifference_15 ⟨Nat.zero_le _, Nat.zero_le _⟩ (fun r6 f5 H locs hv hS => ?_)
    refine lv_aload_n hx hb dX1_becomeDifference_18 rfl (lv_at hl 2 rfl) ?_
    refine lv_iload hx hb dX1_becomeDifference_19 (lv_at hl 4 rfl) ?_
    obtain ⟨ho7, hv⟩ := hv
    refine fw_callVl hx hb hml hown hts hK hS [.int x_5] [.long r6] hv gX1_becomeDifference_X1_limb rfl rfl rfl 1 (by decide +kernel) ⟨Nat.le_of_ble_eq_true rfl, Nat.le_of_ble_eq_true rfl⟩ rfl rfl ho7 rfl hl.1 rfl (Nat.le_of_ble_eq_true rfl) dX1_becomeDifference_21 ⟨Nat.zero_le _, Nat.zero_le _⟩ (fun r9 f8 H locs hv hS => ?_)
    refine lv_lsub hx hb dX1_becomeDifference_24 ?_
    refine lv_lload_n hx hb dX1_becomeDifference_25 rfl (lv_at hl 3 rfl) ?_
    refine lv_lsub hx hb dX1_becomeDifference_26 ?_
    refine lv_topl (fun x10 ex10 => ?_)
    have hv := hv x10 ex10
    refine lv_lstore (lv' := [(6, .long x10), (0, .ref a_0), (1, .ref a_1), (2, .ref a_2), (3, .long x_3), (5, .int x_5)]) hx hb dX1_becomeDifference_27 hl (by decide) rfl (fun ls hl => ?_)
    refine lv_aload_n hx hb dX1_becomeDifference_29 rfl (lv_at hl 1 rfl) ?_
    obtain ⟨v11, ev11, hv⟩ := hv
    refine fw_get hx hb hts ii_X1_becomeDifference_X1 hown hK hS 0 ev11 rfl (by decide) mm_X1_becomeDifference_0 rfl dX1_becomeDifference_30 ?_
    refine lv_iload hx hb dX1_becomeDifference_33 (lv_at hl 5 rfl) ?_
    refine lv_lload hx hb dX1_becomeDifference_35 (lv_at hl 0 rfl) ?_
    refine lv_l2i hx hb dX1_becomeDifference_37 rfl ?_
    obtain ⟨f12, ef12, hv⟩ := hv
    refine fw_ast hx hb hK hS 0 rfl ef12 dX1_becomeDifference_38 (fun H locs hS => ?_)
    refine lv_lload hx hb dX1_becomeDifference_39 (lv_at hl 0 rfl) ?_
    refine lv_lconst (v := 0) hx hb dX1_becomeDifference_41 (by decide) ?_
    refine W.lcmp hx hb dX1_becomeDifference_42 ?_
    refine lv_if_ge (tgt := 50) hx hb dX1_becomeDifference_43 (by decide) (fun c13 => ?_) (fun c13 => ?_)
    · have hv := hv.1 c13
      refine lv_lconst (v := 0) hx hb dX1_becomeDifference_50 (by decide) ?_
      refine lv_lstore_n (lv' := [(3, .long (0 : Int64)), (6, .long x10), (0, .ref a_0), (1, .ref a_1), (2, .ref a_2), (5, .int x_5)]) hx hb dX1_becomeDifference_51 rfl hl (by decide) rfl (fun ls hl => ?_)
      obtain ⟨x14, ex14⟩ : ∃ y : Int32, y = x_5 + (1) := ⟨_, rfl⟩
      have hv := hv x14 ex14
      refine lv_iinc (v := x14) (lv' := [(5, .int x14), (3, .long (0 : Int64)), (6, .long x10), (0, .ref a_0), (1, .ref a_1), (2, .ref a_2)]) hx hb dX1_becomeDifference_52 hl (k := 5) rfl (by rw [ex14]; rfl) (by decide) rfl (fun ls hl => ?_)
      refine lv_goto (tgt := 5) hx hb dX1_becomeDifference_55 (by decide) ?_
      exact hL5 _ _ _ _ _ _ _ _ _ hv (lv_sub hl [3, 4, 5, 1, 0] rfl) hS
    · have hv := hv.2 c13
      refine lv_lconst (v := 1) hx hb dX1_becomeDifference_46 (by decide) ?_
      refine lv_goto (tgt := 51) hx hb dX1_becomeDifference_47 (by decide) ?_
      refine lv_lstore_n (lv' := [(3, .long (1 : Int64)), (6, .long x10), (0, .ref a_0), (1, .ref a_1), (2, .ref a_2), (5, .int x_5)]) hx hb dX1_becomeDifference_51 rfl hl (by decide) rfl (fun ls hl => ?_)
      obtain ⟨x15, ex15⟩ : ∃ y : Int32, y = x_5 + (1) := ⟨_, rfl⟩
      have hv := hv x15 ex15
      refine lv_iinc (v := x15) (lv' := [(5, .int x15), (3, .long (1 : Int64)), (6, .long x10), (0, .ref a_0), (1, .ref a_1), (2, .ref a_2)]) hx hb dX1_becomeDifference_52 hl (k := 5) rfl (by rw [ex15]; rfl) (by decide) rfl (fun ls hl => ?_)
      refine lv_goto (tgt := 5) hx hb dX1_becomeDifference_55 (by decide) ?_
      exact hL5 _ _ _ _ _ _ _ _ _ hv (lv_sub hl [3, 4, 5, 1, 0] rfl) hS
set_option maxRecDepth 100000 in
set_option maxHeartbeats 4000000 in
theorem T_X1_becomeDifference {E : cx} {h : Nat} {p1 : Nat} {p2 : Nat} {f : hm} {K : hm → Prop} (I5 : Nat → Nat → Nat → Nat → Int64 → Int32 → hm → Prop) (h0 : X_X1_becomeDifference_0 E h p1 p2 f (fun (y_0 : Nat) (y_1 : Nat) (y_2 : Nat) (y_3 : Int64) (y_5 : Int32) (f : hm) => ∃ k : Nat, I5 k y_0 y_1 y_2 y_3 y_5 f) K) (h5 : ∀ (n : Nat) (a_0 : Nat) (a_1 : Nat) (a_2 : Nat) (x_3 : Int64) (x_5 : Int32) (f : hm), I5 n a_0 a_1 a_2 x_3 x_5 f → X_X1_becomeDifference_5 E a_0 a_1 a_2 x_3 x_5 f (fun (y_0 : Nat) (y_1 : Nat) (y_2 : Nat) (y_3 : Int64) (y_5 : Int32) (f : hm) => ∃ k : Nat, k < n ∧ I5 k y_0 y_1 y_2 y_3 y_5 f) K) : S_X1_becomeDifference E h p1 p2 f K := by
  refine MV_of (cc := cX1_becomeDifference) (maxL := 8) (ret := none) (by decide) rfl ?_
  intro p e s m below meth c C
  have hl := lv_entry ([.ref h, .ref p1, .ref p2]) (n := 8) (Nat.le_of_ble_eq_true rfl)
  rw [lg_entry_eq]
  generalize (lg_sl ([.ref h, .ref p1, .ref p2]) ++ List.replicate (8 - (lg_sl ([.ref h, .ref p1, .ref p2])).length) Slot.unset).toArray = ls at hl ⊢
  have hl : lv_has ls 8 [(0, .ref h), (1, .ref p1), (2, .ref p2)] := hl
  have hS := C.2.2.2.2.2.2.2.2.2
  have key : ∀ n : Nat, (∀ (a_0 : Nat) (a_1 : Nat) (a_2 : Nat) (x_3 : Int64) (x_5 : Int32) (g : hm) (ls : Array Slot) (H : Heap) (locs : List Loc), I5 n a_0 a_1 a_2 x_3 x_5 g → lv_has ls 8 [(0, .ref a_0), (1, .ref a_1), (2, .ref a_2), (3, .long x_3), (5, .int x_5)] → wS E.2.1 vwCl (wA f s.heap.size) s.heap g H locs → W p E.1 e ({ frames := 1, cells := 0, slots := 0, locals := 22 }) s m ([.ref h, .ref p1, .ref p2] : List Value).toArray below meth c H locs 0 0 (MQ below (wQv f E.2.1 vwCl K s) ([.ref h, .ref p1, .ref p2] : List Value).toArray s 0 0 (wA f s.heap.size)) (F0 m 5 ls [])) := by
    refine st_ind (fun n ih => ?_)
    intro a_0 a_1 a_2 x_3 x_5 g ls H locs hI hl hS
    exact R_X1_becomeDifference_5 C a_0 a_1 a_2 x_3 x_5 g (h5 n a_0 a_1 a_2 x_3 x_5 g hI) hl hS (fun _ _ _ _ _ _ _ _ _ hI hl hS => by obtain ⟨k, hk, hI⟩ := hI; exact (ih k hk) _ _ _ _ _ _ _ _ _ hI hl hS)
  exact R_X1_becomeDifference_0 C h p1 p2 f h0 hl hS (fun _ _ _ _ _ _ _ _ _ hI hl hS => by obtain ⟨k, hI⟩ := hI; exact (key k) _ _ _ _ _ _ _ _ _ hI hl hS)
/-! ContinuedRatios$Natural.addMultipleAt(ILContinuedRatios$Natural;J)V -/
def S_X1_addMultipleAt (E : cx) (h : Nat) (p1 : Int32) (p2 : Nat) (p3 : Int64) (f : hm) (K : hm → Prop) : Prop := MV E.1 E.2.1 vwCl (eT E) yX1_addMultipleAt wsX1_addMultipleAt ({ frames := 1, cells := 0, slots := 0, locals := 21 }) [.ref h, .int p1, .ref p2, .long p3] f K
theorem mm_X1_addMultipleAt_0 : Cond.fieldLink RX1 13 "ContinuedRatios$Natural" "length" "I" ∈ wsX1_addMultipleAt := by decide +kernel
theorem mm_X1_addMultipleAt_1 : Cond.methodLink RX1 68 Lib.Math.min.name ∈ wsX1_addMultipleAt := by decide +kernel
theorem mm_X1_addMultipleAt_2 : Cond.static Lib.Math.min.name ∈ wsX1_addMultipleAt := by decide +kernel
theorem mm_X1_addMultipleAt_3 : Cond.initialized "java/lang/Math" ∈ wsX1_addMultipleAt := by decide +kernel
theorem mm_X1_addMultipleAt_4 : Cond.code Lib.Math.min.name Lib.Math.min.code 2 (some .int) ∈ wsX1_addMultipleAt := by decide +kernel
theorem mm_X1_addMultipleAt_5 : Cond.fieldLink RX1 9 "ContinuedRatios$Natural" "limbs" "[I" ∈ wsX1_addMultipleAt := by decide +kernel
theorem ii_X1_addMultipleAt_X1 : ∀ w ∈ u_ws RX1 TX1 2, w ∈ wsX1_addMultipleAt := by decide +kernel
def X_X1_addMultipleAt_0 (E : cx) (h : Nat) (p1 : Int32) (p2 : Nat) (p3 : Int64) (f : hm) (L19 : Nat → Int32 → Nat → Int64 → Int64 → Int32 → Int32 → hm → Prop) (K : hm → Prop) : Prop :=
  (∃ v1 : Int32, rdV f p2 1 1 = some (.int v1) ∧ (∀ x2 : Int32, x2 = (if (19 : Int32) < (p1 + v1) then (19 : Int32) else (p1 + v1)) → L19 h p1 p2 p3 (0 : Int64) x2 p1 f))
def X_X1_addMultipleAt_19 (E : cx) (a_0 : Nat) (x_1 : Int32) (a_2 : Nat) (x_3 : Int64) (x_5 : Int64) (x_7 : Int32) (x_8 : Int32) (f : hm) (L19 : Nat → Int32 → Nat → Int64 → Int64 → Int32 → Int32 → hm → Prop) (K : hm → Prop) : Prop :=
  ((x_7 < x_8 → K f) ∧ (¬ (x_7 < x_8) → (isO f a_2 1 ∧ S_X1_limb E a_2 (x_8 - x_1) f (fun (r4 : Int64) (f3 : hm) => (isO f3 a_0 1 ∧ S_X1_limb E a_0 x_8 f3 (fun (r7 : Int64) (f6 : hm) => (∀ x8 : Int64, x8 = (((x_3 * r4) + r7) + x_5) → (∃ v9 : Nat, rdV f6 a_0 1 0 = some (.ref v9) ∧ (∃ f10 : hm, wrA (eI E) f6 v9 x_8 x8.toInt32 = some f10 ∧ (∀ x11 : Int64, x11 = (j_lushr x8 (32 : Int32)) → (∀ x12 : Int32, x12 = x_8 + (1) → L19 a_0 x_1 a_2 x_3 x11 x_7 x12 f10)))))))))))
set_option maxRecDepth 100000 in
set_option maxHeartbeats 4000000 in
theorem R_X1_addMultipleAt_0 {E : cx} {p : Program} {e : Env} {s : State} {m : MethodId} {below : List Frame} {meth : Method} {c : Code} {f0 : hm} {zh : Nat} {zp1 : Int32} {zp2 : Nat} {zp3 : Int64} (C : wB E.2.1 vwCl (eT E) yX1_addMultipleAt cX1_addMultipleAt 11 none wsX1_addMultipleAt [.ref zh, .int zp1, .ref zp2, .long zp3] f0 p s m meth c) (h : Nat) (p1 : Int32) (p2 : Nat) (p3 : Int64) (f : hm) {L19 : Nat → Int32 → Nat → Int64 → Int64 → Int32 → Int32 → hm → Prop} {K : hm → Prop} (hv : X_X1_addMultipleAt_0 E h p1 p2 p3 f L19 K) {ls : Array Slot} {H : Heap} {locs : List Loc} (hl : lv_has ls 11 [(0, .ref h), (1, .int p1), (2, .ref p2), (3, .long p3)]) (hS : wS E.2.1 vwCl (wA f0 s.heap.size) s.heap f H locs) (hL19 : ∀ (y_0 : Nat) (y_1 : Int32) (y_2 : Nat) (y_3 : Int64) (y_5 : Int64) (y_7 : Int32) (y_8 : Int32) (f : hm) (ls : Array Slot) (H : Heap) (locs : List Loc), L19 y_0 y_1 y_2 y_3 y_5 y_7 y_8 f → lv_has ls 11 [(0, .ref y_0), (1, .int y_1), (2, .ref y_2), (3, .long y_3), (5, .long y_5), (7, .int y_7), (8, .int y_8)] → wS E.2.1 vwCl (wA f0 s.heap.size) s.heap f H locs → W p E.1 e ({ frames := 1, cells := 0, slots := 0, locals := 21 }) s m ([.ref zh, .int zp1, .ref zp2, .long zp3] : List Value).toArray below meth c H locs 0 0 (MQ below (wQv f0 E.2.1 vwCl K s) ([.ref zh, .int zp1, .ref zp2, .long zp3] : List Value).toArray s 0 0 (wA f0 s.heap.size)) (F0 m 19 ls [])) : W p E.1 e ({ frames := 1, cells := 0, slots := 0, locals := 21 }) s m ([.ref zh, .int zp1, .ref zp2, .long zp3] : List Value).toArray below meth c H locs 0 0 (MQ below (wQv f0 E.2.1 vwCl K s) ([.ref zh, .int zp1, .ref zp2, .long zp3] : List Value).toArray s 0 0 (wA f0 s.heap.size)) (F0 m 0 ls []) := by
  obtain ⟨hx, hb, hml, hown, hts, hr, hlk, hnm, hK, -⟩ := C
  unfold X_X1_addMultipleAt_0 at hv
  refine lv_lconst (v := 0) hx hb dX1_addMultipleAt_0 (by decide) ?_
  refine lv_lstore (lv' := [(5, .long (0 : Int64)), (0, .ref h), (1, .int p1), (2, .ref p2), (3, .long p3)]) hx hb dX1_addMultipleAt_1 hl (by decide) rfl (fun ls hl => ?_)
  refine lv_iload_n hx hb dX1_addMultipleAt_3 rfl (lv_at hl 2 rfl) ?_
  refine lv_aload_n hx hb dX1_addMultipleAt_4 rfl (lv_at hl 3 rfl) ?_
  obtain ⟨v1, ev1, hv⟩ := hv
  refine fw_get hx hb hts ii_X1_addMultipleAt_X1 hown hK hS 1 ev1 rfl (by decide) mm_X1_addMultipleAt_0 rfl dX1_addMultipleAt_5 ?_
  refine lv_iadd hx hb dX1_addMultipleAt_8 ?_
  refine lv_bipush (v := 19) hx hb dX1_addMultipleAt_9 (by decide) ?_
  refine va_mmin hx hb (hml.trans hl.1.symm) hown (hts _ mm_X1_addMultipleAt_1) (hts _ mm_X1_addMultipleAt_2) (hts _ mm_X1_addMultipleAt_3) (hts _ mm_X1_addMultipleAt_4) (by decide) (Nat.le_of_ble_eq_true rfl) (Nat.zero_le _) (Nat.zero_le _) dX1_addMultipleAt_11 ?_
  refine lv_topi (fun x2 ex2 => ?_)
  have hv := hv x2 ex2
  refine lv_istore (lv' := [(7, .int x2), (5, .long (0 : Int64)), (0, .ref h), (1, .int p1), (2, .ref p2), (3, .long p3)]) hx hb dX1_addMultipleAt_14 hl (by decide) rfl (fun ls hl => ?_)
  refine lv_iload_n hx hb dX1_addMultipleAt_16 rfl (lv_at hl 3 rfl) ?_
  refine lv_istore (lv' := [(8, .int p1), (7, .int x2), (5, .long (0 : Int64)), (0, .ref h), (1, .int p1), (2, .ref p2), (3, .long p3)]) hx hb dX1_addMultipleAt_17 hl (by decide) rfl (fun ls hl => ?_)
  exact hL19 _ _ _ _ _ _ _ _ _ _ _ hv (lv_sub hl [3, 4, 5, 6, 2, 1, 0] rfl) hS
set_option maxRecDepth 100000 in
set_option maxHeartbeats 4000000 in
theorem R_X1_addMultipleAt_19 {E : cx} {p : Program} {e : Env} {s : State} {m : MethodId} {below : List Frame} {meth : Method} {c : Code} {f0 : hm} {zh : Nat} {zp1 : Int32} {zp2 : Nat} {zp3 : Int64} (C : wB E.2.1 vwCl (eT E) yX1_addMultipleAt cX1_addMultipleAt 11 none wsX1_addMultipleAt [.ref zh, .int zp1, .ref zp2, .long zp3] f0 p s m meth c) (a_0 : Nat) (x_1 : Int32) (a_2 : Nat) (x_3 : Int64) (x_5 : Int64) (x_7 : Int32) (x_8 : Int32) (f : hm) {L19 : Nat → Int32 → Nat → Int64 → Int64 → Int32 → Int32 → hm → Prop} {K : hm → Prop} (hv : X_X1_addMultipleAt_19 E a_0 x_1 a_2 x_3 x_5 x_7 x_8 f L19 K) {ls : Array Slot} {H : Heap} {locs : List Loc} (hl : lv_has ls 11 [(0, .ref a_0), (1, .int x_1), (2, .ref a_2), (3, .long x_3), (5, .long x_5), (7, .int x_7), (8, .int x_8)]) (hS : wS E.2.1 vwCl (wA f0 s.heap.size) s.heap f H locs) (hL19 : ∀ (y_0 : Nat) (y_1 : Int32) (y_2 : Nat) (y_3 : Int64) (y_5 : Int64) (y_7 : Int32) (y_8 : Int32) (f : hm) (ls : Array Slot) (H : Heap) (locs : List Loc), L19 y_0 y_1 y_2 y_3 y_5 y_7 y_8 f → lv_has ls 11 [(0, .ref y_0), (1, .int y_1), (2, .ref y_2), (3, .long y_3), (5, .long y_5), (7, .int y_7), (8, .int y_8)] → wS E.2.1 vwCl (wA f0 s.heap.size) s.heap f H locs → W p E.1 e ({ frames := 1, cells := 0, slots := 0, locals := 21 }) s m ([.ref zh, .int zp1, .ref zp2, .long zp3] : List Value).toArray below meth c H locs 0 0 (MQ below (wQv f0 E.2.1 vwCl K s) ([.ref zh, .int zp1, .ref zp2, .long zp3] : List Value).toArray s 0 0 (wA f0 s.heap.size)) (F0 m 19 ls [])) : W p E.1 e ({ frames := 1, cells := 0, slots := 0, locals := 21 }) s m ([.ref zh, .int zp1, .ref zp2, .long zp3] : List Value).toArray below meth c H locs 0 0 (MQ below (wQv f0 E.2.1 vwCl K s) ([.ref zh, .int zp1, .ref zp2, .long zp3] : List Value).toArray s 0 0 (wA f0 s.heap.size)) (F0 m 19 ls []) := by
  obtain ⟨hx, hb, hml, hown, hts, hr, hlk, hnm, hK, -⟩ := C
  unfold X_X1_addMultipleAt_19 at hv
  refine lv_iload hx hb dX1_addMultipleAt_19 (lv_at hl 6 rfl) ?_
  refine lv_iload hx hb dX1_addMultipleAt_21 (lv_at hl 5 rfl) ?_
  refine lv_icmp_gt (tgt := 71) hx hb dX1_addMultipleAt_23 (by decide) (fun c1 => ?_) (fun c1 => ?_)
  · have hv := hv.1 c1
    exact fw_vret hx hb hr hlk hS hv dX1_addMultipleAt_71
  · have hv := hv.2 c1
    refine lv_lload_n hx hb dX1_addMultipleAt_26 rfl (lv_at hl 3 rfl) ?_
    refine lv_aload_n hx hb dX1_addMultipleAt_27 rfl (lv_at hl 2 rfl) ?_
    refine lv_iload hx hb dX1_addMultipleAt_28 (lv_at hl 6 rfl) ?_
    refine lv_iload_n hx hb dX1_addMultipleAt_30 rfl (lv_at hl 1 rfl) ?_
    refine lv_isub hx hb dX1_addMultipleAt_31 ?_
    obtain ⟨ho2, hv⟩ := hv
    refine fw_callVl hx hb hml hown hts hK hS [.int (x_8 - x_1)] [.long x_3] hv gX1_addMultipleAt_X1_limb rfl rfl rfl 1 (by decide +kernel) ⟨Nat.le_of_ble_eq_true rfl, Nat.le_of_ble_eq_true rfl⟩ rfl rfl ho2 rfl hl.1 rfl (Nat.le_of_ble_eq_true rfl) dX1_addMultipleAt_32 ⟨Nat.zero_le _, Nat.zero_le _⟩ (fun r4 f3 H locs hv hS => ?_)
    refine lv_lmul hx hb dX1_addMultipleAt_35 ?_
    refine lv_aload_n hx hb dX1_addMultipleAt_36 rfl (lv_at hl 0 rfl) ?_
    refine lv_iload hx hb dX1_addMultipleAt_37 (lv_at hl 6 rfl) ?_
    obtain ⟨ho5, hv⟩ := hv
    refine fw_callVl hx hb hml hown hts hK hS [.int x_8] [.long (x_3 * r4)] hv gX1_addMultipleAt_X1_limb rfl rfl rfl 1 (by decide +kernel) ⟨Nat.le_of_ble_eq_true rfl, Nat.le_of_ble_eq_true rfl⟩ rfl rfl ho5 rfl hl.1 rfl (Nat.le_of_ble_eq_true rfl) dX1_addMultipleAt_39 ⟨Nat.zero_le _, Nat.zero_le _⟩ (fun r7 f6 H locs hv hS => ?_)
    refine lv_ladd hx hb dX1_addMultipleAt_42 ?_
    refine lv_lload hx hb dX1_addMultipleAt_43 (lv_at hl 4 rfl) ?_
    refine lv_ladd hx hb dX1_addMultipleAt_45 ?_
    refine lv_topl (fun x8 ex8 => ?_)
    have hv := hv x8 ex8
    refine lv_lstore (lv' := [(9, .long x8), (0, .ref a_0), (1, .int x_1), (2, .ref a_2), (3, .long x_3), (5, .long x_5), (7, .int x_7), (8, .int x_8)]) hx hb dX1_addMultipleAt_46 hl (by decide) rfl (fun ls hl => ?_)
    refine lv_aload_n hx hb dX1_addMultipleAt_48 rfl (lv_at hl 1 rfl) ?_
    obtain ⟨v9, ev9, hv⟩ := hv
    refine fw_get hx hb hts ii_X1_addMultipleAt_X1 hown hK hS 0 ev9 rfl (by decide) mm_X1_addMultipleAt_5 rfl dX1_addMultipleAt_49 ?_
    refine lv_iload hx hb dX1_addMultipleAt_52 (lv_at hl 7 rfl) ?_
    refine lv_lload hx hb dX1_addMultipleAt_54 (lv_at hl 0 rfl) ?_
    refine lv_l2i hx hb dX1_addMultipleAt_56 rfl ?_
    obtain ⟨f10, ef10, hv⟩ := hv
    refine fw_ast hx hb hK hS 0 rfl ef10 dX1_addMultipleAt_57 (fun H locs hS => ?_)
    refine lv_lload hx hb dX1_addMultipleAt_58 (lv_at hl 0 rfl) ?_
    refine lv_bipush (v := 32) hx hb dX1_addMultipleAt_60 (by decide) ?_
    refine lv_lushr (v := j_lushr x8 (32 : Int32)) hx hb dX1_addMultipleAt_62 rfl ?_
    refine lv_topl (fun x11 ex11 => ?_)
    have hv := hv x11 ex11
    refine lv_lstore (lv' := [(5, .long x11), (9, .long x8), (0, .ref a_0), (1, .int x_1), (2, .ref a_2), (3, .long x_3), (7, .int x_7), (8, .int x_8)]) hx hb dX1_addMultipleAt_63 hl (by decide) rfl (fun ls hl => ?_)
    obtain ⟨x12, ex12⟩ : ∃ y : Int32, y = x_8 + (1) := ⟨_, rfl⟩
    have hv := hv x12 ex12
    refine lv_iinc (v := x12) (lv' := [(8, .int x12), (5, .long x11), (9, .long x8), (0, .ref a_0), (1, .int x_1), (2, .ref a_2), (3, .long x_3), (7, .int x_7)]) hx hb dX1_addMultipleAt_65 hl (k := 7) rfl (by rw [ex12]; rfl) (by decide) rfl (fun ls hl => ?_)
    refine lv_goto (tgt := 19) hx hb dX1_addMultipleAt_68 (by decide) ?_
    exact hL19 _ _ _ _ _ _ _ _ _ _ _ hv (lv_sub hl [3, 4, 5, 6, 1, 7, 0] rfl) hS
set_option maxRecDepth 100000 in
set_option maxHeartbeats 4000000 in
theorem T_X1_addMultipleAt {E : cx} {h : Nat} {p1 : Int32} {p2 : Nat} {p3 : Int64} {f : hm} {K : hm → Prop} (I19 : Nat → Nat → Int32 → Nat → Int64 → Int64 → Int32 → Int32 → hm → Prop) (h0 : X_X1_addMultipleAt_0 E h p1 p2 p3 f (fun (y_0 : Nat) (y_1 : Int32) (y_2 : Nat) (y_3 : Int64) (y_5 : Int64) (y_7 : Int32) (y_8 : Int32) (f : hm) => ∃ k : Nat, I19 k y_0 y_1 y_2 y_3 y_5 y_7 y_8 f) K) (h19 : ∀ (n : Nat) (a_0 : Nat) (x_1 : Int32) (a_2 : Nat) (x_3 : Int64) (x_5 : Int64) (x_7 : Int32) (x_8 : Int32) (f : hm), I19 n a_0 x_1 a_2 x_3 x_5 x_7 x_8 f → X_X1_addMultipleAt_19 E a_0 x_1 a_2 x_3 x_5 x_7 x_8 f (fun (y_0 : Nat) (y_1 : Int32) (y_2 : Nat) (y_3 : Int64) (y_5 : Int64) (y_7 : Int32) (y_8 : Int32) (f : hm) => ∃ k : Nat, k < n ∧ I19 k y_0 y_1 y_2 y_3 y_5 y_7 y_8 f) K) : S_X1_addMultipleAt E h p1 p2 p3 f K := by
  refine MV_of (cc := cX1_addMultipleAt) (maxL := 11) (ret := none) (by decide) rfl ?_
  intro p e s m below meth c C
  have hl := lv_entry ([.ref h, .int p1, .ref p2, .long p3]) (n := 11) (Nat.le_of_ble_eq_true rfl)
  rw [lg_entry_eq]
  generalize (lg_sl ([.ref h, .int p1, .ref p2, .long p3]) ++ List.replicate (11 - (lg_sl ([.ref h, .int p1, .ref p2, .long p3])).length) Slot.unset).toArray = ls at hl ⊢
  have hl : lv_has ls 11 [(0, .ref h), (1, .int p1), (2, .ref p2), (3, .long p3)] := hl
  have hS := C.2.2.2.2.2.2.2.2.2
  have key : ∀ n : Nat, (∀ (a_0 : Nat) (x_1 : Int32) (a_2 : Nat) (x_3 : Int64) (x_5 : Int64) (x_7 : Int32) (x_8 : Int32) (g : hm) (ls : Array Slot) (H : Heap) (locs : List Loc), I19 n a_0 x_1 a_2 x_3 x_5 x_7 x_8 g → lv_has ls 11 [(0, .ref a_0), (1, .int x_1), (2, .ref a_2), (3, .long x_3), (5, .long x_5), (7, .int x_7), (8, .int x_8)] → wS E.2.1 vwCl (wA f s.heap.size) s.heap g H locs → W p E.1 e ({ frames := 1, cells := 0, slots := 0, locals := 21 }) s m ([.ref h, .int p1, .ref p2, .long p3] : List Value).toArray below meth c H locs 0 0 (MQ below (wQv f E.2.1 vwCl K s) ([.ref h, .int p1, .ref p2, .long p3] : List Value).toArray s 0 0 (wA f s.heap.size)) (F0 m 19 ls [])) := by
    refine st_ind (fun n ih => ?_)
    intro a_0 x_1 a_2 x_3 x_5 x_7 x_8 g ls H locs hI hl hS
    exact R_X1_addMultipleAt_19 C a_0 x_1 a_2 x_3 x_5 x_7 x_8 g (h19 n a_0 x_1 a_2 x_3 x_5 x_7 x_8 g hI) hl hS (fun _ _ _ _ _ _ _ _ _ _ _ hI hl hS => by obtain ⟨k, hk, hI⟩ := hI; exact (ih k hk) _ _ _ _ _ _ _ _ _ _ _ hI hl hS)
  exact R_X1_addMultipleAt_0 C h p1 p2 p3 f h0 hl hS (fun _ _ _ _ _ _ _ _ _ _ _ hI hl hS => by obtain ⟨k, hI⟩ := hI; exact (key k) _ _ _ _ _ _ _ _ _ _ _ hI hl hS)
/-! ContinuedRatios$Natural.becomeProduct(LContinuedRatios$Natural;LContinuedRatios$Natural;)V -/
def S_X1_becomeProduct (E : cx) (h : Nat) (p1 : Nat) (p2 : Nat) (f : hm) (K : hm → Prop) : Prop := MV E.1 E.2.1 vwCl (eT E) yX1_becomeProduct wsX1_becomeProduct ({ frames := 2, cells := 0, slots := 0, locals := 51 }) [.ref h, .ref p1, .ref p2] f K
theorem mm_X1_becomeProduct_0 : Cond.fieldLink RX1 13 "ContinuedRatios$Natural" "length" "I" ∈ wsX1_becomeProduct := by decide +kernel
theorem ii_X1_becomeProduct_X1 : ∀ w ∈ u_ws RX1 TX1 2, w ∈ wsX1_becomeProduct := by decide +kernel
def X_X1_becomeProduct_0 (E : cx) (h : Nat) (p1 : Nat) (p2 : Nat) (f : hm) (L6 : Nat → Nat → Nat → Int32 → hm → Prop) (K : hm → Prop) : Prop :=
  (isO f h 1 ∧ S_X1_clear E h f (fun (f2 : hm) => L6 h p1 p2 (0 : Int32) f2))
def X_X1_becomeProduct_6 (E : cx) (a_0 : Nat) (a_1 : Nat) (a_2 : Nat) (x_3 : Int32) (f : hm) (L6 : Nat → Nat → Nat → Int32 → hm → Prop) (K : hm → Prop) : Prop :=
  (∃ v1 : Int32, rdV f a_1 1 1 = some (.int v1) ∧ ((v1 ≤ x_3 → (isO f a_0 1 ∧ S_X1_trimFrom E a_0 (20 : Int32) f (fun (f4 : hm) => K f4))) ∧ (¬ (v1 ≤ x_3) → (isO f a_1 1 ∧ S_X1_limb E a_1 x_3 f (fun (r7 : Int64) (f6 : hm) => (isO f6 a_0 1 ∧ S_X1_addMultipleAt E a_0 x_3 a_2 r7 f6 (fun (f9 : hm) => (∀ x10 : Int32, x10 = x_3 + (1) → L6 a_0 a_1 a_2 x10 f9))))))))
set_option maxRecDepth 100000 in
set_option maxHeartbeats 4000000 in
theorem R_X1_becomeProduct_0 {E : cx} {p : Program} {e : Env} {s : State} {m : MethodId} {below : List Frame} {meth : Method} {c : Code} {f0 : hm} {zh : Nat} {zp1 : Nat} {zp2 : Nat} (C : wB E.2.1 vwCl (eT E) yX1_becomeProduct cX1_becomeProduct 4 none wsX1_becomeProduct [.ref zh, .ref zp1, .ref zp2] f0 p s m meth c) (h : Nat) (p1 : Nat) (p2 : Nat) (f : hm) {L6 : Nat → Nat → Nat → Int32 → hm → Prop} {K : hm → Prop} (hv : X_X1_becomeProduct_0 E h p1 p2 f L6 K) {ls : Array Slot} {H : Heap} {locs : List Loc} (hl : lv_has ls 4 [(0, .ref h), (1, .ref p1), (2, .ref p2)]) (hS : wS E.2.1 vwCl (wA f0 s.heap.size) s.heap f H locs) (hL6 : ∀ (y_0 : Nat) (y_1 : Nat) (y_2 : Nat) (y_3 : Int32) (f : hm) (ls : Array Slot) (H : Heap) (locs : List Loc), L6 y_0 y_1 y_2 y_3 f → lv_has ls 4 [(0, .ref y_0), (1, .ref y_1), (2, .ref y_2), (3, .int y_3)] → wS E.2.1 vwCl (wA f0 s.heap.size) s.heap f H locs → W p E.1 e ({ frames := 2, cells := 0, slots := 0, locals := 51 }) s m ([.ref zh, .ref zp1, .ref zp2] : List Value).toArray below meth c H locs 0 0 (MQ below (wQv f0 E.2.1 vwCl K s) ([.ref zh, .ref zp1, .ref zp2] : List Value).toArray s 0 0 (wA f0 s.heap.size)) (F0 m 6 ls [])) : W p E.1 e ({ frames := 2, cells := 0, slots := 0, locals := 51 }) s m ([.ref zh, .ref zp1, .ref zp2] : List Value).toArray below meth c H locs 0 0 (MQ below (wQv f0 E.2.1 vwCl K s) ([.ref zh, .ref zp1, .ref zp2] : List Value).toArray s 0 0 (wA f0 s.heap.size)) (F0 m 0 ls []) := by
  obtain ⟨hx, hb, hml, hown, hts, hr, hlk, hnm, hK, -⟩ := C
  unfold X_X1_becomeProduct_0 at hv
  refine lv_aload_n hx hb dX1_becomeProduct_0 rfl (lv_at hl 0 rfl) ?_
  obtain ⟨ho1, hv⟩ := hv
  refine fw_callVv hx hb hml hown hts hK hS [] [] hv gX1_becomeProduct_X1_clear rfl rfl rfl 0 (by decide +kernel) ⟨Nat.le_of_ble_eq_true rfl, Nat.le_of_ble_eq_true rfl⟩ rfl rfl ho1 rfl hl.1 rfl (Nat.le_of_ble_eq_true rfl) dX1_becomeProduct_1 ⟨Nat.zero_le _, Nat.zero_le _⟩ (fun f2 H locs hv hS => ?_)
  refine lv_iconst (v := 0) hx hb dX1_becomeProduct_4 (by decide) ?_
  refine lv_istore_n (lv' := [(3, .int (0 : Int32)), (0, .ref h), (1, .ref p1), (2, .ref p2)]) hx hb dX1_becomeProduct_5 rfl hl (by decide) rfl (fun ls hl => ?_)
  exact hL6 _ _ _ _ _ _ _ _ hv (lv_sub hl [1, 2, 3, 0] rfl) hS
set_option maxRecDepth 100000 in
set_option maxHeartbeats 4000000 in
theorem R_X1_becomeProduct_6 {E : cx} {p : Program} {e : Env} {s : State} {m : MethodId} {below : List Frame} {meth : Method} {c : Code} {f0 : hm} {zh : Nat} {zp1 : Nat} {zp2 : Nat} (C : wB E.2.1 vwCl (eT E) yX1_becomeProduct cX1_becomeProduct 4 none wsX1_becomeProduct [.ref zh, .ref zp1, .ref zp2] f0 p s m meth c) (a_0 : Nat) (a_1 : Nat) (a_2 : Nat) (x_3 : Int32) (f : hm) {L6 : Nat → Nat → Nat → Int32 → hm → Prop} {K : hm → Prop} (hv : X_X1_becomeProduct_6 E a_0 a_1 a_2 x_3 f L6 K) {ls : Array Slot} {H : Heap} {locs : List Loc} (hl : lv_has ls 4 [(0, .ref a_0), (1, .ref a_1), (2, .ref a_2), (3, .int x_3)]) (hS : wS E.2.1 vwCl (wA f0 s.heap.size) s.heap f H locs) (hL6 : ∀ (y_0 : Nat) (y_1 : Nat) (y_2 : Nat) (y_3 : Int32) (f : hm) (ls : Array Slot) (H : Heap) (locs : List Loc), L6 y_0 y_1 y_2 y_3 f → lv_has ls 4 [(0, .ref y_0), (1, .ref y_1), (2, .ref y_2), (3, .int y_3)] → wS E.2.1 vwCl (wA f0 s.heap.size) s.heap f H locs → W p E.1 e ({ frames := 2, cells := 0, slots := 0, locals := 51 }) s m ([.ref zh, .ref zp1, .ref zp2] : List Value).toArray below meth c H locs 0 0 (MQ below (wQv f0 E.2.1 vwCl K s) ([.ref zh, .ref zp1, .ref zp2] : List Value).toArray s 0 0 (wA f0 s.heap.size)) (F0 m 6 ls [])) : W p E.1 e ({ frames := 2, cells := 0, slots := 0, locals := 51 }) s m ([.ref zh, .ref zp1, .ref zp2] : List Value).toArray below meth c H locs 0 0 (MQ below (wQv f0 E.2.1 vwCl K s) ([.ref zh, .ref zp1, .ref zp2] : List Value).toArray s 0 0 (wA f0 s.heap.size)) (F0 m 6 ls []) := by
  obtain ⟨hx, hb, hml, hown, hts, hr, hlk, hnm, hK, -⟩ := C
  unfold X_X1_becomeProduct_6 at hv
  refine lv_iload_n hx hb dX1_becomeProduct_6 rfl (lv_at hl 3 rfl) ?_
  refine lv_aload_n hx hb dX1_becomeProduct_7 rfl (lv_at hl 1 rfl) ?_
  obtain ⟨v1, ev1, hv⟩ := hv
  refine fw_get hx hb hts ii_X1_becomeProduct_X1 hown hK hS 1 ev1 rfl (by decide) mm_X1_becomeProduct_0 rfl dX1_becomeProduct_8 ?_
  refine lv_icmp_ge (tgt := 31) hx hb dX1_becomeProduct_11 (by decide) (fun c2 => ?_) (fun c2 => ?_)
  · have hv := hv.1 c2
    refine lv_aload_n hx hb dX1_becomeProduct_31 rfl (lv_at hl 0 rfl) ?_
    refine lv_bipush (v := 20) hx hb dX1_becomeProduct_32 (by decide) ?_
    obtain ⟨ho3, hv⟩ := hv
    refine fw_callVv hx hb hml hown hts hK hS [.int (20 : Int32)] [] hv gX1_becomeProduct_X1_trimFrom rfl rfl rfl 1 (by decide +kernel) ⟨Nat.le_of_ble_eq_true rfl, Nat.le_of_ble_eq_true rfl⟩ rfl rfl ho3 rfl hl.1 rfl (Nat.le_of_ble_eq_true rfl) dX1_becomeProduct_34 ⟨Nat.zero_le _, Nat.zero_le _⟩ (fun f4 H locs hv hS => ?_)
    exact fw_vret hx hb hr hlk hS hv dX1_becomeProduct_37
  · have hv := hv.2 c2
    refine lv_aload_n hx hb dX1_becomeProduct_14 rfl (lv_at hl 0 rfl) ?_
    refine lv_iload_n hx hb dX1_becomeProduct_15 rfl (lv_at hl 3 rfl) ?_
    refine lv_aload_n hx hb dX1_becomeProduct_16 rfl (lv_at hl 2 rfl) ?_
    refine lv_aload_n hx hb dX1_becomeProduct_17 rfl (lv_at hl 1 rfl) ?_
    refine lv_iload_n hx hb dX1_becomeProduct_18 rfl (lv_at hl 3 rfl) ?_
    obtain ⟨ho5, hv⟩ := hv
    refine fw_callVl hx hb hml hown hts hK hS [.int x_3] [.ref a_2, .int x_3, .ref a_0] hv gX1_becomeProduct_X1_limb rfl rfl rfl 1 (by decide +kernel) ⟨Nat.le_of_ble_eq_true rfl, Nat.le_of_ble_eq_true rfl⟩ rfl rfl ho5 rfl hl.1 rfl (Nat.le_of_ble_eq_true rfl) dX1_becomeProduct_19 ⟨Nat.zero_le _, Nat.zero_le _⟩ (fun r7 f6 H locs hv hS => ?_)
    obtain ⟨ho8, hv⟩ := hv
    refine fw_callVv hx hb hml hown hts hK hS [.int x_3, .ref a_2, .long r7] [] hv gX1_becomeProduct_X1_addMultipleAt rfl rfl rfl 3 (by decide +kernel) ⟨Nat.le_of_ble_eq_true rfl, Nat.le_of_ble_eq_true rfl⟩ rfl rfl ho8 rfl hl.1 rfl (Nat.le_of_ble_eq_true rfl) dX1_becomeProduct_22 ⟨Nat.zero_le _, Nat.zero_le _⟩ (fun f9 H locs hv hS => ?_)
    obtain ⟨x10, ex10⟩ : ∃ y : Int32, y = x_3 + (1) := ⟨_, rfl⟩
    have hv := hv x10 ex10
    refine lv_iinc (v := x10) (lv' := [(3, .int x10), (0, .ref a_0), (1, .ref a_1), (2, .ref a_2)]) hx hb dX1_becomeProduct_25 hl (k := 3) rfl (by rw [ex10]; rfl) (by decide) rfl (fun ls hl => ?_)
    refine lv_goto (tgt := 6) hx hb dX1_becomeProduct_28 (by decide) ?_
    exact hL6 _ _ _ _ _ _ _ _ hv (lv_sub hl [1, 2, 3, 0] rfl) hS
set_option maxRecDepth 100000 in
set_option maxHeartbeats 4000000 in
theorem T_X1_becomeProduct {E : cx} {h : Nat} {p1 : Nat} {p2 : Nat} {f : hm} {K : hm → Prop} (I6 : Nat → Nat → Nat → Nat → Int32 → hm → Prop) (h0 : X_X1_becomeProduct_0 E h p1 p2 f (fun (y_0 : Nat) (y_1 : Nat) (y_2 : Nat) (y_3 : Int32) (f : hm) => ∃ k : Nat, I6 k y_0 y_1 y_2 y_3 f) K) (h6 : ∀ (n : Nat) (a_0 : Nat) (a_1 : Nat) (a_2 : Nat) (x_3 : Int32) (f : hm), I6 n a_0 a_1 a_2 x_3 f → X_X1_becomeProduct_6 E a_0 a_1 a_2 x_3 f (fun (y_0 : Nat) (y_1 : Nat) (y_2 : Nat) (y_3 : Int32) (f : hm) => ∃ k : Nat, k < n ∧ I6 k y_0 y_1 y_2 y_3 f) K) : S_X1_becomeProduct E h p1 p2 f K := by
  refine MV_of (cc := cX1_becomeProduct) (maxL := 4) (ret := none) (by decide) rfl ?_
  intro p e s m below meth c C
  have hl := lv_entry ([.ref h, .ref p1, .ref p2]) (n := 4) (Nat.le_of_ble_eq_true rfl)
  rw [lg_entry_eq]
  generalize (lg_sl ([.ref h, .ref p1, .ref p2]) ++ List.replicate (4 - (lg_sl ([.ref h, .ref p1, .ref p2])).length) Slot.unset).toArray = ls at hl ⊢
  have hl : lv_has ls 4 [(0, .ref h), (1, .ref p1), (2, .ref p2)] := hl
  have hS := C.2.2.2.2.2.2.2.2.2
  have key : ∀ n : Nat, (∀ (a_0 : Nat) (a_1 : Nat) (a_2 : Nat) (x_3 : Int32) (g : hm) (ls : Array Slot) (H : Heap) (locs : List Loc), I6 n a_0 a_1 a_2 x_3 g → lv_has ls 4 [(0, .ref a_0), (1, .ref a_1), (2, .ref a_2), (3, .int x_3)] → wS E.2.1 vwCl (wA f s.heap.size) s.heap g H locs → W p E.1 e ({ frames := 2, cells := 0, slots := 0, locals := 51 }) s m ([.ref h, .ref p1, .ref p2] : List Value).toArray below meth c H locs 0 0 (MQ below (wQv f E.2.1 vwCl K s) ([.ref h, .ref p1, .ref p2] : List Value).toArray s 0 0 (wA f s.heap.size)) (F0 m 6 ls [])) := by
    refine st_ind (fun n ih => ?_)
    intro a_0 a_1 a_2 x_3 g ls H locs hI hl hS
    exact R_X1_becomeProduct_6 C a_0 a_1 a_2 x_3 g (h6 n a_0 a_1 a_2 x_3 g hI) hl hS (fun _ _ _ _ _ _ _ _ hI hl hS => by obtain ⟨k, hk, hI⟩ := hI; exact (ih k hk) _ _ _ _ _ _ _ _ hI hl hS)
  exact R_X1_becomeProduct_0 C h p1 p2 f h0 hl hS (fun _ _ _ _ _ _ _ _ hI hl hS => by obtain ⟨k, hI⟩ := hI; exact (key k) _ _ _ _ _ _ _ _ hI hl hS)
/-! ContinuedRatios$Natural.takeAwayAt(ILContinuedRatios$Natural;J)Z -/
def S_X1_takeAwayAt (E : cx) (h : Nat) (p1 : Int32) (p2 : Nat) (p3 : Int64) (f : hm) (K : Int32 → hm → Prop) : Prop := MI E.1 E.2.1 vwCl (eT E) yX1_takeAwayAt wsX1_takeAwayAt ({ frames := 1, cells := 0, slots := 0, locals := 21 }) [.ref h, .int p1, .ref p2, .long p3] f K
theorem mm_X1_takeAwayAt_0 : Cond.fieldLink RX1 13 "ContinuedRatios$Natural" "length" "I" ∈ wsX1_takeAwayAt := by decide +kernel
theorem mm_X1_takeAwayAt_1 : Cond.methodLink RX1 68 Lib.Math.min.name ∈ wsX1_takeAwayAt := by decide +kernel
theorem mm_X1_takeAwayAt_2 : Cond.static Lib.Math.min.name ∈ wsX1_takeAwayAt := by decide +kernel
theorem mm_X1_takeAwayAt_3 : Cond.initialized "java/lang/Math" ∈ wsX1_takeAwayAt := by decide +kernel
theorem mm_X1_takeAwayAt_4 : Cond.code Lib.Math.min.name Lib.Math.min.code 2 (some .int) ∈ wsX1_takeAwayAt := by decide +kernel
theorem mm_X1_takeAwayAt_5 : Cond.constantLong RX1 17 (4294967295) ∈ wsX1_takeAwayAt := by decide +kernel
theorem mm_X1_takeAwayAt_6 : Cond.fieldLink RX1 9 "ContinuedRatios$Natural" "limbs" "[I" ∈ wsX1_takeAwayAt := by decide +kernel
theorem ii_X1_takeAwayAt_X1 : ∀ w ∈ u_ws RX1 TX1 2, w ∈ wsX1_takeAwayAt := by decide +kernel
def X_X1_takeAwayAt_0 (E : cx) (h : Nat) (p1 : Int32) (p2 : Nat) (p3 : Int64) (f : hm) (L22 : Nat → Int32 → Nat → Int64 → Int64 → Int64 → Int32 → Int32 → hm → Prop) (K : Int32 → hm → Prop) : Prop :=
  (∃ v1 : Int32, rdV f p2 1 1 = some (.int v1) ∧ (∀ x2 : Int32, x2 = (if (19 : Int32) < (p1 + v1) then (19 : Int32) else (p1 + v1)) → L22 h p1 p2 p3 (0 : Int64) (0 : Int64) x2 p1 f))
def X_X1_takeAwayAt_22 (E : cx) (a_0 : Nat) (x_1 : Int32) (a_2 : Nat) (x_3 : Int64) (x_5 : Int64) (x_7 : Int64) (x_9 : Int32) (x_10 : Int32) (f : hm) (L22 : Nat → Int32 → Nat → Int64 → Int64 → Int64 → Int32 → Int32 → hm → Prop) (K : Int32 → hm → Prop) : Prop :=
  ((x_9 < x_10 → (((lg_cmp x_7 (0 : Int64)) = 0 → (narrow .boolean (.int (0 : Int32)) = .int (0 : Int32) ∧ K (0 : Int32) f)) ∧ (¬ ((lg_cmp x_7 (0 : Int64)) = 0) → (narrow .boolean (.int (1 : Int32)) = .int (1 : Int32) ∧ K (1 : Int32) f)))) ∧ (¬ (x_9 < x_10) → (isO f a_2 1 ∧ S_X1_limb E a_2 (x_10 - x_1) f (fun (r5 : Int64) (f4 : hm) => (∀ x6 : Int64, x6 = ((x_3 * r5) + x_5) → (isO f4 a_0 1 ∧ S_X1_limb E a_0 x_10 f4 (fun (r9 : Int64) (f8 : hm) => (∀ x10 : Int64, x10 = ((r9 - (x6 &&& (4294967295 : Int64))) - x_7) → (∃ v11 : Nat, rdV f8 a_0 1 0 = some (.ref v11) ∧ (∃ f12 : hm, wrA (eI E) f8 v11 x_10 x10.toInt32 = some f12 ∧ (∀ x13 : Int64, x13 = (j_lushr x6 (32 : Int32)) → ((0 ≤ (lg_cmp x10 (0 : Int64)) → (∀ x15 : Int32, x15 = x_10 + (1) → L22 a_0 x_1 a_2 x_3 x13 (0 : Int64) x_9 x15 f12)) ∧ (¬ (0 ≤ (lg_cmp x10 (0 : Int64))) → (∀ x16 : Int32, x16 = x_10 + (1) → L22 a_0 x_1 a_2 x_3 x13 (1 : Int64) x_9 x16 f12))))))))))))))
set_option maxRecDepth 100000 in
set_option maxHeartbeats 4000000 in
theorem R_X1_takeAwayAt_0 {E : cx} {p : Program} {e : Env} {s : State} {m : MethodId} {below : List Frame} {meth : Method} {c : Code} {f0 : hm} {zh : Nat} {zp1 : Int32} {zp2 : Nat} {zp3 : Int64} (C : wB E.2.1 vwCl (eT E) yX1_takeAwayAt cX1_takeAwayAt 15 (some .boolean) wsX1_takeAwayAt [.ref zh, .int zp1, .ref zp2, .long zp3] f0 p s m meth c) (h : Nat) (p1 : Int32) (p2 : Nat) (p3 : Int64) (f : hm) {L22 : Nat → Int32 → Nat → Int64 → Int64 → Int64 → Int32 → Int32 → hm → Prop} {K : Int32 → hm → Prop} (hv : X_X1_takeAwayAt_0 E h p1 p2 p3 f L22 K) {ls : Array Slot} {H : Heap} {locs : List Loc} (hl : lv_has ls 15 [(0, .ref h), (1, .int p1), (2, .ref p2), (3, .long p3)]) (hS : wS E.2.1 vwCl (wA f0 s.heap.size) s.heap f H locs) (hL22 : ∀ (y_0 : Nat) (y_1 : Int32) (y_2 : Nat) (y_3 : Int64) (y_5 : Int64) (y_7 : Int64) (y_9 : Int32) (y_10 : Int32) (f : hm) (ls : Array Slot) (H : Heap) (locs : List Loc), L22 y_0 y_1 y_2 y_3 y_5 y_7 y_9 y_10 f → lv_has ls 15 [(0, .ref y_0), (1, .int y_1), (2, .ref y_2), (3, .long y_3), (5, .long y_5), (7, .long y_7), (9, .int y_9), (10, .int y_10)] → wS E.2.1 vwCl (wA f0 s.heap.size) s.heap f H locs → W p E.1 e ({ frames := 1, cells := 0, slots := 0, locals := 21 }) s m ([.ref zh, .int zp1, .ref zp2, .long zp3] : List Value).toArray below meth c H locs 0 0 (MQ below (wQi f0 E.2.1 vwCl K s) ([.ref zh, .int zp1, .ref zp2, .long zp3] : List Value).toArray s 0 0 (wA f0 s.heap.size)) (F0 m 22 ls [])) : W p E.1 e ({ frames := 1, cells := 0, slots := 0, locals := 21 }) s m ([.ref zh, .int zp1, .ref zp2, .long zp3] : List Value).toArray below meth c H locs 0 0 (MQ below (wQi f0 E.2.1 vwCl K s) ([.ref zh, .int zp1, .ref zp2, .long zp3] : List Value).toArray s 0 0 (wA f0 s.heap.size)) (F0 m 0 ls []) := by
  obtain ⟨hx, hb, hml, hown, hts, hr, hlk, hnm, hK, -⟩ := C
  unfold X_X1_takeAwayAt_0 at hv
  refine lv_lconst (v := 0) hx hb dX1_takeAwayAt_0 (by decide) ?_
  refine lv_lstore (lv' := [(5, .long (0 : Int64)), (0, .ref h), (1, .int p1), (2, .ref p2), (3, .long p3)]) hx hb dX1_takeAwayAt_1 hl (by decide) rfl (fun ls hl => ?_)
  refine lv_lconst (v := 0) hx hb dX1_takeAwayAt_3 (by decide) ?_
  refine lv_lstore (lv' := [(7, .long (0 : Int64)), (5, .long (0 : Int64)), (0, .ref h), (1, .int p1), (2, .ref p2), (3, .long p3)]) hx hb dX1_takeAwayAt_4 hl (by decide) rfl (fun ls hl => ?_)
  refine lv_iload_n hx hb dX1_takeAwayAt_6 rfl (lv_at hl 3 rfl) ?_
  refine lv_aload_n hx hb dX1_takeAwayAt_7 rfl (lv_at hl 4 rfl) ?_
  obtain ⟨v1, ev1, hv⟩ := hv
  refine fw_get hx hb hts ii_X1_takeAwayAt_X1 hown hK hS 1 ev1 rfl (by decide) mm_X1_takeAwayAt_0 rfl dX1_takeAwayAt_8 ?_
  refine lv_iadd hx hb dX1_takeAwayAt_11 ?_
  refine lv_bipush (v := 19) hx hb dX1_takeAwayAt_12 (by decide) ?_
  refine va_mmin hx hb (hml.trans hl.1.symm) hown (hts _ mm_X1_takeAwayAt_1) (hts _ mm_X1_takeAwayAt_2) (hts _ mm_X1_takeAwayAt_3) (hts _ mm_X1_takeAwayAt_4) (by decide) (Nat.le_of_ble_eq_true rfl) (Nat.zero_le _) (Nat.zero_le _) dX1_takeAwayAt_14 ?_
  refine lv_topi (fun x2 ex2 => ?_)
  have hv := hv x2 ex2
  refine lv_istore (lv' := [(9, .int x2), (7, .long (0 : Int64)), (5, .long (0 : Int64)), (0, .ref h), (1, .int p1), (2, .ref p2), (3, .long p3)]) hx hb dX1_takeAwayAt_17 hl (by decide) rfl (fun ls hl => ?_)
  refine lv_iload_n hx hb dX1_takeAwayAt_19 rfl (lv_at hl 4 rfl) ?_
  refine lv_istore (lv' := [(10, .int p1), (9, .int x2), (7, .long (0 : Int64)), (5, .long (0 : Int64)), (0, .ref h), (1, .int p1), (2, .ref p2), (3, .long p3)]) hx hb dX1_takeAwayAt_20 hl (by decide) rfl (fun ls hl => ?_)
  exact hL22 _ _ _ _ _ _ _ _ _ _ _ _ hv (lv_sub hl [4, 5, 6, 7, 3, 2, 1, 0] rfl) hS
set_option maxRecDepth 100000 in
set_option maxHeartbeats 4000000 in
theorem R_X1_takeAwayAt_22 {E : cx} {p : Program} {e : Env} {s : State} {m : MethodId} {below : List Frame} {meth : Method} {c : Code} {f0 : hm} {zh : Nat} {zp1 : Int32} {zp2 : Nat} {zp3 : Int64} (C : wB E.2.1 vwCl (eT E) yX1_takeAwayAt cX1_takeAwayAt 15 (some .boolean) wsX1_takeAwayAt [.ref zh, .int zp1, .ref zp2, .long zp3] f0 p s m meth c) (a_0 : Nat) (x_1 : Int32) (a_2 : Nat) (x_3 : Int64) (x_5 : Int64) (x_7 : Int64) (x_9 : Int32) (x_10 : Int32) (f : hm) {L22 : Nat → Int32 → Nat → Int64 → Int64 → Int64 → Int32 → Int32 → hm → Prop} {K : Int32 → hm → Prop} (hv : X_X1_takeAwayAt_22 E a_0 x_1 a_2 x_3 x_5 x_7 x_9 x_10 f L22 K) {ls : Array Slot} {H : Heap} {locs : List Loc} (hl : lv_has ls 15 [(0, .ref a_0), (1, .int x_1), (2, .ref a_2), (3, .long x_3), (5, .long x_5), (7, .long x_7), (9, .int x_9), (10, .int x_10)]) (hS : wS E.2.1 vwCl (wA f0 s.heap.size) s.heap f H locs) (hL22 : ∀ (y_0 : Nat) (y_1 : Int32) (y_2 : Nat) (y_3 : Int64) (y_5 : Int64) (y_7 : Int64) (y_9 : Int32) (y_10 : Int32) (f : hm) (ls : Array Slot) (H : Heap) (locs : List Loc), L22 y_0 y_1 y_2 y_3 y_5 y_7 y_9 y_10 f → lv_has ls 15 [(0, .ref y_0), (1, .int y_1), (2, .ref y_2), (3, .long y_3), (5, .long y_5), (7, .long y_7), (9, .int y_9), (10, .int y_10)] → wS E.2.1 vwCl (wA f0 s.heap.size) s.heap f H locs → W p E.1 e ({ frames := 1, cells := 0, slots := 0, locals := 21 }) s m ([.ref zh, .int zp1, .ref zp2, .long zp3] : List Value).toArray below meth c H locs 0 0 (MQ below (wQi f0 E.2.1 vwCl K s) ([.ref zh, .int zp1, .ref zp2, .long zp3] : List Value).toArray s 0 0 (wA f0 s.heap.size)) (F0 m 22 ls [])) : W p E.1 e ({ frames := 1, cells := 0, slots := 0, locals := 21 }) s m ([.ref zh, .int zp1, .ref zp2, .long zp3] : List Value).toArray below meth c H locs 0 0 (MQ below (wQi f0 E.2.1 vwCl K s) ([.ref zh, .int zp1, .ref zp2, .long zp3] : List Value).toArray s 0 0 (wA f0 s.heap.size)) (F0 m 22 ls []) := by
  obtain ⟨hx, hb, hml, hown, hts, hr, hlk, hnm, hK, -⟩ := C
  unfold X_X1_takeAwayAt_22 at hv
  refine lv_iload hx hb dX1_takeAwayAt_22 (lv_at hl 7 rfl) ?_
  refine lv_iload hx hb dX1_takeAwayAt_24 (lv_at hl 6 rfl) ?_
  refine lv_icmp_gt (tgt := 99) hx hb dX1_takeAwayAt_26 (by decide) (fun c1 => ?_) (fun c1 => ?_)
  · have hv := hv.1 c1
    refine lv_lload hx hb dX1_takeAwayAt_99 (lv_at hl 5 rfl) ?_
    refine lv_lconst (v := 0) hx hb dX1_takeAwayAt_101 (by decide) ?_
    refine W.lcmp hx hb dX1_takeAwayAt_102 ?_
    refine lv_if_eq (tgt := 110) hx hb dX1_takeAwayAt_103 (by decide) (fun c2 => ?_) (fun c2 => ?_)
    · have hv := hv.1 c2
      refine lv_iconst (v := 0) hx hb dX1_takeAwayAt_110 (by decide) ?_
      exact fw_zret hx hb hr hlk hS hv dX1_takeAwayAt_111
    · have hv := hv.2 c2
      refine lv_iconst (v := 1) hx hb dX1_takeAwayAt_106 (by decide) ?_
      refine lv_goto (tgt := 111) hx hb dX1_takeAwayAt_107 (by decide) ?_
      exact fw_zret hx hb hr hlk hS hv dX1_takeAwayAt_111
  · have hv := hv.2 c1
    refine lv_lload_n hx hb dX1_takeAwayAt_29 rfl (lv_at hl 3 rfl) ?_
    refine lv_aload_n hx hb dX1_takeAwayAt_30 rfl (lv_at hl 2 rfl) ?_
    refine lv_iload hx hb dX1_takeAwayAt_31 (lv_at hl 7 rfl) ?_
    refine lv_iload_n hx hb dX1_takeAwayAt_33 rfl (lv_at hl 1 rfl) ?_
    refine lv_isub hx hb dX1_takeAwayAt_34 ?_
    obtain ⟨ho3, hv⟩ := hv
    refine fw_callVl hx hb hml hown hts hK hS [.int (x_10 - x_1)] [.long x_3] hv gX1_takeAwayAt_X1_limb rfl rfl rfl 1 (by decide +kernel) ⟨Nat.le_of_ble_eq_true rfl, Nat.le_of_ble_eq_true rfl⟩ rfl rfl ho3 rfl hl.1 rfl (Nat.le_of_ble_eq_true rfl) dX1_takeAwayAt_35 ⟨Nat.zero_le _, Nat.zero_le _⟩ (fun r5 f4 H locs hv hS => ?_)
    refine lv_lmul hx hb dX1_takeAwayAt_38 ?_
    refine lv_lload hx hb dX1_takeAwayAt_39 (lv_at hl 4 rfl) ?_
    refine lv_ladd hx hb dX1_takeAwayAt_41 ?_
    refine lv_topl (fun x6 ex6 => ?_)
    have hv := hv x6 ex6
    refine lv_lstore (lv' := [(11, .long x6), (0, .ref a_0), (1, .int x_1), (2, .ref a_2), (3, .long x_3), (5, .long x_5), (7, .long x_7), (9, .int x_9), (10, .int x_10)]) hx hb dX1_takeAwayAt_42 hl (by decide) rfl (fun ls hl => ?_)
    refine lv_aload_n hx hb dX1_takeAwayAt_44 rfl (lv_at hl 1 rfl) ?_
    refine lv_iload hx hb dX1_takeAwayAt_45 (lv_at hl 8 rfl) ?_
    obtain ⟨ho7, hv⟩ := hv
    refine fw_callVl hx hb hml hown hts hK hS [.int x_10] [] hv gX1_takeAwayAt_X1_limb rfl rfl rfl 1 (by decide +kernel) ⟨Nat.le_of_ble_eq_true rfl, Nat.le_of_ble_eq_true rfl⟩ rfl rfl ho7 rfl hl.1 rfl (Nat.le_of_ble_eq_true rfl) dX1_takeAwayAt_47 ⟨Nat.zero_le _, Nat.zero_le _⟩ (fun r9 f8 H locs hv hS => ?_)
    refine lv_lload hx hb dX1_takeAwayAt_50 (lv_at hl 0 rfl) ?_
    refine lv_ldc2 (v := (4294967295)) hx hb hown (hts _ mm_X1_takeAwayAt_5) dX1_takeAwayAt_52 ?_
    refine lv_land hx hb dX1_takeAwayAt_55 ?_
    refine lv_lsub hx hb dX1_takeAwayAt_56 ?_
    refine lv_lload hx hb dX1_takeAwayAt_57 (lv_at hl 6 rfl) ?_
    refine lv_lsub hx hb dX1_takeAwayAt_59 ?_
    refine lv_topl (fun x10 ex10 => ?_)
    have hv := hv x10 ex10
    refine lv_lstore (lv' := [(13, .long x10), (11, .long x6), (0, .ref a_0), (1, .int x_1), (2, .ref a_2), (3, .long x_3), (5, .long x_5), (7, .long x_7), (9, .int x_9), (10, .int x_10)]) hx hb dX1_takeAwayAt_60 hl (by decide) rfl (fun ls hl => ?_)
    refine lv_aload_n hx hb dX1_takeAwayAt_62 rfl (lv_at hl 2 rfl) ?_
    obtain ⟨v11, ev11, hv⟩ := hv
    refine fw_get hx hb hts ii_X1_takeAwayAt_X1 hown hK hS 0 ev11 rfl (by decide) mm_X1_takeAwayAt_6 rfl dX1_takeAwayAt_63 ?_
    refine lv_iload hx hb dX1_takeAwayAt_66 (lv_at hl 9 rfl) ?_
    refine lv_lload hx hb dX1_takeAwayAt_68 (lv_at hl 0 rfl) ?_
    refine lv_l2i hx hb dX1_takeAwayAt_70 rfl ?_
    obtain ⟨f12, ef12, hv⟩ := hv
    refine fw_ast hx hb hK hS 0 rfl ef12 dX1_takeAwayAt_71 (fun H locs hS => ?_)
    refine lv_lload hx hb dX1_takeAwayAt_72 (lv_at hl 1 rfl) ?_
    refine lv_bipush (v := 32) hx hb dX1_takeAwayAt_74 (by decide) ?_
    refine lv_lushr (v := j_lushr x6 (32 : Int32)) hx hb dX1_takeAwayAt_76 rfl ?_
    refine lv_topl (fun x13 ex13 => ?_)
    have hv := hv x13 ex13
    refine lv_lstore (lv' := [(5, .long x13), (13, .long x10), (11, .long x6), (0, .ref a_0), (1, .int x_1), (2, .ref a_2), (3, .long x_3), (7, .long x_7), (9, .int x_9), (10, .int x_10)]) hx hb dX1_takeAwayAt_77 hl (by decide) rfl (fun ls hl => ?_)
    refine lv_lload hx hb dX1_takeAwayAt_79 (lv_at hl 1 rfl) ?_
    refine lv_lconst (v := 0) hx hb dX1_takeAwayAt_81 (by decide) ?_
    refine W.lcmp hx hb dX1_takeAwayAt_82 ?_
    refine lv_if_ge (tgt := 90) hx hb dX1_takeAwayAt_83 (by decide) (fun c14 => ?_) (fun c14 => ?_)
    · have hv := hv.1 c14
      refine lv_lconst (v := 0) hx hb dX1_takeAwayAt_90 (by decide) ?_
      refine lv_lstore (lv' := [(7, .long (0 : Int64)), (5, .long x13), (13, .long x10), (11, .long x6), (0, .ref a_0), (1, .int x_1), (2, .ref a_2), (3, .long x_3), (9, .int x_9), (10, .int x_10)]) hx hb dX1_takeAwayAt_91 hl (by decide) rfl (fun ls hl => ?_)
      obtain ⟨x15, ex15⟩ : ∃ y : Int32, y = x_10 + (1) := ⟨_, rfl⟩
      have hv := hv x15 ex15
      refine lv_iinc (v := x15) (lv' := [(10, .int x15), (7, .long (0 : Int64)), (5, .long x13), (13, .long x10), (11, .long x6), (0, .ref a_0), (1, .int x_1), (2, .ref a_2), (3, .long x_3), (9, .int x_9)]) hx hb dX1_takeAwayAt_93 hl (k := 9) rfl (by rw [ex15]; rfl) (by decide) rfl (fun ls hl => ?_)
      refine lv_goto (tgt := 22) hx hb dX1_takeAwayAt_96 (by decide) ?_
      exact hL22 _ _ _ _ _ _ _ _ _ _ _ _ hv (lv_sub hl [5, 6, 7, 8, 2, 1, 9, 0] rfl) hS
    · have hv := hv.2 c14
      refine lv_lconst (v := 1) hx hb dX1_takeAwayAt_86 (by decide) ?_
      refine lv_goto (tgt := 91) hx hb dX1_takeAwayAt_87 (by decide) ?_
      refine lv_lstore (lv' := [(7, .long (1 : Int64)), (5, .long x13), (13, .long x10), (11, .long x6), (0, .ref a_0), (1, .int x_1), (2, .ref a_2), (3, .long x_3), (9, .int x_9), (10, .int x_10)]) hx hb dX1_takeAwayAt_91 hl (by decide) rfl (fun ls hl => ?_)
      obtain ⟨x16, ex16⟩ : ∃ y : Int32, y = x_10 + (1) := ⟨_, rfl⟩
      have hv := hv x16 ex16
      refine lv_iinc (v := x16) (lv' := [(10, .int x16), (7, .long (1 : Int64)), (5, .long x13), (13, .long x10), (11, .long x6), (0, .ref a_0), (1, .int x_1), (2, .ref a_2), (3, .long x_3), (9, .int x_9)]) hx hb dX1_takeAwayAt_93 hl (k := 9) rfl (by rw [ex16]; rfl) (by decide) rfl (fun ls hl => ?_)
      refine lv_goto (tgt := 22) hx hb dX1_takeAwayAt_96 (by decide) ?_
      exact hL22 _ _ _ _ _ _ _ _ _ _ _ _ hv (lv_sub hl [5, 6, 7, 8, 2, 1, 9, 0] rfl) hS
set_option maxRecDepth 100000 in
set_option maxHeartbeats 4000000 in
theorem T_X1_takeAwayAt {E : cx} {h : Nat} {p1 : Int32} {p2 : Nat} {p3 : Int64} {f : hm} {K : Int32 → hm → Prop} (I22 : Nat → Nat → Int32 → Nat → Int64 → Int64 → Int64 → Int32 → Int32 → hm → Prop) (h0 : X_X1_takeAwayAt_0 E h p1 p2 p3 f (fun (y_0 : Nat) (y_1 : Int32) (y_2 : Nat) (y_3 : Int64) (y_5 : Int64) (y_7 : Int64) (y_9 : Int32) (y_10 : Int32) (f : hm) => ∃ k : Nat, I22 k y_0 y_1 y_2 y_3 y_5 y_7 y_9 y_10 f) K) (h22 : ∀ (n : Nat) (a_0 : Nat) (x_1 : Int32) (a_2 : Nat) (x_3 : Int64) (x_5 : Int64) (x_7 : Int64) (x_9 : Int32) (x_10 : Int32) (f : hm), I22 n a_0 x_1 a_2 x_3 x_5 x_7 x_9 x_10 f → X_X1_takeAwayAt_22 E a_0 x_1 a_2 x_3 x_5 x_7 x_9 x_10 f (fun (y_0 : Nat) (y_1 : Int32) (y_2 : Nat) (y_3 : Int64) (y_5 : Int64) (y_7 : Int64) (y_9 : Int32) (y_10 : Int32) (f : hm) => ∃ k : Nat, k < n ∧ I22 k y_0 y_1 y_2 y_3 y_5 y_7 y_9 y_10 f) K) : S_X1_takeAwayAt E h p1 p2 p3 f K := by
  refine MI_of (cc := cX1_takeAwayAt) (maxL := 15) (ret := (some .boolean)) (by decide) rfl ?_
  intro p e s m below meth c C
  have hl := lv_entry ([.ref h, .int p1, .ref p2, .long p3]) (n := 15) (Nat.le_of_ble_eq_true rfl)
  rw [lg_entry_eq]
  generalize (lg_sl ([.ref h, .int p1, .ref p2, .long p3]) ++ List.replicate (15 - (lg_sl ([.ref h, .int p1, .ref p2, .long p3])).length) Slot.unset).toArray = ls at hl ⊢
  have hl : lv_has ls 15 [(0, .ref h), (1, .int p1), (2, .ref p2), (3, .long p3)] := hl
  have hS := C.2.2.2.2.2.2.2.2.2
  have key : ∀ n : Nat, (∀ (a_0 : Nat) (x_1 : Int32) (a_2 : Nat) (x_3 : Int64) (x_5 : Int64) (x_7 : Int64) (x_9 : Int32) (x_10 : Int32) (g : hm) (ls : Array Slot) (H : Heap) (locs : List Loc), I22 n a_0 x_1 a_2 x_3 x_5 x_7 x_9 x_10 g → lv_has ls 15 [(0, .ref a_0), (1, .int x_1), (2, .ref a_2), (3, .long x_3), (5, .long x_5), (7, .long x_7), (9, .int x_9), (10, .int x_10)] → wS E.2.1 vwCl (wA f s.heap.size) s.heap g H locs → W p E.1 e ({ frames := 1, cells := 0, slots := 0, locals := 21 }) s m ([.ref h, .int p1, .ref p2, .long p3] : List Value).toArray below meth c H locs 0 0 (MQ below (wQi f E.2.1 vwCl K s) ([.ref h, .int p1, .ref p2, .long p3] : List Value).toArray s 0 0 (wA f s.heap.size)) (F0 m 22 ls [])) := by
    refine st_ind (fun n ih => ?_)
    intro a_0 x_1 a_2 x_3 x_5 x_7 x_9 x_10 g ls H locs hI hl hS
    exact R_X1_takeAwayAt_22 C a_0 x_1 a_2 x_3 x_5 x_7 x_9 x_10 g (h22 n a_0 x_1 a_2 x_3 x_5 x_7 x_9 x_10 g hI) hl hS (fun _ _ _ _ _ _ _ _ _ _ _ _ hI hl hS => by obtain ⟨k, hk, hI⟩ := hI; exact (ih k hk) _ _ _ _ _ _ _ _ _ _ _ _ hI hl hS)
  exact R_X1_takeAwayAt_0 C h p1 p2 p3 f h0 hl hS (fun _ _ _ _ _ _ _ _ _ _ _ _ hI hl hS => by obtain ⟨k, hI⟩ := hI; exact (key k) _ _ _ _ _ _ _ _ _ _ _ _ hI hl hS)
/-! ContinuedRatios$Natural.takeAway(LContinuedRatios$Natural;J)V -/
def S_X1_takeAway (E : cx) (h : Nat) (p1 : Nat) (p2 : Int64) (f : hm) (K : hm → Prop) : Prop := MV E.1 E.2.1 vwCl (eT E) yX1_takeAway wsX1_takeAway ({ frames := 2, cells := 0, slots := 0, locals := 55 }) [.ref h, .ref p1, .long p2] f K
theorem mm_X1_takeAway_0 : Cond.fieldLink RX1 13 "ContinuedRatios$Natural" "length" "I" ∈ wsX1_takeAway := by decide +kernel
theorem ii_X1_takeAway_X1 : ∀ w ∈ u_ws RX1 TX1 2, w ∈ wsX1_takeAway := by decide +kernel
def X_X1_takeAway_0 (E : cx) (h : Nat) (p1 : Nat) (p2 : Int64) (f : hm)  (K : hm → Prop) : Prop :=
  (isO f h 1 ∧ S_X1_takeAwayAt E h (0 : Int32) p1 p2 f (fun (r3 : Int32) (f2 : hm) => (∃ v4 : Int32, rdV f2 h 1 1 = some (.int v4) ∧ (isO f2 h 1 ∧ S_X1_trimFrom E h v4 f2 (fun (f6 : hm) => K f6)))))
set_option maxRecDepth 100000 in
set_option maxHeartbeats 4000000 in
theorem R_X1_takeAway_0 {E : cx} {p : Program} {e : Env} {s : State} {m : MethodId} {below : List Frame} {meth : Method} {c : Code} {f0 : hm} {zh : Nat} {zp1 : Nat} {zp2 : Int64} (C : wB E.2.1 vwCl (eT E) yX1_takeAway cX1_takeAway 4 none wsX1_takeAway [.ref zh, .ref zp1, .long zp2] f0 p s m meth c) (h : Nat) (p1 : Nat) (p2 : Int64) (f : hm)  {K : hm → Prop} (hv : X_X1_takeAway_0 E h p1 p2 f  K) {ls : Array Slot} {H : Heap} {locs : List Loc} (hl : lv_has ls 4 [(0, .ref h), (1, .ref p1), (2, .long p2)]) (hS : wS E.2.1 vwCl (wA f0 s.heap.size) s.heap f H locs)  : W p E.1 e ({ frames := 2, cells := 0, slots := 0, locals := 55 }) s m ([.ref zh, .ref zp1, .long zp2] : List Value).toArray below meth c H locs 0 0 (MQ below (wQv f0 E.2.1 vwCl K s) ([.ref zh, .ref zp1, .long zp2] : List Value).toArray s 0 0 (wA f0 s.heap.size)) (F0 m 0 ls []) := by
  obtain ⟨hx, hb, hml, hown, hts, hr, hlk, hnm, hK, -⟩ := C
  unfold X_X1_takeAway_0 at hv
  refine lv_aload_n hx hb dX1_takeAway_0 rfl (lv_at hl 0 rfl) ?_
  refine lv_iconst (v := 0) hx hb dX1_takeAway_1 (by decide) ?_
  refine lv_aload_n hx hb dX1_takeAway_2 rfl (lv_at hl 1 rfl) ?_
  refine lv_lload_n hx hb dX1_takeAway_3 rfl (lv_at hl 2 rfl) ?_
  obtain ⟨ho1, hv⟩ := hv
  refine fw_callVi hx hb hml hown hts hK hS [.int (0 : Int32), .ref p1, .long p2] [] hv gX1_takeAway_X1_takeAwayAt rfl rfl rfl 3 (by decide +kernel) ⟨Nat.le_of_ble_eq_true rfl, Nat.le_of_ble_eq_true rfl⟩ rfl rfl ho1 rfl hl.1 rfl (Nat.le_of_ble_eq_true rfl) dX1_takeAway_4 ⟨Nat.zero_le _, Nat.zero_le _⟩ (fun r3 f2 H locs hv hS => ?_)
  refine lv_pop hx hb dX1_takeAway_7 rfl ?_
  refine lv_aload_n hx hb dX1_takeAway_8 rfl (lv_at hl 0 rfl) ?_
  refine lv_aload_n hx hb dX1_takeAway_9 rfl (lv_at hl 0 rfl) ?_
  obtain ⟨v4, ev4, hv⟩ := hv
  refine fw_get hx hb hts ii_X1_takeAway_X1 hown hK hS 1 ev4 rfl (by decide) mm_X1_takeAway_0 rfl dX1_takeAway_10 ?_
  obtain ⟨ho5, hv⟩ := hv
  refine fw_callVv hx hb hml hown hts hK hS [.int v4] [] hv gX1_takeAway_X1_trimFrom rfl rfl rfl 1 (by decide +kernel) ⟨Nat.le_of_ble_eq_true rfl, Nat.le_of_ble_eq_true rfl⟩ rfl rfl ho5 rfl hl.1 rfl (Nat.le_of_ble_eq_true rfl) dX1_takeAway_13 ⟨Nat.zero_le _, Nat.zero_le _⟩ (fun f6 H locs hv hS => ?_)
  exact fw_vret hx hb hr hlk hS hv dX1_takeAway_16
set_option maxRecDepth 100000 in
set_option maxHeartbeats 4000000 in
theorem T_X1_takeAway {E : cx} {h : Nat} {p1 : Nat} {p2 : Int64} {f : hm} {K : hm → Prop}  (h0 : X_X1_takeAway_0 E h p1 p2 f  K) : S_X1_takeAway E h p1 p2 f K := by
  refine MV_of (cc := cX1_takeAway) (maxL := 4) (ret := none) (by decide) rfl ?_
  intro p e s m below meth c C
  have hl := lv_entry ([.ref h, .ref p1, .long p2]) (n := 4) (Nat.le_of_ble_eq_true rfl)
  rw [lg_entry_eq]
  generalize (lg_sl ([.ref h, .ref p1, .long p2]) ++ List.replicate (4 - (lg_sl ([.ref h, .ref p1, .long p2])).length) Slot.unset).toArray = ls at hl ⊢
  have hl : lv_has ls 4 [(0, .ref h), (1, .ref p1), (2, .long p2)] := hl
  have hS := C.2.2.2.2.2.2.2.2.2
  exact R_X1_takeAway_0 C h p1 p2 f h0 hl hS
