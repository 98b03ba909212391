/-! By program (wip/whole/gen.py), out of the printed names: do not edit. -/
/-! ContinuedRatiosModel.multiply(III)V -/
def S_X5_multiply (E : cx) (h : Nat) (p1 : Int32) (p2 : Int32) (p3 : Int32) (f : hm) (K : hm → Prop) : Prop := MV E.1 E.2.1 vwCl (eT E) yX5_multiply wsX5_multiply ({ frames := 1, cells := 0, slots := 0, locals := 24 }) [.ref h, .int p1, .int p2, .int p3] f K
theorem mm_X5_multiply_0 : Cond.fieldLink RX5 7 "ContinuedRatiosModel" "big" "[I" ∈ wsX5_multiply := by decide +kernel
theorem mm_X5_multiply_1 : Cond.constantLong RX5 27 (65535) ∈ wsX5_multiply := by decide +kernel
theorem ii_X5_multiply_X5 : ∀ w ∈ u_ws RX5 TX5 7, w ∈ wsX5_multiply := by decide +kernel
def X_X5_multiply_0 (E : cx) (h : Nat) (p1 : Int32) (p2 : Int32) (p3 : Int32) (f : hm) (L9 : Nat → Int32 → Int32 → Int32 → Int32 → hm → Prop) (K : hm → Prop) : Prop :=
  (isO f h 5 ∧ S_X5_put E h p3 (0 : Int64) f (fun (f2 : hm) => L9 h p1 p2 p3 (0 : Int32) f2))
def X_X5_multiply_9 (E : cx) (a_0 : Nat) (x_1 : Int32) (x_2 : Int32) (x_3 : Int32) (x_4 : Int32) (f : hm) (L22 : Nat → Int32 → Int32 → Int32 → Int32 → Int64 → Int32 → hm → Prop) (K : hm → Prop) : Prop :=
  (((36 : Int32) ≤ x_4 → K f) ∧ (¬ ((36 : Int32) ≤ x_4) → L22 a_0 x_1 x_2 x_3 x_4 (0 : Int64) (0 : Int32) f))
def X_X5_multiply_22 (E : cx) (a_0 : Nat) (x_1 : Int32) (x_2 : Int32) (x_3 : Int32) (x_4 : Int32) (x_5 : Int64) (x_7 : Int32) (f : hm) (L9 : Nat → Int32 → Int32 → Int32 → Int32 → hm → Prop) (L22 : Nat → Int32 → Int32 → Int32 → Int32 → Int64 → Int32 → hm → Prop) (K : hm → Prop) : Prop :=
  (((36 : Int32) ≤ (x_4 + x_7) → (∀ x2 : Int32, x2 = x_4 + (1) → L9 a_0 x_1 x_2 x_3 x2 f)) ∧ (¬ ((36 : Int32) ≤ (x_4 + x_7)) → (∃ v3 : Nat, rdV f a_0 5 2 = some (.ref v3) ∧ (∃ v4 : Int32, rdA (eI E) f v3 (((36 : Int32) * x_1) + x_4) = some v4 ∧ ((v4 ≤ 0 → (∀ x6 : Int32, x6 = x_4 + (1) → L9 a_0 x_1 x_2 x_3 x6 f)) ∧ (¬ (v4 ≤ 0) → (∃ v7 : Nat, rdV f a_0 5 2 = some (.ref v7) ∧ (∃ v8 : Int32, rdA (eI E) f v7 (((36 : Int32) * x_1) + x_4) = some v8 ∧ (∃ v9 : Nat, rdV f a_0 5 2 = some (.ref v9) ∧ (∃ v10 : Int32, rdA (eI E) f v9 (((36 : Int32) * x_2) + x_7) = some v10 ∧ (∃ v11 : Nat, rdV f a_0 5 2 = some (.ref v11) ∧ (∃ v12 : Int32, rdA (eI E) f v11 ((((36 : Int32) * x_3) + x_4) + x_7) = some v12 ∧ (∀ x13 : Int64, x13 = (((v8.toInt64 * v10.toInt64) + v12.toInt64) + x_5) → (∃ v14 : Nat, rdV f a_0 5 2 = some (.ref v14) ∧ (∃ f15 : hm, wrA (eI E) f v14 ((((36 : Int32) * x_3) + x_4) + x_7) ((x13 &&& (65535 : Int64)).toInt32) = some f15 ∧ (∀ x16 : Int64, x16 = (j_lshr x13 (16 : Int32)) → (∀ x17 : Int32, x17 = x_7 + (1) → L22 a_0 x_1 x_2 x_3 x_4 x16 x17 f15)))))))))))))))))
set_option maxRecDepth 100000 in
set_option maxHeartbeats 4000000 in
theorem R_X5_multiply_0 {E : cx} {p : Program} {e : Env} {s : State} {m : MethodId} {below : List Frame} {meth : Method} {c : Code} {f0 : hm} {zh : Nat} {zp1 : Int32} {zp2 : Int32} {zp3 : Int32} (C : wB E.2.1 vwCl (eT E) yX5_multiply cX5_multiply 10 none wsX5_multiply [.ref zh, .int zp1, .int zp2, .int zp3] f0 p s m meth c) (h : Nat) (p1 : Int32) (p2 : Int32) (p3 : Int32) (f : hm) {L9 : Nat → Int32 → Int32 → Int32 → Int32 → hm → Prop} {K : hm → Prop} (hv : X_X5_multiply_0 E h p1 p2 p3 f L9 K) {ls : Array Slot} {H : Heap} {locs : List Loc} (hl : lv_has ls 10 [(0, .ref h), (1, .int p1), (2, .int p2), (3, .int p3)]) (hS : wS E.2.1 vwCl (wA f0 s.heap.size) s.heap f H locs) (hL9 : ∀ (y_0 : Nat) (y_1 : Int32) (y_2 : Int32) (y_3 : Int32) (y_4 : Int32) (f : hm) (ls : Array Slot) (H : Heap) (locs : List Loc), L9 y_0 y_1 y_2 y_3 y_4 f → lv_has ls 10 [(0, .ref y_0), (1, .int y_1), (2, .int y_2), (3, .int y_3), (4, .int y_4)] → wS E.2.1 vwCl (wA f0 s.heap.size) s.heap f H locs → W p E.1 e ({ frames := 1, cells := 0, slots := 0, locals := 24 }) s m ([.ref zh, .int zp1, .int zp2, .int zp3] : List Value).toArray below meth c H locs 0 0 (MQ below (wQv f0 E.2.1 vwCl K s) ([.ref zh, .int zp1, .int zp2, .int zp3] : List Value).toArray s 0 0 (wA f0 s.heap.size)) (F0 m 9 ls [])) : W p E.1 e ({ frames := 1, cells := 0, slots := 0, locals := 24 }) s m ([.ref zh, .int zp1, .int zp2, .int zp3] : List Value).toArray below meth c H locs 0 0 (MQ below (wQv f0 E.2.1 vwCl K s) ([.ref zh, .int zp1, .int zp2, .int zp3] : List Value).toArray s 0 0 (wA f0 s.heap.size)) (F0 m 0 ls []) := by
  obtain ⟨hx, hb, hml, hown, hts, hr, hlk, hnm, hK, -⟩ := C
  unfold X_X5_multiply_0 at hv
  refine lv_aload_n hx hb dX5_multiply_0 rfl (lv_at hl 0 rfl) ?_
  refine lv_iload_n hx hb dX5_multiply_1 rfl (lv_at hl 3 rfl) ?_
  refine lv_lconst (v := 0) hx hb dX5_multiply_2 (by decide) ?_
  obtain ⟨ho1, hv⟩ := hv
  refine fw_callVv hx hb hml hown hts hK hS [.int p3, .long (0 : Int64)] [] hv gX5_multiply_X5_put rfl rfl rfl 2 (by decide +kernel) ⟨Nat.le_of_ble_eq_true rfl, Nat.le_of_ble_eq_true rfl⟩ rfl rfl ho1 rfl hl.1 rfl (Nat.le_of_ble_eq_true rfl) dX5_multiply_3 ⟨Nat.zero_le _, Nat.zero_le _⟩ (fun f2 H locs hv hS => ?_)
  refine lv_iconst (v := 0) hx hb dX5_multiply_6 (by decide) ?_
  refine lv_istore (lv' := [(4, .int (0 : Int32)), (0, .ref h), (1, .int p1), (2, .int p2), (3, .int p3)]) hx hb dX5_multiply_7 hl (by decide) rfl (fun ls hl => ?_)
  exact hL9 _ _ _ _ _ _ _ _ _ hv (lv_sub hl [1, 2, 3, 4, 0] rfl) hS
set_option maxRecDepth 100000 in
set_option maxHeartbeats 4000000 in
theorem R_X5_multiply_9 {E : cx} {p : Program} {e : Env} {s : State} {m : MethodId} {below : List Frame} {meth : Method} {c : Code} {f0 : hm} {zh : Nat} {zp1 : Int32} {zp2 : Int32} {zp3 : Int32} (C : wB E.2.1 vwCl (eT E) yX5_multiply cX5_multiply 10 none wsX5_multiply [.ref zh, .int zp1, .int zp2, .int zp3] f0 p s m meth c) (a_0 : Nat) (x_1 : Int32) (x_2 : Int32) (x_3 : Int32) (x_4 : Int32) (f : hm) {L22 : Nat → Int32 → Int32 → Int32 → Int32 → Int64 → Int32 → hm → Prop} {K : hm → Prop} (hv : X_X5_multiply_9 E a_0 x_1 x_2 x_3 x_4 f L22 K) {ls : Array Slot} {H : Heap} {locs : List Loc} (hl : lv_has ls 10 [(0, .ref a_0), (1, .int x_1), (2, .int x_2), (3, .int x_3), (4, .int x_4)]) (hS : wS E.2.1 vwCl (wA f0 s.heap.size) s.heap f H locs) (hL22 : ∀ (y_0 : Nat) (y_1 : Int32) (y_2 : Int32) (y_3 : Int32) (y_4 : Int32) (y_5 : Int64) (y_7 : Int32) (f : hm) (ls : Array Slot) (H : Heap) (locs : List Loc), L22 y_0 y_1 y_2 y_3 y_4 y_5 y_7 f → lv_has ls 10 [(0, .ref y_0), (1, .int y_1), (2, .int y_2), (3, .int y_3), (4, .int y_4), (5, .long y_5), (7, .int y_7)] → wS E.2.1 vwCl (wA f0 s.heap.size) s.heap f H locs → W p E.1 e ({ frames := 1, cells := 0, slots := 0, locals := 24 }) s m ([.ref zh, .int zp1, .int zp2, .int zp3] : List Value).toArray below meth c H locs 0 0 (MQ below (wQv f0 E.2.1 vwCl K s) ([.ref zh, .int zp1, .int zp2, .int zp3] : List Value).toArray s 0 0 (wA f0 s.heap.size)) (F0 m 22 ls [])) : W p E.1 e ({ frames := 1, cells := 0, slots := 0, locals := 24 }) s m ([.ref zh, .int zp1, .int zp2, .int zp3] : List Value).toArray below meth c H locs 0 0 (MQ below (wQv f0 E.2.1 vwCl K s) ([.ref zh, .int zp1, .int zp2, .int zp3] : List Value).toArray s 0 0 (wA f0 s.heap.size)) (F0 m 9 ls []) := by
  obtain ⟨hx, hb, hml, hown, hts, hr, hlk, hnm, hK, -⟩ := C
  unfold X_X5_multiply_9 at hv
  refine lv_iload hx hb dX5_multiply_9 (lv_at hl 4 rfl) ?_
  refine lv_bipush (v := 36) hx hb dX5_multiply_11 (by decide) ?_
  refine lv_icmp_ge (tgt := 137) hx hb dX5_multiply_13 (by decide) (fun c1 => ?_) (fun c1 => ?_)
  · have hv := hv.1 c1
    exact fw_vret hx hb hr hlk hS hv dX5_multiply_137
  · have hv := hv.2 c1
    refine lv_lconst (v := 0) hx hb dX5_multiply_16 (by decide) ?_
    refine lv_lstore (lv' := [(5, .long (0 : Int64)), (0, .ref a_0), (1, .int x_1), (2, .int x_2), (3, .int x_3), (4, .int x_4)]) hx hb dX5_multiply_17 hl (by decide) rfl (fun ls hl => ?_)
    refine lv_iconst (v := 0) hx hb dX5_multiply_19 (by decide) ?_
    refine lv_istore (lv' := [(7, .int (0 : Int32)), (5, .long (0 : Int64)), (0, .ref a_0), (1, .int x_1), (2, .int x_2), (3, .int x_3), (4, .int x_4)]) hx hb dX5_multiply_20 hl (by decide) rfl (fun ls hl => ?_)
    exact hL22 _ _ _ _ _ _ _ _ _ _ _ hv (lv_sub hl [2, 3, 4, 5, 6, 1, 0] rfl) hS
set_option maxRecDepth 100000 in
set_option maxHeartbeats 4000000 in
theorem R_X5_multiply_22 {E : cx} {p : Program} {e : Env} {s : State} {m : MethodId} {below : List Frame} {meth : Method} {c : Code} {f0 : hm} {zh : Nat} {zp1 : Int32} {zp2 : Int32} {zp3 : Int32} (C : wB E.2.1 vwCl (eT E) yX5_multiply cX5_multiply 10 none wsX5_multiply [.ref zh, .int zp1, .int zp2, .int zp3] f0 p s m meth c) (a_0 : Nat) (x_1 : Int32) (x_2 : Int32) (x_3 : Int32) (x_4 : Int32) (x_5 : Int64) (x_7 : Int32) (f : hm) {L9 : Nat → Int32 → Int32 → Int32 → Int32 → hm → Prop} {L22 : Nat → Int32 → Int32 → Int32 → Int32 → Int64 → Int32 → hm → Prop} {K : hm → Prop} (hv : X_X5_multiply_22 E a_0 x_1 x_2 x_3 x_4 x_5 x_7 f L9 L22 K) {ls : Array Slot} {H : Heap} {locs : List Loc} (hl : lv_has ls 10 [(0, .ref a_0), (1, .int x_1), (2, .int x_2), (3, .int x_3), (4, .int x_4), (5, .long x_5), (7, .int x_7)]) (hS : wS E.2.1 vwCl (wA f0 s.heap.size) s.heap f H locs) (hL9 : ∀ (y_0 : Nat) (y_1 : Int32) (y_2 : Int32) (y_3 : Int32) (y_4 : Int32) (f : hm) (ls : Array Slot) (H : Heap) (locs : List Loc), L9 y_0 y_1 y_2 y_3 y_4 f → lv_has ls 10 [(0, .ref y_0), (1, .int y_1), (2, .int y_2), (3, .int y_3), (4, .int y_4)] → wS E.2.1 vwCl (wA f0 s.heap.size) s.heap f H locs → W p E.1 e ({ frames := 1, cells := 0, slots := 0, locals := 24 }) s m ([.ref zh, .int zp1, .int zp2, .int zp3] : List Value).toArray below meth c H locs 0 0 (MQ below (wQv f0 E.2.1 vwCl K s) ([.ref zh, .int zp1, .int zp2, .int zp3] : List Value).toArray s 0 0 (wA f0 s.heap.size)) (F0 m 9 ls [])) (hL22 : ∀ (y_0 : Nat) (y_1 : Int32) (y_2 : Int32) (y_3 : Int32) (y_4 : Int32) (y_5 : Int64) (y_7 : Int32) (f : hm) (ls : Array Slot) (H : Heap) (locs : List Loc), L22 y_0 y_1 y_2 y_3 y_4 y_5 y_7 f → lv_has ls 10 [(0, .ref y_0), (1, .int y_1), (2, .int y_2), (3, .int y_3), (4, .int y_4), (5, .long y_5), (7, .int y_7)] → wS E.2.1 vwCl (wA f0 s.heap.size) s.heap f H locs → W p E.1 e ({ frames := 1, cells := 0, slots := 0, locals := 24 }) s m ([.ref zh, .int zp1, .int zp2, .int zp3] : List Value).toArray below meth c H locs 0 0 (MQ below (wQv f0 E.2.1 vwCl K s) ([.ref zh, .int zp1, .int zp2, .int zp3] : List Value).toArray s 0 0 (wA f0 s.heap.size)) (F0 m 22 ls [])) : W p E.1 e ({ frames := 1, cells := 0, slots := 0, locals := 24 }) s m ([.ref zh, .int zp1, .int zp2, .int zp3] : List Value).toArray below meth c H locs 0 0 (MQ below (wQv f0 E.2.1 vwCl K s) ([.ref zh, .int zp1, .int zp2, .int zp3] : List Value).toArray s 0 0 (wA f0 s.heap.size)) (F0 m 22 ls []) := by
  obtain ⟨hx, hb, hml, hown, hts, hr, hlk, hnm, hK, -⟩ := C
  unfold X_X5_multiply_22 at hv
  refine lv_iload hx hb dX5_multiply_22 (lv_at hl 4 rfl) ?_
  refine lv_iload hx hb dX5_multiply_24 (lv_at hl 6 rfl) ?_
  refine lv_iadd hx hb dX5_multiply_26 ?_
  refine lv_bipush (v := 36) hx hb dX5_multiply_27 (by decide) ?_
  refine lv_icmp_ge (tgt := 131) hx hb dX5_multiply_29 (by decide) (fun c1 => ?_) (fun c1 => ?_)
  · have hv := hv.1 c1
    obtain ⟨x2, ex2⟩ : ∃ y : Int32, y = x_4 + (1) := ⟨_, rfl⟩
    have hv := hv x2 ex2
    refine lv_iinc (v := x2) (lv' := [(4, .int x2), (0, .ref a_0), (1, .int x_1), (2, .int x_2), (3, .int x_3), (5, .long x_5), (7, .int x_7)]) hx hb dX5_multiply_131 hl (k := 4) rfl (by rw [ex2]; rfl) (by decide) rfl (fun ls hl => ?_)
    refine lv_goto (tgt := 9) hx hb dX5_multiply_134 (by decide) ?_
    exact hL9 _ _ _ _ _ _ _ _ _ hv (lv_sub hl [1, 2, 3, 4, 0] rfl) hS
  · have hv := hv.2 c1
    refine lv_aload_n hx hb dX5_multiply_32 rfl (lv_at hl 0 rfl) ?_
    obtain ⟨v3, ev3, hv⟩ := hv
    refine fw_get hx hb hts ii_X5_multiply_X5 hown hK hS 2 ev3 rfl (by decide) mm_X5_multiply_0 rfl dX5_multiply_33 ?_
    refine lv_bipush (v := 36) hx hb dX5_multiply_36 (by decide) ?_
    refine lv_iload_n hx hb dX5_multiply_38 rfl (lv_at hl 1 rfl) ?_
    refine lv_imul hx hb dX5_multiply_39 ?_
    refine lv_iload hx hb dX5_multiply_40 (lv_at hl 4 rfl) ?_
    refine lv_iadd hx hb dX5_multiply_42 ?_
    obtain ⟨v4, ev4, hv⟩ := hv
    refine fw_ald hx hb hK hS 0 rfl ev4 dX5_multiply_43 ?_
    refine lv_if_le (tgt := 131) hx hb dX5_multiply_44 (by decide) (fun c5 => ?_) (fun c5 => ?_)
    · have hv := hv.1 c5
      obtain ⟨x6, ex6⟩ : ∃ y : Int32, y = x_4 + (1) := ⟨_, rfl⟩
      have hv := hv x6 ex6
      refine lv_iinc (v := x6) (lv' := [(4, .int x6), (0, .ref a_0), (1, .int x_1), (2, .int x_2), (3, .int x_3), (5, .long x_5), (7, .int x_7)]) hx hb dX5_multiply_131 hl (k := 4) rfl (by rw [ex6]; rfl) (by decide) rfl (fun ls hl => ?_)
      refine lv_goto (tgt := 9) hx hb dX5_multiply_134 (by decide) ?_
      exact hL9 _ _ _ _ _ _ _ _ _ hv (lv_sub hl [1, 2, 3, 4, 0] rfl) hS
    · have hv := hv.2 c5
      refine lv_aload_n hx hb dX5_multiply_47 rfl (lv_at hl 0 rfl) ?_
      obtain ⟨v7, ev7, hv⟩ := hv
      refine fw_get hx hb hts ii_X5_multiply_X5 hown hK hS 2 ev7 rfl (by decide) mm_X5_multiply_0 rfl dX5_multiply_48 ?_
      refine lv_bipush (v := 36) hx hb dX5_multiply_51 (by decide) ?_
      refine lv_iload_n hx hb dX5_multiply_53 rfl (lv_at hl 1 rfl) ?_
      refine lv_imul hx hb dX5_multiply_54 ?_
      refine lv_iload hx hb dX5_multiply_55 (lv_at hl 4 rfl) ?_
      refine lv_iadd hx hb dX5_multiply_57 ?_
      obtain ⟨v8, ev8, hv⟩ := hv
      refine fw_ald hx hb hK hS 0 rfl ev8 dX5_multiply_58 ?_
      refine lv_i2l hx hb dX5_multiply_59 rfl ?_
      refine lv_aload_n hx hb dX5_multiply_60 rfl (lv_at hl 0 rfl) ?_
      obtain ⟨v9, ev9, hv⟩ := hv
      refine fw_get hx hb hts ii_X5_multiply_X5 hown hK hS 2 ev9 rfl (by decide) mm_X5_multiply_0 rfl dX5_multiply_61 ?_
      refine lv_bipush (v := 36) hx hb dX5_multiply_64 (by decide) ?_
      refine lv_iload_n hx hb dX5_multiply_66 rfl (lv_at hl 2 rfl) ?_
      refine lv_imul hx hb dX5_multiply_67 ?_
      refine lv_iload hx hb dX5_multiply_68 (lv_at hl 6 rfl) ?_
      refine lv_iadd hx hb dX5_multiply_70 ?_
      obtain ⟨v10, ev10, hv⟩ := hv
      refine fw_ald hx hb hK hS 0 rfl ev10 dX5_multiply_71 ?_
      refine lv_i2l hx hb dX5_multiply_72 rfl ?_
      refine lv_lmul hx hb dX5_multiply_73 ?_
      refine lv_aload_n hx hb dX5_multiply_74 rfl (lv_at hl 0 rfl) ?_
      obtain ⟨v11, ev11, hv⟩ := hv
      refine fw_get hx hb hts ii_X5_multiply_X5 hown hK hS 2 ev11 rfl (by decide) mm_X5_multiply_0 rfl dX5_multiply_75 ?_
      refine lv_bipush (v := 36) hx hb dX5_multiply_78 (by decide) ?_
      refine lv_iload_n hx hb dX5_multiply_80 rfl (lv_at hl 3 rfl) ?_
      refine lv_imul hx hb dX5_multiply_81 ?_
      refine lv_iload hx hb dX5_multiply_82 (lv_at hl 4 rfl) ?_
      refine lv_iadd hx hb dX5_multiply_84 ?_
      refine lv_iload hx hb dX5_multiply_85 (lv_at hl 6 rfl) ?_
      refine lv_iadd hx hb dX5_multiply_87 ?_
      obtain ⟨v12, ev12, hv⟩ := hv
      refine fw_ald hx hb hK hS 0 rfl ev12 dX5_multiply_88 ?_
      refine lv_i2l hx hb dX5_multiply_89 rfl ?_
      refine lv_ladd hx hb dX5_multiply_90 ?_
      refine lv_lload hx hb dX5_multiply_91 (lv_at hl 5 rfl) ?_
      refine lv_ladd hx hb dX5_multiply_93 ?_
      refine lv_topl (fun x13 ex13 => ?_)
      have hv := hv x13 ex13
      refine lv_lstore (lv' := [(8, .long x13), (0, .ref a_0), (1, .int x_1), (2, .int x_2), (3, .int x_3), (4, .int x_4), (5, .long x_5), (7, .int x_7)]) hx hb dX5_multiply_94 hl (by decide) rfl (fun ls hl => ?_)
      refine lv_aload_n hx hb dX5_multiply_96 rfl (lv_at hl 1 rfl) ?_
      obtain ⟨v14, ev14, hv⟩ := hv
      refine fw_get hx hb hts ii_X5_multiply_X5 hown hK hS 2 ev14 rfl (by decide) mm_X5_multiply_0 rfl dX5_multiply_97 ?_
      refine lv_bipush (v := 36) hx hb dX5_multiply_100 (by decide) ?_
      refine lv_iload_n hx hb dX5_multiply_102 rfl (lv_at hl 4 rfl) ?_
      refine lv_imul hx hb dX5_multiply_103 ?_
      refine lv_iload hx hb dX5_multiply_104 (lv_at hl 5 rfl) ?_
      refine lv_iadd hx hb dX5_multiply_106 ?_
      refine lv_iload hx hb dX5_multiply_107 (lv_at hl 7 rfl) ?_
      refine lv_iadd hx hb dX5_multiply_109 ?_
      refine lv_lload hx hb dX5_multiply_110 (lv_at hl 0 rfl) ?_
      refine lv_ldc2 (v := (65535)) hx hb hown (hts _ mm_X5_multiply_1) dX5_multiply_112 ?_
      refine lv_land hx hb dX5_multiply_115 ?_
      refine lv_l2i hx hb dX5_multiply_116 rfl ?_
      obtain ⟨f15, ef15, hv⟩ := hv
      refine fw_ast hx hb hK hS 0 rfl ef15 dX5_multiply_117 (fun H locs hS => ?_)
      refine lv_lload hx hb dX5_multiply_118 (lv_at hl 0 rfl) ?_
      refine lv_bipush (v := 16) hx hb dX5_multiply_120 (by decide) ?_
      refine lv_lshr (v := j_lshr x13 (16 : Int32)) hx hb dX5_multiply_122 rfl ?_
      refine lv_topl (fun x16 ex16 => ?_)
      have hv := hv x16 ex16
      refine lv_lstore (lv' := [(5, .long x16), (8, .long x13), (0, .ref a_0), (1, .int x_1), (2, .int x_2), (3, .int x_3), (4, .int x_4), (7, .int x_7)]) hx hb dX5_multiply_123 hl (by decide) rfl (fun ls hl => ?_)
      obtain ⟨x17, ex17⟩ : ∃ y : Int32, y = x_7 + (1) := ⟨_, rfl⟩
      have hv := hv x17 ex17
      refine lv_iinc (v := x17) (lv' := [(7, .int x17), (5, .long x16), (8, .long x13), (0, .ref a_0), (1, .int x_1), (2, .int x_2), (3, .int x_3), (4, .int x_4)]) hx hb dX5_multiply_125 hl (k := 7) rfl (by rw [ex17]; rfl) (by decide) rfl (fun ls hl => ?_)
      refine lv_goto (tgt := 22) hx hb dX5_multiply_128 (by decide) ?_
      exact hL22 _ _ _ _ _ _ _ _ _ _ _ hv (lv_sub hl [3, 4, 5, 6, 7, 1, 0] rfl) hS
set_option maxRecDepth 100000 in
set_option maxHeartbeats 4000000 in
theorem T_X5_multiply {E : cx} {h : Nat} {p1 : Int32} {p2 : Int32} {p3 : Int32} {f : hm} {K : hm → Prop} (I9 : Nat → Nat → Int32 → Int32 → Int32 → Int32 → hm → Prop) (I22 : Nat → Nat → Int32 → Int32 → Int32 → Int32 → Int64 → Int32 → hm → Prop) (h0 : X_X5_multiply_0 E h p1 p2 p3 f (fun (y_0 : Nat) (y_1 : Int32) (y_2 : Int32) (y_3 : Int32) (y_4 : Int32) (f : hm) => ∃ k : Nat, I9 k y_0 y_1 y_2 y_3 y_4 f) K) (h9 : ∀ (n : Nat) (a_0 : Nat) (x_1 : Int32) (x_2 : Int32) (x_3 : Int32) (x_4 : Int32) (f : hm), I9 n a_0 x_1 x_2 x_3 x_4 f → X_X5_multiply_9 E a_0 x_1 x_2 x_3 x_4 f (fun (y_0 : Nat) (y_1 : Int32) (y_2 : Int32) (y_3 : Int32) (y_4 : Int32) (y_5 : Int64) (y_7 : Int32) (f : hm) => ∃ k : Nat, k < n ∧ I22 k y_0 y_1 y_2 y_3 y_4 y_5 y_7 f) K) (h22 : ∀ (n : Nat) (a_0 : Nat) (x_1 : Int32) (x_2 : Int32) (x_3 : Int32) (x_4 : Int32) (x_5 : Int64) (x_7 : Int32) (f : hm), I22 n a_0 x_1 x_2 x_3 x_4 x_5 x_7 f → X_X5_multiply_22 E a_0 x_1 x_2 x_3 x_4 x_5 x_7 f (fun (y_0 : Nat) (y_1 : Int32) (y_2 : Int32) (y_3 : Int32) (y_4 : Int32) (f : hm) => ∃ k : Nat, k < n ∧ I9 k y_0 y_1 y_2 y_3 y_4 f) (fun (y_0 : Nat) (y_1 : Int32) (y_2 : Int32) (y_3 : Int32) (y_4 : Int32) (y_5 : Int64) (y_7 : Int32) (f : hm) => ∃ k : Nat, k < n ∧ I22 k y_0 y_1 y_2 y_3 y_4 y_5 y_7 f) K) : S_X5_multiply E h p1 p2 p3 f K := by
  refine MV_of (cc := cX5_multiply) (maxL := 10) (ret := none) (by decide) rfl ?_
  intro p e s m below meth c C
  have hl := lv_entry ([.ref h, .int p1, .int p2, .int p3]) (n := 10) (Nat.le_of_ble_eq_true rfl)
  rw [lg_entry_eq]
  generalize (lg_sl ([.ref h, .int p1, .int p2, .int p3]) ++ List.replicate (10 - (lg_sl ([.ref h, .int p1, .int p2, .int p3])).length) Slot.unset).toArray = ls at hl ⊢
  have hl : lv_has ls 10 [(0, .ref h), (1, .int p1), (2, .int p2), (3, .int p3)] := hl
  have hS := C.2.2.2.2.2.2.2.2.2
  have key : ∀ n : Nat, (∀ (a_0 : Nat) (x_1 : Int32) (x_2 : Int32) (x_3 : Int32) (x_4 : Int32) (g : hm) (ls : Array Slot) (H : Heap) (locs : List Loc), I9 n a_0 x_1 x_2 x_3 x_4 g → lv_has ls 10 [(0, .ref a_0), (1, .int x_1), (2, .int x_2), (3, .int x_3), (4, .int x_4)] → wS E.2.1 vwCl (wA f s.heap.size) s.heap g H locs → W p E.1 e ({ frames := 1, cells := 0, slots := 0, locals := 24 }) s m ([.ref h, .int p1, .int p2, .int p3] : List Value).toArray below meth c H locs 0 0 (MQ below (wQv f E.2.1 vwCl K s) ([.ref h, .int p1, .int p2, .int p3] : List Value).toArray s 0 0 (wA f s.heap.size)) (F0 m 9 ls [])) ∧ (∀ (a_0 : Nat) (x_1 : Int32) (x_2 : Int32) (x_3 : Int32) (x_4 : Int32) (x_5 : Int64) (x_7 : Int32) (g : hm) (ls : Array Slot) (H : Heap) (locs : List Loc), I22 n a_0 x_1 x_2 x_3 x_4 x_5 x_7 g → lv_has ls 10 [(0, .ref a_0), (1, .int x_1), (2, .int x_2), (3, .int x_3), (4, .int x_4), (5, .long x_5), (7, .int x_7)] → wS E.2.1 vwCl (wA f s.heap.size) s.heap g H locs → W p E.1 e ({ frames := 1, cells := 0, slots := 0, locals := 24 }) s m ([.ref h, .int p1, .int p2, .int p3] : List Value).toArray below meth c H locs 0 0 (MQ below (wQv f E.2.1 vwCl K s) ([.ref h, .int p1, .int p2, .int p3] : List Value).toArray s 0 0 (wA f s.heap.size)) (F0 m 22 ls [])) := by
    refine st_ind (fun n ih => ?_)
    refine ⟨?_, ?_⟩
    · intro a_0 x_1 x_2 x_3 x_4 g ls H locs hI hl hS
      exact R_X5_multiply_9 C a_0 x_1 x_2 x_3 x_4 g (h9 n a_0 x_1 x_2 x_3 x_4 g hI) hl hS (fun _ _ _ _ _ _ _ _ _ _ _ hI hl hS => by obtain ⟨k, hk, hI⟩ := hI; exact (ih k hk).2 _ _ _ _ _ _ _ _ _ _ _ hI hl hS)
    · intro a_0 x_1 x_2 x_3 x_4 x_5 x_7 g ls H locs hI hl hS
      exact R_X5_multiply_22 C a_0 x_1 x_2 x_3 x_4 x_5 x_7 g (h22 n a_0 x_1 x_2 x_3 x_4 x_5 x_7 g hI) hl hS (fun _ _ _ _ _ _ _ _ _ hI hl hS => by obtain ⟨k, hk, hI⟩ := hI; exact (ih k hk).1 _ _ _ _ _ _ _ _ _ hI hl hS) (fun _ _ _ _ _ _ _ _ _ _ _ hI hl hS => by obtain ⟨k, hk, hI⟩ := hI; exact (ih k hk).2 _ _ _ _ _ _ _ _ _ _ _ hI hl hS)
  exact R_X5_multiply_0 C h p1 p2 p3 f h0 hl hS (fun _ _ _ _ _ _ _ _ _ hI hl hS => by obtain ⟨k, hI⟩ := hI; exact (key k).1 _ _ _ _ _ _ _ _ _ hI hl hS)
/-! ContinuedRatiosModel.divide(II)V -/
def S_X5_divide (E : cx) (h : Nat) (p1 : Int32) (p2 : Int32) (f : hm) (K : hm → Prop) : Prop := MV E.1 E.2.1 vwCl (eT E) yX5_divide wsX5_divide ({ frames := 1, cells := 0, slots := 0, locals := 28 }) [.ref h, .int p1, .int p2] f K
theorem mm_X5_divide_0 : Cond.constantLong RX5 34 (2) ∈ wsX5_divide := by decide +kernel
theorem mm_X5_divide_1 : Cond.fieldLink RX5 7 "ContinuedRatiosModel" "big" "[I" ∈ wsX5_divide := by decide +kernel
theorem ii_X5_divide_X5 : ∀ w ∈ u_ws RX5 TX5 7, w ∈ wsX5_divide := by decide +kernel
def X_X5_divide_0 (E : cx) (h : Nat) (p1 : Int32) (p2 : Int32) (f : hm) (L22 : Nat → Int32 → Int32 → Int32 → hm → Prop) (K : hm → Prop) : Prop :=
  (isO f h 5 ∧ S_X5_put E h (20 : Int32) (0 : Int64) f (fun (f2 : hm) => (isO f2 h 5 ∧ S_X5_put E h (21 : Int32) (0 : Int64) f2 (fun (f4 : hm) => (isO f4 h 5 ∧ S_X5_bitsOf E h p1 f4 (fun (r7 : Int32) (f6 : hm) => (∀ x8 : Int32, x8 = (r7 - (1 : Int32)) → L22 h p1 p2 x8 f6)))))))
def X_X5_divide_22 (E : cx) (a_0 : Nat) (x_1 : Int32) (x_2 : Int32) (x_3 : Int32) (f : hm) (L22 : Nat → Int32 → Int32 → Int32 → hm → Prop) (K : hm → Prop) : Prop :=
  ((x_3 < 0 → K f) ∧ (¬ (x_3 < 0) → (isO f a_0 5 ∧ S_X5_grow E a_0 (21 : Int32) (2 : Int64) f (fun (f3 : hm) => (∃ v4 : Nat, rdV f3 a_0 5 2 = some (.ref v4) ∧ (∃ v5 : Int32, rdA (eI E) f3 v4 (756 : Int32) = some v5 ∧ (∃ v6 : Nat, rdV f3 a_0 5 2 = some (.ref v6) ∧ (¬ (16 : Int32) = 0 ∧ (∃ v8 : Int32, rdA (eI E) f3 v6 (((36 : Int32) * x_1) + (x_3 / (16 : Int32))) = some v8 ∧ (¬ (16 : Int32) = 0 ∧ (∃ f10 : hm, wrA (eI E) f3 v4 (756 : Int32) (v5 ||| ((v8 >>> ((x_3 - x_3 / (16 : Int32) * (16 : Int32)) &&& 31)) &&& (1 : Int32))) = some f10 ∧ (isO f10 a_0 5 ∧ S_X5_compare E a_0 (21 : Int32) x_2 f10 (fun (r13 : Int32) (f12 : hm) => ((r13 < 0 → (∀ x15 : Int32, x15 = x_3 + (-1) → L22 a_0 x_1 x_2 x15 f12)) ∧ (¬ (r13 < 0) → (isO f12 a_0 5 ∧ S_X5_lessen E a_0 (21 : Int32) x_2 f12 (fun (f17 : hm) => (∃ v18 : Nat, rdV f17 a_0 5 2 = some (.ref v18) ∧ (¬ (16 : Int32) = 0 ∧ (∃ v20 : Int32, rdA (eI E) f17 v18 ((720 : Int32) + (x_3 / (16 : Int32))) = some v20 ∧ (¬ (16 : Int32) = 0 ∧ (∃ f22 : hm, wrA (eI E) f17 v18 ((720 : Int32) + (x_3 / (16 : Int32))) (v20 ||| ((1 : Int32) <<< ((x_3 - x_3 / (16 : Int32) * (16 : Int32)) &&& 31))) = some f22 ∧ (∀ x23 : Int32, x23 = x_3 + (-1) → L22 a_0 x_1 x_2 x23 f22)))))))))))))))))))))))
set_option maxRecDepth 100000 in
set_option maxHeartbeats 4000000 in
theorem R_X5_divide_0 {E : cx} {p : Program} {e : Env} {s : State} {m : MethodId} {below : List Frame} {meth : Method} {c : Code} {f0 : hm} {zh : Nat} {zp1 : Int32} {zp2 : Int32} (C : wB E.2.1 vwCl (eT E) yX5_divide cX5_divide 4 none wsX5_divide [.ref zh, .int zp1, .int zp2] f0 p s m meth c) (h : Nat) (p1 : Int32) (p2 : Int32) (f : hm) {L22 : Nat → Int32 → Int32 → Int32 → hm → Prop} {K : hm → Prop} (hv : X_X5_divide_0 E h p1 p2 f L22 K) {ls : Array Slot} {H : Heap} {locs : List Loc} (hl : lv_has ls 4 [(0, .ref h), (1, .int p1), (2, .int p2)]) (hS : wS E.2.1 vwCl (wA f0 s.heap.size) s.heap f H locs) (hL22 : ∀ (y_0 : Nat) (y_1 : Int32) (y_2 : Int32) (y_3 : Int32) (f : hm) (ls : Array Slot) (H : Heap) (locs : List Loc), L22 y_0 y_1 y_2 y_3 f → lv_has ls 4 [(0, .ref y_0), (1, .int y_1), (2, .int y_2), (3, .int y_3)] → wS E.2.1 vwCl (wA f0 s.heap.size) s.heap f H locs → W p E.1 e ({ frames := 1, cells := 0, slots := 0, locals := 28 }) s m ([.ref zh, .int zp1, .int zp2] : List Value).toArray below meth c H locs 0 0 (MQ below (wQv f0 E.2.1 vwCl K s) ([.ref zh, .int zp1, .int zp2] : List Value).toArray s 0 0 (wA f0 s.heap.size)) (F0 m 22 ls [])) : W p E.1 e ({ frames := 1, cells := 0, slots := 0, locals := 28 }) s m ([.ref zh, .int zp1, .int zp2] : List Value).toArray below meth c H locs 0 0 (MQ below (wQv f0 E.2.1 vwCl K s) ([.ref zh, .int zp1, .int zp2] : List Value).toArray s 0 0 (wA f0 s.heap.size)) (F0 m 0 ls []) := by
  obtain ⟨hx, hb, hml, hown, hts, hr, hlk, hnm, hK, -⟩ := C
  unfold X_X5_divide_0 at hv
  refine lv_aload_n hx hb dX5_divide_0 rfl (lv_at hl 0 rfl) ?_
  refine lv_bipush (v := 20) hx hb dX5_divide_1 (by decide) ?_
  refine lv_lconst (v := 0) hx hb dX5_divide_3 (by decide) ?_
  obtain ⟨ho1, hv⟩ := hv
  refine fw_callVv hx hb hml hown hts hK hS [.int (20 : Int32), .long (0 : Int64)] [] hv gX5_divide_X5_put rfl rfl rfl 2 (by decide +kernel) ⟨Nat.le_of_ble_eq_true rfl, Nat.le_of_ble_eq_true rfl⟩ rfl rfl ho1 rfl hl.1 rfl (Nat.le_of_ble_eq_true rfl) dX5_divide_4 ⟨Nat.zero_le _, Nat.zero_le _⟩ (fun f2 H locs hv hS => ?_)
  refine lv_aload_n hx hb dX5_divide_7 rfl (lv_at hl 0 rfl) ?_
  refine lv_bipush (v := 21) hx hb dX5_divide_8 (by decide) ?_
  refine lv_lconst (v := 0) hx hb dX5_divide_10 (by decide) ?_
  obtain ⟨ho3, hv⟩ := hv
  refine fw_callVv hx hb hml hown hts hK hS [.int (21 : Int32), .long (0 : Int64)] [] hv gX5_divide_X5_put rfl rfl rfl 2 (by decide +kernel) ⟨Nat.le_of_ble_eq_true rfl, Nat.le_of_ble_eq_true rfl⟩ rfl rfl ho3 rfl hl.1 rfl (Nat.le_of_ble_eq_true rfl) dX5_divide_11 ⟨Nat.zero_le _, Nat.zero_le _⟩ (fun f4 H locs hv hS => ?_)
  refine lv_aload_n hx hb dX5_divide_14 rfl (lv_at hl 0 rfl) ?_
  refine lv_iload_n hx hb dX5_divide_15 rfl (lv_at hl 1 rfl) ?_
  obtain ⟨ho5, hv⟩ := hv
  refine fw_callVi hx hb hml hown hts hK hS [.int p1] [] hv gX5_divide_X5_bitsOf rfl rfl rfl 1 (by decide +kernel) ⟨Nat.le_of_ble_eq_true rfl, Nat.le_of_ble_eq_true rfl⟩ rfl rfl ho5 rfl hl.1 rfl (Nat.le_of_ble_eq_true rfl) dX5_divide_16 ⟨Nat.zero_le _, Nat.zero_le _⟩ (fun r7 f6 H locs hv hS => ?_)
  refine lv_iconst (v := 1) hx hb dX5_divide_19 (by decide) ?_
  refine lv_isub hx hb dX5_divide_20 ?_
  refine lv_topi (fun x8 ex8 => ?_)
  have hv := hv x8 ex8
  refine lv_istore_n (lv' := [(3, .int x8), (0, .ref h), (1, .int p1), (2, .int p2)]) hx hb dX5_divide_21 rfl hl (by decide) rfl (fun ls hl => ?_)
  exact hL22 _ _ _ _ _ _ _ _ hv (lv_sub hl [1, 2, 3, 0] rfl) hS
set_option maxRecDepth 100000 in
set_option maxHeartbeats 4000000 in
theorem R_X5_divide_22 {E : cx} {p : Program} {e : Env} {s : State} {m : MethodId} {below : List Frame} {meth : Method} {c : Code} {f0 : hm} {zh : Nat} {zp1 : Int32} {zp2 : Int32} (C : wB E.2.1 vwCl (eT E) yX5_divide cX5_divide 4 none wsX5_divide [.ref zh, .int zp1, .int zp2] f0 p s m meth c) (a_0 : Nat) (x_1 : Int32) (x_2 : Int32) (x_3 : Int32) (f : hm) {L22 : Nat → Int32 → Int32 → Int32 → hm → Prop} {K : hm → Prop} (hv : X_X5_divide_22 E a_0 x_1 x_2 x_3 f L22 K) {ls : Array Slot} {H : Heap} {locs : List Loc} (hl : lv_has ls 4 [(0, .ref a_0), (1, .int x_1), (2, .int x_2), (3, .int x_3)]) (hS : wS E.2.1 vwCl (wA f0 s.heap.size) s.heap f H locs) (hL22 : ∀ (y_0 : Nat) (y_1 : Int32) (y_2 : Int32) (y_3 : Int32) (f : hm) (ls : Array Slot) (H : Heap) (locs : List Loc), L22 y_0 y_1 y_2 y_3 f → lv_has ls 4 [(0, .ref y_0), (1, .int y_1), (2, .int y_2), (3, .int y_3)] → wS E.2.1 vwCl (wA f0 s.heap.size) s.heap f H locs → W p E.1 e ({ frames := 1, cells := 0, slots := 0, locals := 28 }) s m ([.ref zh, .int zp1, .int zp2] : List Value).toArray below meth c H locs 0 0 (MQ below (wQv f0 E.2.1 vwCl K s) ([.ref zh, .int zp1, .int zp2] : List Value).toArray s 0 0 (wA f0 s.heap.size)) (F0 m 22 ls [])) : W p E.1 e ({ frames := 1, cells := 0, slots := 0, locals := 28 }) s m ([.ref zh, .int zp1, .int zp2] : List Value).toArray below meth c H locs 0 0 (MQ below (wQv f0 E.2.1 vwCl K s) ([.ref zh, .int zp1, .int zp2] : List Value).toArray s 0 0 (wA f0 s.heap.size)) (F0 m 22 ls []) := by
  obtain ⟨hx, hb, hml, hown, hts, hr, hlk, hnm, hK, -⟩ := C
  unfold X_X5_divide_22 at hv
  refine lv_iload_n hx hb dX5_divide_22 rfl (lv_at hl 3 rfl) ?_
  refine lv_if_lt (tgt := 112) hx hb dX5_divide_23 (by decide) (fun c1 => ?_) (fun c1 => ?_)
  · have hv := hv.1 c1
    exact fw_vret hx hb hr hlk hS hv dX5_divide_112
  · have hv := hv.2 c1
    refine lv_aload_n hx hb dX5_divide_26 rfl (lv_at hl 0 rfl) ?_
    refine lv_bipush (v := 21) hx hb dX5_divide_27 (by decide) ?_
    refine lv_ldc2 (v := (2)) hx hb hown (hts _ mm_X5_divide_0) dX5_divide_29 ?_
    obtain ⟨ho2, hv⟩ := hv
    refine fw_callVv hx hb hml hown hts hK hS [.int (21 : Int32), .long (2 : Int64)] [] hv gX5_divide_X5_grow rfl rfl rfl 2 (by decide +kernel) ⟨Nat.le_of_ble_eq_true rfl, Nat.le_of_ble_eq_true rfl⟩ rfl rfl ho2 rfl hl.1 rfl (Nat.le_of_ble_eq_true rfl) dX5_divide_32 ⟨Nat.zero_le _, Nat.zero_le _⟩ (fun f3 H locs hv hS => ?_)
    refine lv_aload_n hx hb dX5_divide_35 rfl (lv_at hl 0 rfl) ?_
    obtain ⟨v4, ev4, hv⟩ := hv
    refine fw_get hx hb hts ii_X5_divide_X5 hown hK hS 2 ev4 rfl (by decide) mm_X5_divide_1 rfl dX5_divide_36 ?_
    refine lv_sipush (v := 756) hx hb dX5_divide_39 (by decide) ?_
    refine lv_dup2_11 hx hb dX5_divide_42 rfl rfl ?_
    obtain ⟨v5, ev5, hv⟩ := hv
    refine fw_ald hx hb hK hS 0 rfl ev5 dX5_divide_43 ?_
    refine lv_aload_n hx hb dX5_divide_44 rfl (lv_at hl 0 rfl) ?_
    obtain ⟨v6, ev6, hv⟩ := hv
    refine fw_get hx hb hts ii_X5_divide_X5 hown hK hS 2 ev6 rfl (by decide) mm_X5_divide_1 rfl dX5_divide_45 ?_
    refine lv_bipush (v := 36) hx hb dX5_divide_48 (by decide) ?_
    refine lv_iload_n hx hb dX5_divide_50 rfl (lv_at hl 1 rfl) ?_
    refine lv_imul hx hb dX5_divide_51 ?_
    refine lv_iload_n hx hb dX5_divide_52 rfl (lv_at hl 3 rfl) ?_
    refine lv_bipush (v := 16) hx hb dX5_divide_53 (by decide) ?_
    obtain ⟨hz7, hv⟩ := hv
    refine lv_idiv hx hb dX5_divide_55 hz7 ?_
    refine lv_iadd hx hb dX5_divide_56 ?_
    obtain ⟨v8, ev8, hv⟩ := hv
    refine fw_ald hx hb hK hS 0 rfl ev8 dX5_divide_57 ?_
    refine lv_iload_n hx hb dX5_divide_58 rfl (lv_at hl 3 rfl) ?_
    refine lv_bipush (v := 16) hx hb dX5_divide_59 (by decide) ?_
    obtain ⟨hz9, hv⟩ := hv
    refine lv_irem hx hb dX5_divide_61 hz9 ?_
    refine lv_ishr hx hb dX5_divide_62 ?_
    refine lv_iconst (v := 1) hx hb dX5_divide_63 (by decide) ?_
    refine lv_iand hx hb dX5_divide_64 ?_
    refine lv_ior hx hb dX5_divide_65 ?_
    obtain ⟨f10, ef10, hv⟩ := hv
    refine fw_ast hx hb hK hS 0 rfl ef10 dX5_divide_66 (fun H locs hS => ?_)
    refine lv_aload_n hx hb dX5_divide_67 rfl (lv_at hl 0 rfl) ?_
    refine lv_bipush (v := 21) hx hb dX5_divide_68 (by decide) ?_
    refine lv_iload_n hx hb dX5_divide_70 rfl (lv_at hl 2 rfl) ?_
    obtain ⟨ho11, hv⟩ := hv
    refine fw_callVi hx hb hml hown hts hK hS [.int (21 : Int32), .int x_2] [] hv gX5_divide_X5_compare rfl rfl rfl 2 (by decide +kernel) ⟨Nat.le_of_ble_eq_true rfl, Nat.le_of_ble_eq_true rfl⟩ rfl rfl ho11 rfl hl.1 rfl (Nat.le_of_ble_eq_true rfl) dX5_divide_71 ⟨Nat.zero_le _, Nat.zero_le _⟩ (fun r13 f12 H locs hv hS => ?_)
    refine lv_if_lt (tgt := 106) hx hb dX5_divide_74 (by decide) (fun c14 => ?_) (fun c14 => ?_)
    · have hv := hv.1 c14
      obtain ⟨x15, ex15⟩ : ∃ y : Int32, y = x_3 + (-1) := ⟨_, rfl⟩
      have hv := hv x15 ex15
      refine lv_iinc (v := x15) (lv' := [(3, .int x15), (0, .ref a_0), (1, .int x_1), (2, .int x_2)]) hx hb dX5_divide_106 hl (k := 3) rfl (by rw [ex15]; rfl) (by decide) rfl (fun ls hl => ?_)
      refine lv_goto (tgt := 22) hx hb dX5_divide_109 (by decide) ?_
      exact hL22 _ _ _ _ _ _ _ _ hv (lv_sub hl [1, 2, 3, 0] rfl) hS
    · have hv := hv.2 c14
      refine lv_aload_n hx hb dX5_divide_77 rfl (lv_at hl 0 rfl) ?_
      refine lv_bipush (v := 21) hx hb dX5_divide_78 (by decide) ?_
      refine lv_iload_n hx hb dX5_divide_80 rfl (lv_at hl 2 rfl) ?_
      obtain ⟨ho16, hv⟩ := hv
      refine fw_callVv hx hb hml hown hts hK hS [.int (21 : Int32), .int x_2] [] hv gX5_divide_X5_lessen rfl rfl rfl 2 (by decide +kernel) ⟨Nat.le_of_ble_eq_true rfl, Nat.le_of_ble_eq_true rfl⟩ rfl rfl ho16 rfl hl.1 rfl (Nat.le_of_ble_eq_true rfl) dX5_divide_81 ⟨Nat.zero_le _, Nat.zero_le _⟩ (fun f17 H locs hv hS => ?_)
      refine lv_aload_n hx hb dX5_divide_84 rfl (lv_at hl 0 rfl) ?_
      obtain ⟨v18, ev18, hv⟩ := hv
      refine fw_get hx hb hts ii_X5_divide_X5 hown hK hS 2 ev18 rfl (by decide) mm_X5_divide_1 rfl dX5_divide_85 ?_
      refine lv_sipush (v := 720) hx hb dX5_divide_88 (by decide) ?_
      refine lv_iload_n hx hb dX5_divide_91 rfl (lv_at hl 3 rfl) ?_
      refine lv_bipush (v := 16) hx hb dX5_divide_92 (by decide) ?_
      obtain ⟨hz19, hv⟩ := hv
      refine lv_idiv hx hb dX5_divide_94 hz19 ?_
      refine lv_iadd hx hb dX5_divide_95 ?_
      refine lv_dup2_11 hx hb dX5_divide_96 rfl rfl ?_
      obtain ⟨v20, ev20, hv⟩ := hv
      refine fw_ald hx hb hK hS 0 rfl ev20 dX5_divide_97 ?_
      refine lv_iconst (v := 1) hx hb dX5_divide_98 (by decide) ?_
      refine lv_iload_n hx hb dX5_divide_99 rfl (lv_at hl 3 rfl) ?_
      refine lv_bipush (v := 16) hx hb dX5_divide_100 (by decide) ?_
      obtain ⟨hz21, hv⟩ := hv
      refine lv_irem hx hb dX5_divide_102 hz21 ?_
      refine lv_ishl hx hb dX5_divide_103 ?_
      refine lv_ior hx hb dX5_divide_104 ?_
      obtain ⟨f22, ef22, hv⟩ := hv
      refine fw_ast hx hb hK hS 0 rfl ef22 dX5_divide_105 (fun H locs hS => ?_)
      obtain ⟨x23, ex23⟩ : ∃ y : Int32, y = x_3 + (-1) := ⟨_, rfl⟩
      have hv := hv x23 ex23
      refine lv_iinc (v := x23) (lv' := [(3, .int x23), (0, .ref a_0), (1, .int x_1), (2, .int x_2)]) hx hb dX5_divide_106 hl (k := 3) rfl (by rw [ex23]; rfl) (by decide) rfl (fun ls hl => ?_)
      refine lv_goto (tgt := 22) hx hb dX5_divide_109 (by decide) ?_
      exact hL22 _ _ _ _ _ _ _ _ hv (lv_sub hl [1, 2, 3, 0] rfl) hS
set_option maxRecDepth 100000 in
set_option maxHeartbeats 4000000 in
theorem T_X5_divide {E : cx} {h : Nat} {p1 : Int32} {p2 : Int32} {f : hm} {K : hm → Prop} (I22 : Nat → Nat → Int32 → Int32 → Int32 → hm → Prop) (h0 : X_X5_divide_0 E h p1 p2 f (fun (y_0 : Nat) (y_1 : Int32) (y_2 : Int32) (y_3 : Int32) (f : hm) => ∃ k : Nat, I22 k y_0 y_1 y_2 y_3 f) K) (h22 : ∀ (n : Nat) (a_0 : Nat) (x_1 : Int32) (x_2 : Int32) (x_3 : Int32) (f : hm), I22 n a_0 x_1 x_2 x_3 f → X_X5_divide_22 E a_0 x_1 x_2 x_3 f (fun (y_0 : Nat) (y_1 : Int32) (y_2 : Int32) (y_3 : Int32) (f : hm) => ∃ k : Nat, k < n ∧ I22 k y_0 y_1 y_2 y_3 f) K) : S_X5_divide E h p1 p2 f K := by
  refine MV_of (cc := cX5_divide) (maxL := 4) (ret := none) (by decide) rfl ?_
  intro p e s m below meth c C
  have hl := lv_entry ([.ref h, .int p1, .int p2]) (n := 4) (Nat.le_of_ble_eq_true rfl)
  rw [lg_entry_eq]
  generalize (lg_sl ([.ref h, .int p1, .int p2]) ++ List.replicate (4 - (lg_sl ([.ref h, .int p1, .int p2])).length) Slot.unset).toArray = ls at hl ⊢
  have hl : lv_has ls 4 [(0, .ref h), (1, .int p1), (2, .int p2)] := hl
  have hS := C.2.2.2.2.2.2.2.2.2
  have key : ∀ n : Nat, (∀ (a_0 : Nat) (x_1 : Int32) (x_2 : Int32) (x_3 : Int32) (g : hm) (ls : Array Slot) (H : Heap) (locs : List Loc), I22 n a_0 x_1 x_2 x_3 g → lv_has ls 4 [(0, .ref a_0), (1, .int x_1), (2, .int x_2), (3, .int x_3)] → wS E.2.1 vwCl (wA f s.heap.size) s.heap g H locs → W p E.1 e ({ frames := 1, cells := 0, slots := 0, locals := 28 }) s m ([.ref h, .int p1, .int p2] : List Value).toArray below meth c H locs 0 0 (MQ below (wQv f E.2.1 vwCl K s) ([.ref h, .int p1, .int p2] : List Value).toArray s 0 0 (wA f s.heap.size)) (F0 m 22 ls [])) := by
    refine st_ind (fun n ih => ?_)
    intro a_0 x_1 x_2 x_3 g ls H locs hI hl hS
    exact R_X5_divide_22 C a_0 x_1 x_2 x_3 g (h22 n a_0 x_1 x_2 x_3 g hI) hl hS (fun _ _ _ _ _ _ _ _ hI hl hS => by obtain ⟨k, hk, hI⟩ := hI; exact (ih k hk) _ _ _ _ _ _ _ _ hI hl hS)
  exact R_X5_divide_0 C h p1 p2 f h0 hl hS (fun _ _ _ _ _ _ _ _ hI hl hS => by obtain ⟨k, hI⟩ := hI; exact (key k) _ _ _ _ _ _ _ _ hI hl hS)
/-! ContinuedRatiosModel.common()V -/
def S_X5_common (E : cx) (h : Nat) (f : hm) (K : hm → Prop) : Prop := MV E.1 E.2.1 vwCl (eT E) yX5_common wsX5_common ({ frames := 1, cells := 0, slots := 0, locals := 28 }) [.ref h] f K
theorem mm_X5_common_0 : Cond.constantLong RX5 34 (2) ∈ wsX5_common := by decide +kernel
def X_X5_common_0 (E : cx) (h : Nat) (f : hm) (L18 : Nat → Int32 → hm → Prop) (K : hm → Prop) : Prop :=
  (isO f h 5 ∧ S_X5_copy E h (16 : Int32) (24 : Int32) f (fun (f2 : hm) => (isO f2 h 5 ∧ S_X5_copy E h (17 : Int32) (25 : Int32) f2 (fun (f4 : hm) => L18 h (0 : Int32) f4))))
def X_X5_common_18 (E : cx) (a_0 : Nat) (x_1 : Int32) (f : hm) (L18 : Nat → Int32 → hm → Prop) (L54 : Nat → Int32 → hm → Prop) (K : hm → Prop) : Prop :=
  (isO f a_0 5 ∧ S_X5_isEven E a_0 (24 : Int32) f (fun (r3 : Int32) (f2 : hm) => ((r3 = 0 → L54 a_0 x_1 f2) ∧ (¬ (r3 = 0) → (isO f2 a_0 5 ∧ S_X5_isEven E a_0 (25 : Int32) f2 (fun (r7 : Int32) (f6 : hm) => ((r7 = 0 → L54 a_0 x_1 f6) ∧ (¬ (r7 = 0) → (isO f6 a_0 5 ∧ S_X5_halve E a_0 (24 : Int32) f6 (fun (f10 : hm) => (isO f10 a_0 5 ∧ S_X5_halve E a_0 (25 : Int32) f10 (fun (f12 : hm) => (∀ x13 : Int32, x13 = x_1 + (1) → L18 a_0 x13 f12)))))))))))))
def X_X5_common_54 (E : cx) (a_0 : Nat) (x_1 : Int32) (f : hm) (L63 : Nat → Int32 → hm → Prop) (L134 : Nat → Int32 → Int32 → hm → Prop) (K : hm → Prop) : Prop :=
  (isO f a_0 5 ∧ S_X5_isZero E a_0 (25 : Int32) f (fun (r3 : Int32) (f2 : hm) => ((¬ r3 = 0 → L134 a_0 x_1 (0 : Int32) f2) ∧ (r3 = 0 → L63 a_0 x_1 f2))))
def X_X5_common_63 (E : cx) (a_0 : Nat) (x_1 : Int32) (f : hm) (L63 : Nat → Int32 → hm → Prop) (L81 : Nat → Int32 → hm → Prop) (K : hm → Prop) : Prop :=
  (isO f a_0 5 ∧ S_X5_isEven E a_0 (25 : Int32) f (fun (r3 : Int32) (f2 : hm) => ((r3 = 0 → L81 a_0 x_1 f2) ∧ (¬ (r3 = 0) → (isO f2 a_0 5 ∧ S_X5_halve E a_0 (25 : Int32) f2 (fun (f6 : hm) => L63 a_0 x_1 f6))))))
def X_X5_common_81 (E : cx) (a_0 : Nat) (x_1 : Int32) (f : hm) (L54 : Nat → Int32 → hm → Prop) (L81 : Nat → Int32 → hm → Prop) (K : hm → Prop) : Prop :=
  (isO f a_0 5 ∧ S_X5_isEven E a_0 (24 : Int32) f (fun (r3 : Int32) (f2 : hm) => ((r3 = 0 → (isO f2 a_0 5 ∧ S_X5_compare E a_0 (25 : Int32) (24 : Int32) f2 (fun (r7 : Int32) (f6 : hm) => ((r7 < 0 → (isO f6 a_0 5 ∧ S_X5_lessen E a_0 (24 : Int32) (25 : Int32) f6 (fun (f10 : hm) => L54 a_0 x_1 f10))) ∧ (¬ (r7 < 0) → (isO f6 a_0 5 ∧ S_X5_lessen E a_0 (25 : Int32) (24 : Int32) f6 (fun (f12 : hm) => L54 a_0 x_1 f12))))))) ∧ (¬ (r3 = 0) → (isO f2 a_0 5 ∧ S_X5_halve E a_0 (24 : Int32) f2 (fun (f14 : hm) => L81 a_0 x_1 f14))))))
def X_X5_common_134 (E : cx) (a_0 : Nat) (x_1 : Int32) (x_2 : Int32) (f : hm) (L134 : Nat → Int32 → Int32 → hm → Prop) (K : hm → Prop) : Prop :=
  ((x_1 ≤ x_2 → K f) ∧ (¬ (x_1 ≤ x_2) → (isO f a_0 5 ∧ S_X5_grow E a_0 (24 : Int32) (2 : Int64) f (fun (f3 : hm) => (∀ x4 : Int32, x4 = x_2 + (1) → L134 a_0 x_1 x4 f3)))))
set_option maxRecDepth 100000 in
set_option maxHeartbeats 4000000 in
theorem R_X5_common_0 {E : cx} {p : Program} {e : Env} {s : State} {m : MethodId} {below : List Frame} {meth : Method} {c : Code} {f0 : hm} {zh : Nat} (C : wB E.2.1 vwCl (eT E) yX5_common cX5_common 3 none wsX5_common [.ref zh] f0 p s m meth c) (h : Nat) (f : hm) {L18 : Nat → Int32 → hm → Prop} {K : hm → Prop} (hv : X_X5_common_0 E h f L18 K) {ls : Array Slot} {H : Heap} {locs : List Loc} (hl : lv_has ls 3 [(0, .ref h)]) (hS : wS E.2.1 vwCl (wA f0 s.heap.size) s.heap f H locs) (hL18 : ∀ (y_0 : Nat) (y_1 : Int32) (f : hm) (ls : Array Slot) (H : Heap) (locs : List Loc), L18 y_0 y_1 f → lv_has ls 3 [(0, .ref y_0), (1, .int y_1)] → wS E.2.1 vwCl (wA f0 s.heap.size) s.heap f H locs → W p E.1 e ({ frames := 1, cells := 0, slots := 0, locals := 28 }) s m ([.ref zh] : List Value).toArray below meth c H locs 0 0 (MQ below (wQv f0 E.2.1 vwCl K s) ([.ref zh] : List Value).toArray s 0 0 (wA f0 s.heap.size)) (F0 m 18 ls [])) : W p E.1 e ({ frames := 1, cells := 0, slots := 0, locals := 28 }) s m ([.ref zh] : List Value).toArray below meth c H locs 0 0 (MQ below (wQv f0 E.2.1 vwCl K s) ([.ref zh] : List Value).toArray s 0 0 (wA f0 s.heap.size)) (F0 m 0 ls []) := by
  obtain ⟨hx, hb, hml, hown, hts, hr, hlk, hnm, hK, -⟩ := C
  unfold X_X5_common_0 at hv
  refine lv_aload_n hx hb dX5_common_0 rfl (lv_at hl 0 rfl) ?_
  refine lv_bipush (v := 16) hx hb dX5_common_1 (by decide) ?_
  refine lv_bipush (v := 24) hx hb dX5_common_3 (by decide) ?_
  obtain ⟨ho1, hv⟩ := hv
  refine fw_callVv hx hb hml hown hts hK hS [.int (16 : Int32), .int (24 : Int32)] [] hv gX5_common_X5_copy rfl rfl rfl 2 (by decide +kernel) ⟨Nat.le_of_ble_eq_true rfl, Nat.le_of_ble_eq_true rfl⟩ rfl rfl ho1 rfl hl.1 rfl (Nat.le_of_ble_eq_true rfl) dX5_common_5 ⟨Nat.zero_le _, Nat.zero_le _⟩ (fun f2 H locs hv hS => ?_)
  refine lv_aload_n hx hb dX5_common_8 rfl (lv_at hl 0 rfl) ?_
  refine lv_bipush (v := 17) hx hb dX5_common_9 (by decide) ?_
  refine lv_bipush (v := 25) hx hb dX5_common_11 (by decide) ?_
  obtain ⟨ho3, hv⟩ := hv
  refine fw_callVv hx hb hml hown hts hK hS [.int (17 : Int32), .int (25 : Int32)] [] hv gX5_common_X5_copy rfl rfl rfl 2 (by decide +kernel) ⟨Nat.le_of_ble_eq_true rfl, Nat.le_of_ble_eq_true rfl⟩ rfl rfl ho3 rfl hl.1 rfl (Nat.le_of_ble_eq_true rfl) dX5_common_13 ⟨Nat.zero_le _, Nat.zero_le _⟩ (fun f4 H locs hv hS => ?_)
  refine lv_iconst (v := 0) hx hb dX5_common_16 (by decide) ?_
  refine lv_istore_n (lv' := [(1, .int (0 : Int32)), (0, .ref h)]) hx hb dX5_common_17 rfl hl (by decide) rfl (fun ls hl => ?_)
  exact hL18 _ _ _ _ _ _ hv (lv_sub hl [1, 0] rfl) hS
set_option maxRecDepth 100000 in
set_option maxHeartbeats 4000000 in
theorem R_X5_common_18 {E : cx} {p : Program} {e : Env} {s : State} {m : MethodId} {below : List Frame} {meth : Method} {c : Code} {f0 : hm} {zh : Nat} (C : wB E.2.1 vwCl (eT E) yX5_common cX5_common 3 none wsX5_common [.ref zh] f0 p s m meth c) (a_0 : Nat) (x_1 : Int32) (f : hm) {L18 : Nat → Int32 → hm → Prop} {L54 : Nat → Int32 → hm → Prop} {K : hm → Prop} (hv : X_X5_common_18 E a_0 x_1 f L18 L54 K) {ls : Array Slot} {H : Heap} {locs : List Loc} (hl : lv_has ls 3 [(0, .ref a_0), (1, .int x_1)]) (hS : wS E.2.1 vwCl (wA f0 s.heap.size) s.heap f H locs) (hL18 : ∀ (y_0 : Nat) (y_1 : Int32) (f : hm) (ls : Array Slot) (H : Heap) (locs : List Loc), L18 y_0 y_1 f → lv_has ls 3 [(0, .ref y_0), (1, .int y_1)] → wS E.2.1 vwCl (wA f0 s.heap.size) s.heap f H locs → W p E.1 e ({ frames := 1, cells := 0, slots := 0, locals := 28 }) s m ([.ref zh] : List Value).toArray below meth c H locs 0 0 (MQ below (wQv f0 E.2.1 vwCl K s) ([.ref zh] : List Value).toArray s 0 0 (wA f0 s.heap.size)) (F0 m 18 ls [])) (hL54 : ∀ (y_0 : Nat) (y_1 : Int32) (f : hm) (ls : Array Slot) (H : Heap) (locs : List Loc), L54 y_0 y_1 f → lv_has ls 3 [(0, .ref y_0), (1, .int y_1)] → wS E.2.1 vwCl (wA f0 s.heap.size) s.heap f H locs → W p E.1 e ({ frames := 1, cells := 0, slots := 0, locals := 28 }) s m ([.ref zh] : List Value).toArray below meth c H locs 0 0 (MQ below (wQv f0 E.2.1 vwCl K s) ([.ref zh] : List Value).toArray s 0 0 (wA f0 s.heap.size)) (F0 m 54 ls [])) : W p E.1 e ({ frames := 1, cells := 0, slots := 0, locals := 28 }) s m ([.ref zh] : List Value).toArray below meth c H locs 0 0 (MQ below (wQv f0 E.2.1 vwCl K s) ([.ref zh] : List Value).toArray s 0 0 (wA f0 s.heap.size)) (F0 m 18 ls []) := by
  obtain ⟨hx, hb, hml, hown, hts, hr, hlk, hnm, hK, -⟩ := C
  unfold X_X5_common_18 at hv
  refine lv_aload_n hx hb dX5_common_18 rfl (lv_at hl 0 rfl) ?_
  refine lv_bipush (v := 24) hx hb dX5_common_19 (by decide) ?_
  obtain ⟨ho1, hv⟩ := hv
  refine fw_callVi hx hb hml hown hts hK hS [.int (24 : Int32)] [] hv gX5_common_X5_isEven rfl rfl rfl 1 (by decide +kernel) ⟨Nat.le_of_ble_eq_true rfl, Nat.le_of_ble_eq_true rfl⟩ rfl rfl ho1 rfl hl.1 rfl (Nat.le_of_ble_eq_true rfl) dX5_common_21 ⟨Nat.zero_le _, Nat.zero_le _⟩ (fun r3 f2 H locs hv hS => ?_)
  refine lv_if_eq (tgt := 54) hx hb dX5_common_24 (by decide) (fun c4 => ?_) (fun c4 => ?_)
  · have hv := hv.1 c4
    exact hL54 _ _ _ _ _ _ hv (lv_sub hl [0, 1] rfl) hS
  · have hv := hv.2 c4
    refine lv_aload_n hx hb dX5_common_27 rfl (lv_at hl 0 rfl) ?_
    refine lv_bipush (v := 25) hx hb dX5_common_28 (by decide) ?_
    obtain ⟨ho5, hv⟩ := hv
    refine fw_callVi hx hb hml hown hts hK hS [.int (25 : Int32)] [] hv gX5_common_X5_isEven rfl rfl rfl 1 (by decide +kernel) ⟨Nat.le_of_ble_eq_true rfl, Nat.le_of_ble_eq_true rfl⟩ rfl rfl ho5 rfl hl.1 rfl (Nat.le_of_ble_eq_true rfl) dX5_common_30 ⟨Nat.zero_le _, Nat.zero_le _⟩ (fun r7 f6 H locs hv hS => ?_)
    refine lv_if_eq (tgt := 54) hx hb dX5_common_33 (by decide) (fun c8 => ?_) (fun c8 => ?_)
    · have hv := hv.1 c8
      exact hL54 _ _ _ _ _ _ hv (lv_sub hl [0, 1] rfl) hS
    · have hv := hv.2 c8
      refine lv_aload_n hx hb dX5_common_36 rfl (lv_at hl 0 rfl) ?_
      refine lv_bipush (v := 24) hx hb dX5_common_37 (by decide) ?_
      obtain ⟨ho9, hv⟩ := hv
      refine fw_callVv hx hb hml hown hts hK hS [.int (24 : Int32)] [] hv gX5_common_X5_halve rfl rfl rfl 1 (by decide +kernel) ⟨Nat.le_of_ble_eq_true rfl, Nat.le_of_ble_eq_true rfl⟩ rfl rfl ho9 rfl hl.1 rfl (Nat.le_of_ble_eq_true rfl) dX5_common_39 ⟨Nat.zero_le _, Nat.zero_le _⟩ (fun f10 H locs hv hS => ?_)
      refine lv_aload_n hx hb dX5_common_42 rfl (lv_at hl 0 rfl) ?_
      refine lv_bipush (v := 25) hx hb dX5_common_43 (by decide) ?_
      obtain ⟨ho11, hv⟩ := hv
      refine fw_callVv hx hb hml hown hts hK hS [.int (25 : Int32)] [] hv gX5_common_X5_halve rfl rfl rfl 1 (by decide +kernel) ⟨Nat.le_of_ble_eq_true rfl, Nat.le_of_ble_eq_true rfl⟩ rfl rfl ho11 rfl hl.1 rfl (Nat.le_of_ble_eq_true rfl) dX5_common_45 ⟨Nat.zero_le _, Nat.zero_le _⟩ (fun f12 H locs hv hS => ?_)
      obtain ⟨x13, ex13⟩ : ∃ y : Int32, y = x_1 + (1) := ⟨_, rfl⟩
      have hv := hv x13 ex13
      refine lv_iinc (v := x13) (lv' := [(1, .int x13), (0, .ref a_0)]) hx hb dX5_common_48 hl (k := 1) rfl (by rw [ex13]; rfl) (by decide) rfl (fun ls hl => ?_)
      refine lv_goto (tgt := 18) hx hb dX5_common_51 (by decide) ?_
      exact hL18 _ _ _ _ _ _ hv (lv_sub hl [1, 0] rfl) hS
set_option maxRecDepth 100000 in
set_option maxHeartbeats 4000000 in
theorem R_X5_common_54 {E : cx} {p : Program} {e : Env} {s : State} {m : MethodId} {below : List Frame} {meth : Method} {c : Code} {f0 : hm} {zh : Nat} (C : wB E.2.1 vwCl (eT E) yX5_common cX5_common 3 none wsX5_common [.ref zh] f0 p s m meth c) (a_0 : Nat) (x_1 : Int32) (f : hm) {L63 : Nat → Int32 → hm → Prop} {L134 : Nat → Int32 → Int32 → hm → Prop} {K : hm → Prop} (hv : X_X5_common_54 E a_0 x_1 f L63 L134 K) {ls : Array Slot} {H : Heap} {locs : List Loc} (hl : lv_has ls 3 [(0, .ref a_0), (1, .int x_1)]) (hS : wS E.2.1 vwCl (wA f0 s.heap.size) s.heap f H locs) (hL63 : ∀ (y_0 : Nat) (y_1 : Int32) (f : hm) (ls : Array Slot) (H : Heap) (locs : List Loc), L63 y_0 y_1 f → lv_has ls 3 [(0, .ref y_0), (1, .int y_1)] → wS E.2.1 vwCl (wA f0 s.heap.size) s.heap f H locs → W p E.1 e ({ frames := 1, cells := 0, slots := 0, locals := 28 }) s m ([.ref zh] : List Value).toArray below meth c H locs 0 0 (MQ below (wQv f0 E.2.1 vwCl K s) ([.ref zh] : List Value).toArray s 0 0 (wA f0 s.heap.size)) (F0 m 63 ls [])) (hL134 : ∀ (y_0 : Nat) (y_1 : Int32) (y_2 : Int32) (f : hm) (ls : Array Slot) (H : Heap) (locs : List Loc), L134 y_0 y_1 y_2 f → lv_has ls 3 [(0, .ref y_0), (1, .int y_1), (2, .int y_2)] → wS E.2.1 vwCl (wA f0 s.heap.size) s.heap f H locs → W p E.1 e ({ frames := 1, cells := 0, slots := 0, locals := 28 }) s m ([.ref zh] : List Value).toArray below meth c H locs 0 0 (MQ below (wQv f0 E.2.1 vwCl K s) ([.ref zh] : List Value).toArray s 0 0 (wA f0 s.heap.size)) (F0 m 134 ls [])) : W p E.1 e ({ frames := 1, cells := 0, slots := 0, locals := 28 }) s m ([.ref zh] : List Value).toArray below meth c H locs 0 0 (MQ below (wQv f0 E.2.1 vwCl K s) ([.ref zh] : List Value).toArray s 0 0 (wA f0 s.heap.size)) (F0 m 54 ls []) := by
  obtain ⟨hx, hb, hml, hown, hts, hr, hlk, hnm, hK, -⟩ := C
  unfold X_X5_common_54 at hv
  refine lv_aload_n hx hb dX5_common_54 rfl (lv_at hl 0 rfl) ?_
  refine lv_bipush (v := 25) hx hb dX5_common_55 (by decide) ?_
  obtain ⟨ho1, hv⟩ := hv
  refine fw_callVi hx hb hml hown hts hK hS [.int (25 : Int32)] [] hv gX5_common_X5_isZero rfl rfl rfl 1 (by decide +kernel) ⟨Nat.le_of_ble_eq_true rfl, Nat.le_of_ble_eq_true rfl⟩ rfl rfl ho1 rfl hl.1 rfl (Nat.le_of_ble_eq_true rfl) dX5_common_57 ⟨Nat.zero_le _, Nat.zero_le _⟩ (fun r3 f2 H locs hv hS => ?_)
  refine lv_if_ne (tgt := 132) hx hb dX5_common_60 (by decide) (fun c4 => ?_) (fun c4 => ?_)
  · have hv := hv.1 c4
    refine lv_iconst (v := 0) hx hb dX5_common_132 (by decide) ?_
    refine lv_istore_n (lv' := [(2, .int (0 : Int32)), (0, .ref a_0), (1, .int x_1)]) hx hb dX5_common_133 rfl hl (by decide) rfl (fun ls hl => ?_)
    exact hL134 _ _ _ _ _ _ _ hv (lv_sub hl [1, 2, 0] rfl) hS
  · have hv := hv.2 c4
    exact hL63 _ _ _ _ _ _ hv (lv_sub hl [0, 1] rfl) hS
set_option maxRecDepth 100000 in
set_option maxHeartbeats 4000000 in
theorem R_X5_common_63 {E : cx} {p : Program} {e : Env} {s : State} {m : MethodId} {below : List Frame} {meth : Method} {c : Code} {f0 : hm} {zh : Nat} (C : wB E.2.1 vwCl (eT E) yX5_common cX5_common 3 none wsX5_common [.ref zh] f0 p s m meth c) (a_0 : Nat) (x_1 : Int32) (f : hm) {L63 : Nat → Int32 → hm → Prop} {L81 : Nat → Int32 → hm → Prop} {K : hm → Prop} (hv : X_X5_common_63 E a_0 x_1 f L63 L81 K) {ls : Array Slot} {H : Heap} {locs : List Loc} (hl : lv_has ls 3 [(0, .ref a_0), (1, .int x_1)]) (hS : wS E.2.1 vwCl (wA f0 s.heap.size) s.heap f H locs) (hL63 : ∀ (y_0 : Nat) (y_1 : Int32) (f : hm) (ls : Array Slot) (H : Heap) (locs : List Loc), L63 y_0 y_1 f → lv_has ls 3 [(0, .ref y_0), (1, .int y_1)] → wS E.2.1 vwCl (wA f0 s.heap.size) s.heap f H locs → W p E.1 e ({ frames := 1, cells := 0, slots := 0, locals := 28 }) s m ([.ref zh] : List Value).toArray below meth c H locs 0 0 (MQ below (wQv f0 E.2.1 vwCl K s) ([.ref zh] : List Value).toArray s 0 0 (wA f0 s.heap.size)) (F0 m 63 ls [])) (hL81 : ∀ (y_0 : Nat) (y_1 : Int32) (f : hm) (ls : Array Slot) (H : Heap) (locs : List Loc), L81 y_0 y_1 f → lv_has ls 3 [(0, .ref y_0), (1, .int y_1)] → wS E.2.1 vwCl (wA f0 s.heap.size) s.heap f H locs → W p E.1 e ({ frames := 1, cells := 0, slots := 0, locals := 28 }) s m ([.ref zh] : List Value).toArray below meth c H locs 0 0 (MQ below (wQv f0 E.2.1 vwCl K s) ([.ref zh] : List Value).toArray s 0 0 (wA f0 s.heap.size)) (F0 m 81 ls [])) : W p E.1 e ({ frames := 1, cells := 0, slots := 0, locals := 28 }) s m ([.ref zh] : List Value).toArray below meth c H locs 0 0 (MQ below (wQv f0 E.2.1 vwCl K s) ([.ref zh] : List Value).toArray s 0 0 (wA f0 s.heap.size)) (F0 m 63 ls []) := by
  obtain ⟨hx, hb, hml, hown, hts, hr, hlk, hnm, hK, -⟩ := C
  unfold X_X5_common_63 at hv
  refine lv_aload_n hx hb dX5_common_63 rfl (lv_at hl 0 rfl) ?_
  refine lv_bipush (v := 25) hx hb dX5_common_64 (by decide) ?_
  obtain ⟨ho1, hv⟩ := hv
  refine fw_callVi hx hb hml hown hts hK hS [.int (25 : Int32)] [] hv gX5_common_X5_isEven rfl rfl rfl 1 (by decide +kernel) ⟨Nat.le_of_ble_eq_true rfl, Nat.le_of_ble_eq_true rfl⟩ rfl rfl ho1 rfl hl.1 rfl (Nat.le_of_ble_eq_true rfl) dX5_common_66 ⟨Nat.zero_le _, Nat.zero_le _⟩ (fun r3 f2 H locs hv hS => ?_)
  refine lv_if_eq (tgt := 81) hx hb dX5_common_69 (by decide) (fun c4 => ?_) (fun c4 => ?_)
  · have hv := hv.1 c4
    exact hL81 _ _ _ _ _ _ hv (lv_sub hl [0, 1] rfl) hS
  · have hv := hv.2 c4
    refine lv_aload_n hx hb dX5_common_72 rfl (lv_at hl 0 rfl) ?_
    refine lv_bipush (v := 25) hx hb dX5_common_73 (by decide) ?_
    obtain ⟨ho5, hv⟩ := hv
    refine fw_callVv hx hb hml hown hts hK hS [.int (25 : Int32)] [] hv gX5_common_X5_halve rfl rfl rfl 1 (by decide +kernel) ⟨Nat.le_of_ble_eq_true rfl, Nat.le_of_ble_eq_true rfl⟩ rfl rfl ho5 rfl hl.1 rfl (Nat.le_of_ble_eq_true rfl) dX5_common_75 ⟨Nat.zero_le _, Nat.zero_le _⟩ (fun f6 H locs hv hS => ?_)
    refine lv_goto (tgt := 63) hx hb dX5_common_78 (by decide) ?_
    exact hL63 _ _ _ _ _ _ hv (lv_sub hl [0, 1] rfl) hS
set_option maxRecDepth 100000 in
set_option maxHeartbeats 4000000 in
theorem R_X5_common_81 {E : cx} {p : Program} {e : Env} {s : State} {m : MethodId} {below : List Frame} {meth : Method} {c : Code} {f0 : hm} {zh : Nat} (C : wB E.2.1 vwCl (eT E) yX5_common cX5_common 3 none wsX5_common [.ref zh] f0 p s m meth c) (a_0 : Nat) (x_1 : Int32) (f : hm) {L54 : Nat → Int32 → hm → Prop} {L81 : Nat → Int32 → hm → Prop} {K : hm → Prop} (hv : X_X5_common_81 E a_0 x_1 f L54 L81 K) {ls : Array Slot} {H : Heap} {locs : List Loc} (hl : lv_has ls 3 [(0, .ref a_0), (1, .int x_1)]) (hS : wS E.2.1 vwCl (wA f0 s.heap.size) s.heap f H locs) (hL54 : ∀ (y_0 : Nat) (y_1 : Int32) (f : hm) (ls : Array Slot) (H : Heap) (locs : List Loc), L54 y_0 y_1 f → lv_has ls 3 [(0, .ref y_0), (1, .int y_1)] → wS E.2.1 vwCl (wA f0 s.heap.size) s.heap f H locs → W p E.1 e ({ frames := 1, cells := 0, slots := 0, locals := 28 }) s m ([.ref zh] : List Value).toArray below meth c H locs 0 0 (MQ below (wQv f0 E.2.1 vwCl K s) ([.ref zh] : List Value).toArray s 0 0 (wA f0 s.heap.size)) (F0 m 54 ls [])) (hL81 : ∀ (y_0 : Nat) (y_1 : Int32) (f : hm) (ls : Array Slot) (H : Heap) (locs : List Loc), L81 y_0 y_1 f → lv_has ls 3 [(0, .ref y_0), (1, .int y_1)] → wS E.2.1 vwCl (wA f0 s.heap.size) s.heap f H locs → W p E.1 e ({ frames := 1, cells := 0, slots := 0, locals := 28 }) s m ([.ref zh] : List Value).toArray below meth c H locs 0 0 (MQ below (wQv f0 E.2.1 vwCl K s) ([.ref zh] : List Value).toArray s 0 0 (wA f0 s.heap.size)) (F0 m 81 ls [])) : W p E.1 e ({ frames := 1, cells := 0, slots := 0, locals := 28 }) s m ([.ref zh] : List Value).toArray below meth c H locs 0 0 (MQ below (wQv f0 E.2.1 vwCl K s) ([.ref zh] : List Value).toArray s 0 0 (wA f0 s.heap.size)) (F0 m 81 ls []) := by
  obtain ⟨hx, hb, hml, hown, hts, hr, hlk, hnm, hK, -⟩ := C
  unfold X_X5_common_81 at hv
  refine lv_aload_n hx hb dX5_common_81 rfl (lv_at hl 0 rfl) ?_
  refine lv_bipush (v := 24) hx hb dX5_common_82 (by decide) ?_
  obtain ⟨ho1, hv⟩ := hv
  refine fw_callVi hx hb hml hown hts hK hS [.int (24 : Int32)] [] hv gX5_common_X5_isEven rfl rfl rfl 1 (by decide +kernel) ⟨Nat.le_of_ble_eq_true rfl, Nat.le_of_ble_eq_true rfl⟩ rfl rfl ho1 rfl hl.1 rfl (Nat.le_of_ble_eq_true rfl) dX5_common_84 ⟨Nat.zero_le _, Nat.zero_le _⟩ (fun r3 f2 H locs hv hS => ?_)
  refine lv_if_eq (tgt := 99) hx hb dX5_common_87 (by decide) (fun c4 => ?_) (fun c4 => ?_)
  · have hv := hv.1 c4
    refine lv_aload_n hx hb dX5_common_99 rfl (lv_at hl 0 rfl) ?_
    refine lv_bipush (v := 25) hx hb dX5_common_100 (by decide) ?_
    refine lv_bipush (v := 24) hx hb dX5_common_102 (by decide) ?_
    obtain ⟨ho5, hv⟩ := hv
    refine fw_callVi hx hb hml hown hts hK hS [.int (25 : Int32), .int (24 : Int32)] [] hv gX5_common_X5_compare rfl rfl rfl 2 (by decide +kernel) ⟨Nat.le_of_ble_eq_true rfl, Nat.le_of_ble_eq_true rfl⟩ rfl rfl ho5 rfl hl.1 rfl (Nat.le_of_ble_eq_true rfl) dX5_common_104 ⟨Nat.zero_le _, Nat.zero_le _⟩ (fun r7 f6 H locs hv hS => ?_)
    refine lv_if_lt (tgt := 121) hx hb dX5_common_107 (by decide) (fun c8 => ?_) (fun c8 => ?_)
    · have hv := hv.1 c8
      refine lv_aload_n hx hb dX5_common_121 rfl (lv_at hl 0 rfl) ?_
      refine lv_bipush (v := 24) hx hb dX5_common_122 (by decide) ?_
      refine lv_bipush (v := 25) hx hb dX5_common_124 (by decide) ?_
      obtain ⟨ho9, hv⟩ := hv
      refine fw_callVv hx hb hml hown hts hK hS [.int (24 : Int32), .int (25 : Int32)] [] hv gX5_common_X5_lessen rfl rfl rfl 2 (by decide +kernel) ⟨Nat.le_of_ble_eq_true rfl, Nat.le_of_ble_eq_true rfl⟩ rfl rfl ho9 rfl hl.1 rfl (Nat.le_of_ble_eq_true rfl) dX5_common_126 ⟨Nat.zero_le _, Nat.zero_le _⟩ (fun f10 H locs hv hS => ?_)
      refine lv_goto (tgt := 54) hx hb dX5_common_129 (by decide) ?_
      exact hL54 _ _ _ _ _ _ hv (lv_sub hl [0, 1] rfl) hS
    · have hv := hv.2 c8
      refine lv_aload_n hx hb dX5_common_110 rfl (lv_at hl 0 rfl) ?_
      refine lv_bipush (v := 25) hx hb dX5_common_111 (by decide) ?_
      refine lv_bipush (v := 24) hx hb dX5_common_113 (by decide) ?_
      obtain ⟨ho11, hv⟩ := hv
      refine fw_callVv hx hb hml hown hts hK hS [.int (25 : Int32), .int (24 : Int32)] [] hv gX5_common_X5_lessen rfl rfl rfl 2 (by decide +kernel) ⟨Nat.le_of_ble_eq_true rfl, Nat.le_of_ble_eq_true rfl⟩ rfl rfl ho11 rfl hl.1 rfl (Nat.le_of_ble_eq_true rfl) dX5_common_115 ⟨Nat.zero_le _, Nat.zero_le _⟩ (fun f12 H locs hv hS => ?_)
      refine lv_goto (tgt := 54) hx hb dX5_common_118 (by decide) ?_
      exact hL54 _ _ _ _ _ _ hv (lv_sub hl [0, 1] rfl) hS
  · have hv := hv.2 c4
    refine lv_aload_n hx hb dX5_common_90 rfl (lv_at hl 0 rfl) ?_
    refine lv_bipush (v := 24) hx hb dX5_common_91 (by decide) ?_
    obtain ⟨ho13, hv⟩ := hv
    refine fw_callVv hx hb hml hown hts hK hS [.int (24 : Int32)] [] hv gX5_common_X5_halve rfl rfl rfl 1 (by decide +kernel) ⟨Nat.le_of_ble_eq_true rfl, Nat.le_of_ble_eq_true rfl⟩ rfl rfl ho13 rfl hl.1 rfl (Nat.le_of_ble_eq_true rfl) dX5_common_93 ⟨Nat.zero_le _, Nat.zero_le _⟩ (fun f14 H locs hv hS => ?_)
    refine lv_goto (tgt := 81) hx hb dX5_common_96 (by decide) ?_
    exact hL81 _ _ _ _ _ _ hv (lv_sub hl [0, 1] rfl) hS
set_option maxRecDepth 100000 in
set_option maxHeartbeats 4000000 in
theorem R_X5_common_134 {E : cx} {p : Program} {e : Env} {s : State} {m : MethodId} {below : List Frame} {meth : Method} {c : Code} {f0 : hm} {zh : Nat} (C : wB E.2.1 vwCl (eT E) yX5_common cX5_common 3 none wsX5_common [.ref zh] f0 p s m meth c) (a_0 : Nat) (x_1 : Int32) (x_2 : Int32) (f : hm) {L134 : Nat → Int32 → Int32 → hm → Prop} {K : hm → Prop} (hv : X_X5_common_134 E a_0 x_1 x_2 f L134 K) {ls : Array Slot} {H : Heap} {locs : List Loc} (hl : lv_has ls 3 [(0, .ref a_0), (1, .int x_1), (2, .int x_2)]) (hS : wS E.2.1 vwCl (wA f0 s.heap.size) s.heap f H locs) (hL134 : ∀ (y_0 : Nat) (y_1 : Int32) (y_2 : Int32) (f : hm) (ls : Array Slot) (H : Heap) (locs : List Loc), L134 y_0 y_1 y_2 f → lv_has ls 3 [(0, .ref y_0), (1, .int y_1), (2, .int y_2)] → wS E.2.1 vwCl (wA f0 s.heap.size) s.heap f H locs → W p E.1 e ({ frames := 1, cells := 0, slots := 0, locals := 28 }) s m ([.ref zh] : List Value).toArray below meth c H locs 0 0 (MQ below (wQv f0 E.2.1 vwCl K s) ([.ref zh] : List Value).toArray s 0 0 (wA f0 s.heap.size)) (F0 m 134 ls [])) : W p E.1 e ({ frames := 1, cells := 0, slots := 0, locals := 28 }) s m ([.ref zh] : List Value).toArray below meth c H locs 0 0 (MQ below (wQv f0 E.2.1 vwCl K s) ([.ref zh] : List Value).toArray s 0 0 (wA f0 s.heap.size)) (F0 m 134 ls []) := by
  obtain ⟨hx, hb, hml, hown, hts, hr, hlk, hnm, hK, -⟩ := C
  unfold X_X5_common_134 at hv
  refine lv_iload_n hx hb dX5_common_134 rfl (lv_at hl 2 rfl) ?_
  refine lv_iload_n hx hb dX5_common_135 rfl (lv_at hl 1 rfl) ?_
  refine lv_icmp_ge (tgt := 154) hx hb dX5_common_136 (by decide) (fun c1 => ?_) (fun c1 => ?_)
  · have hv := hv.1 c1
    exact fw_vret hx hb hr hlk hS hv dX5_common_154
  · have hv := hv.2 c1
    refine lv_aload_n hx hb dX5_common_139 rfl (lv_at hl 0 rfl) ?_
    refine lv_bipush (v := 24) hx hb dX5_common_140 (by decide) ?_
    refine lv_ldc2 (v := (2)) hx hb hown (hts _ mm_X5_common_0) dX5_common_142 ?_
    obtain ⟨ho2, hv⟩ := hv
    refine fw_callVv hx hb hml hown hts hK hS [.int (24 : Int32), .long (2 : Int64)] [] hv gX5_common_X5_grow rfl rfl rfl 2 (by decide +kernel) ⟨Nat.le_of_ble_eq_true rfl, Nat.le_of_ble_eq_true rfl⟩ rfl rfl ho2 rfl hl.1 rfl (Nat.le_of_ble_eq_true rfl) dX5_common_145 ⟨Nat.zero_le _, Nat.zero_le _⟩ (fun f3 H locs hv hS => ?_)
    obtain ⟨x4, ex4⟩ : ∃ y : Int32, y = x_2 + (1) := ⟨_, rfl⟩
    have hv := hv x4 ex4
    refine lv_iinc (v := x4) (lv' := [(2, .int x4), (0, .ref a_0), (1, .int x_1)]) hx hb dX5_common_148 hl (k := 2) rfl (by rw [ex4]; rfl) (by decide) rfl (fun ls hl => ?_)
    refine lv_goto (tgt := 134) hx hb dX5_common_151 (by decide) ?_
    exact hL134 _ _ _ _ _ _ _ hv (lv_sub hl [1, 2, 0] rfl) hS
set_option maxRecDepth 100000 in
set_option maxHeartbeats 4000000 in
theorem T_X5_common {E : cx} {h : Nat} {f : hm} {K : hm → Prop} (I18 : Nat → Nat → Int32 → hm → Prop) (I54 : Nat → Nat → Int32 → hm → Prop) (I63 : Nat → Nat → Int32 → hm → Prop) (I81 : Nat → Nat → Int32 → hm → Prop) (I134 : Nat → Nat → Int32 → Int32 → hm → Prop) (h0 : X_X5_common_0 E h f (fun (y_0 : Nat) (y_1 : Int32) (f : hm) => ∃ k : Nat, I18 k y_0 y_1 f) K) (h18 : ∀ (n : Nat) (a_0 : Nat) (x_1 : Int32) (f : hm), I18 n a_0 x_1 f → X_X5_common_18 E a_0 x_1 f (fun (y_0 : Nat) (y_1 : Int32) (f : hm) => ∃ k : Nat, k < n ∧ I18 k y_0 y_1 f) (fun (y_0 : Nat) (y_1 : Int32) (f : hm) => ∃ k : Nat, k < n ∧ I54 k y_0 y_1 f) K) (h54 : ∀ (n : Nat) (a_0 : Nat) (x_1 : Int32) (f : hm), I54 n a_0 x_1 f → X_X5_common_54 E a_0 x_1 f (fun (y_0 : Nat) (y_1 : Int32) (f : hm) => ∃ k : Nat, k < n ∧ I63 k y_0 y_1 f) (fun (y_0 : Nat) (y_1 : Int32) (y_2 : Int32) (f : hm) => ∃ k : Nat, k < n ∧ I134 k y_0 y_1 y_2 f) K) (h63 : ∀ (n : Nat) (a_0 : Nat) (x_1 : Int32) (f : hm), I63 n a_0 x_1 f → X_X5_common_63 E a_0 x_1 f (fun (y_0 : Nat) (y_1 : Int32) (f : hm) => ∃ k : Nat, k < n ∧ I63 k y_0 y_1 f) (fun (y_0 : Nat) (y_1 : Int32) (f : hm) => ∃ k : Nat, k < n ∧ I81 k y_0 y_1 f) K) (h81 : ∀ (n : Nat) (a_0 : Nat) (x_1 : Int32) (f : hm), I81 n a_0 x_1 f → X_X5_common_81 E a_0 x_1 f (fun (y_0 : Nat) (y_1 : Int32) (f : hm) => ∃ k : Nat, k < n ∧ I54 k y_0 y_1 f) (fun (y_0 : Nat) (y_1 : Int32) (f : hm) => ∃ k : Nat, k < n ∧ I81 k y_0 y_1 f) K) (h134 : ∀ (n : Nat) (a_0 : Nat) (x_1 : Int32) (x_2 : Int32) (f : hm), I134 n a_0 x_1 x_2 f → X_X5_common_134 E a_0 x_1 x_2 f (fun (y_0 : Nat) (y_1 : Int32) (y_2 : Int32) (f : hm) => ∃ k : Nat, k < n ∧ I134 k y_0 y_1 y_2 f) K) : S_X5_common E h f K := by
  refine MV_of (cc := cX5_common) (maxL := 3) (ret := none) (by decide) rfl ?_
  intro p e s m below meth c C
  have hl := lv_entry ([.ref h]) (n := 3) (Nat.le_of_ble_eq_true rfl)
  rw [lg_entry_eq]
  generalize (lg_sl ([.ref h]) ++ List.replicate (3 - (lg_sl ([.ref h])).length) Slot.unset).toArray = ls at hl ⊢
  have hl : lv_has ls 3 [(0, .ref h)] := hl
  have hS := C.2.2.2.2.2.2.2.2.2
  have key : ∀ n : Nat, (∀ (a_0 : Nat) (x_1 : Int32) (g : hm) (ls : Array Slot) (H : Heap) (locs : List Loc), I18 n a_0 x_1 g → lv_has ls 3 [(0, .ref a_0), (1, .int x_1)] → wS E.2.1 vwCl (wA f s.heap.size) s.heap g H locs → W p E.1 e ({ frames := 1, cells := 0, slots := 0, locals := 28 }) s m ([.ref h] : List Value).toArray below meth c H locs 0 0 (MQ below (wQv f E.2.1 vwCl K s) ([.ref h] : List Value).toArray s 0 0 (wA f s.heap.size)) (F0 m 18 ls [])) ∧ (∀ (a_0 : Nat) (x_1 : Int32) (g : hm) (ls : Array Slot) (H : Heap) (locs : List Loc), I54 n a_0 x_1 g → lv_has ls 3 [(0, .ref a_0), (1, .int x_1)] → wS E.2.1 vwCl (wA f s.heap.size) s.heap g H locs → W p E.1 e ({ frames := 1, cells := 0, slots := 0, locals := 28 }) s m ([.ref h] : List Value).toArray below meth c H locs 0 0 (MQ below (wQv f E.2.1 vwCl K s) ([.ref h] : List Value).toArray s 0 0 (wA f s.heap.size)) (F0 m 54 ls [])) ∧ (∀ (a_0 : Nat) (x_1 : Int32) (g : hm) (ls : Array Slot) (H : Heap) (locs : List Loc), I63 n a_0 x_1 g → lv_has ls 3 [(0, .ref a_0), (1, .int x_1)] → wS E.2.1 vwCl (wA f s.heap.size) s.heap g H locs → W p E.1 e ({ frames := 1, cells := 0, slots := 0, locals := 28 }) s m ([.ref h] : List Value).toArray below meth c H locs 0 0 (MQ below (wQv f E.2.1 vwCl K s) ([.ref h] : List Value).toArray s 0 0 (wA f s.heap.size)) (F0 m 63 ls [])) ∧ (∀ (a_0 : Nat) (x_1 : Int32) (g : hm) (ls : Array Slot) (H : Heap) (locs : List Loc), I81 n a_0 x_1 g → lv_has ls 3 [(0, .ref a_0), (1, .int x_1)] → wS E.2.1 vwCl (wA f s.heap.size) s.heap g H locs → W p E.1 e ({ frames := 1, cells := 0, slots := 0, locals := 28 }) s m ([.ref h] : List Value).toArray below meth c H locs 0 0 (MQ below (wQv f E.2.1 vwCl K s) ([.ref h] : List Value).toArray s 0 0 (wA f s.heap.size)) (F0 m 81 ls [])) ∧ (∀ (a_0 : Nat) (x_1 : Int32) (x_2 : Int32) (g : hm) (ls : Array Slot) (H : Heap) (locs : List Loc), I134 n a_0 x_1 x_2 g → lv_has ls 3 [(0, .ref a_0), (1, .int x_1), (2, .int x_2)] → wS E.2.1 vwCl (wA f s.heap.size) s.heap g H locs → W p E.1 e ({ frames := 1, cells := 0, slots := 0, locals := 28 }) s m ([.ref h] : List Value).toArray below meth c H locs 0 0 (MQ below (wQv f E.2.1 vwCl K s) ([.ref h] : List Value).toArray s 0 0 (wA f s.heap.size)) (F0 m 134 ls [])) := by
    refine st_ind (fun n ih => ?_)
    refine ⟨?_, ?_, ?_, ?_, ?_⟩
    · intro a_0 x_1 g ls H locs hI hl hS
      exact R_X5_common_18 C a_0 x_1 g (h18 n a_0 x_1 g hI) hl hS (fun _ _ _ _ _ _ hI hl hS => by obtain ⟨k, hk, hI⟩ := hI; exact (ih k hk).1 _ _ _ _ _ _ hI hl hS) (fun _ _ _ _ _ _ hI hl hS => by obtain ⟨k, hk, hI⟩ := hI; exact (ih k hk).2.1 _ _ _ _ _ _ hI hl hS)
    · intro a_0 x_1 g ls H locs hI hl hS
      exact R_X5_common_54 C a_0 x_1 g (h54 n a_0 x_1 g hI) hl hS (fun _ _ _ _ _ _ hI hl hS => by obtain ⟨k, hk, hI⟩ := hI; exact (ih k hk).2.2.1 _ _ _ _ _ _ hI hl hS) (fun _ _ _ _ _ _ _ hI hl hS => by obtain ⟨k, hk, hI⟩ := hI; exact (ih k hk).2.2.2.2 _ _ _ _ _ _ _ hI hl hS)
    · intro a_0 x_1 g ls H locs hI hl hS
      exact R_X5_common_63 C a_0 x_1 g (h63 n a_0 x_1 g hI) hl hS (fun _ _ _ _ _ _ hI hl hS => by obtain ⟨k, hk, hI⟩ := hI; exact (ih k hk).2.2.1 _ _ _ _ _ _ hI hl hS) (fun _ _ _ _ _ _ hI hl hS => by obtain ⟨k, hk, hI⟩ := hI; exact (ih k hk).2.2.2.1 _ _ _ _ _ _ hI hl hS)
    · intro a_0 x_1 g ls H locs hI hl hS
      exact R_X5_common_81 C a_0 x_1 g (h81 n a_0 x_1 g hI) hl hS (fun _ _ _ _ _ _ hI hl hS => by obtain ⟨k, hk, hI⟩ := hI; exact (ih k hk).2.1 _ _ _ _ _ _ hI hl hS) (fun _ _ _ _ _ _ hI hl hS => by obtain ⟨k, hk, hI⟩ := hI; exact (ih k hk).2.2.2.1 _ _ _ _ _ _ hI hl hS)
    · intro a_0 x_1 x_2 g ls H locs hI hl hS
      exact R_X5_common_134 C a_0 x_1 x_2 g (h134 n a_0 x_1 x_2 g hI) hl hS (fun _ _ _ _ _ _ _ hI hl hS => by obtain ⟨k, hk, hI⟩ := hI; exact (ih k hk).2.2.2.2 _ _ _ _ _ _ _ hI hl hS)
  exact R_X5_common_0 C h f h0 hl hS (fun _ _ _ _ _ _ hI hl hS => by obtain ⟨k, hI⟩ := hI; exact (key k).1 _ _ _ _ _ _ hI hl hS)
/-! ContinuedRatiosModel.reduce()V -/
def S_X5_reduce (E : cx) (h : Nat) (f : hm) (K : hm → Prop) : Prop := MV E.1 E.2.1 vwCl (eT E) yX5_reduce wsX5_reduce ({ frames := 2, cells := 0, slots := 0, locals := 51 }) [.ref h] f K
theorem mm_X5_reduce_0 : Cond.fieldLink RX5 61 "ContinuedRatiosModel" "sign" "I" ∈ wsX5_reduce := by decide +kernel
theorem ii_X5_reduce_X5 : ∀ w ∈ u_ws RX5 TX5 7, w ∈ wsX5_reduce := by decide +kernel
def X_X5_reduce_0 (E : cx) (h : Nat) (f : hm)  (K : hm → Prop) : Prop :=
  (isO f h 5 ∧ S_X5_isZero E h (16 : Int32) f (fun (r3 : Int32) (f2 : hm) => ((r3 = 0 → (isO f2 h 5 ∧ S_X5_common E h f2 (fun (f6 : hm) => (isO f6 h 5 ∧ S_X5_copy E h (24 : Int32) (26 : Int32) f6 (fun (f8 : hm) => (isO f8 h 5 ∧ S_X5_divide E h (16 : Int32) (26 : Int32) f8 (fun (f10 : hm) => (isO f10 h 5 ∧ S_X5_copy E h (20 : Int32) (16 : Int32) f10 (fun (f12 : hm) => (isO f12 h 5 ∧ S_X5_divide E h (17 : Int32) (26 : Int32) f12 (fun (f14 : hm) => (isO f14 h 5 ∧ S_X5_copy E h (20 : Int32) (17 : Int32) f14 (fun (f16 : hm) => K f16))))))))))))) ∧ (¬ (r3 = 0) → (isO f2 h 5 ∧ S_X5_put E h (17 : Int32) (1 : Int64) f2 (fun (f18 : hm) => (∃ f19 : hm, wrV f18 h 5 4 (.int (0 : Int32)) = some f19 ∧ K f19)))))))
set_option maxRecDepth 100000 in
set_option maxHeartbeats 4000000 in
theorem R_X5_reduce_0 {E : cx} {p : Program} {e : Env} {s : State} {m : MethodId} {below : List Frame} {meth : Method} {c : Code} {f0 : hm} {zh : Nat} (C : wB E.2.1 vwCl (eT E) yX5_reduce cX5_reduce 1 none wsX5_reduce [.ref zh] f0 p s m meth c) (h : Nat) (f : hm)  {K : hm → Prop} (hv : X_X5_reduce_0 E h f  K) {ls : Array Slot} {H : Heap} {locs : List Loc} (hl : lv_has ls 1 [(0, .ref h)]) (hS : wS E.2.1 vwCl (wA f0 s.heap.size) s.heap f H locs)  : W p E.1 e ({ frames := 2, cells := 0, slots := 0, locals := 51 }) s m ([.ref zh] : List Value).toArray below meth c H locs 0 0 (MQ below (wQv f0 E.2.1 vwCl K s) ([.ref zh] : List Value).toArray s 0 0 (wA f0 s.heap.size)) (F0 m 0 ls []) := by
  obtain ⟨hx, hb, hml, hown, hts, hr, hlk, hnm, hK, -⟩ := C
  unfold X_X5_reduce_0 at hv
  refine lv_aload_n hx hb dX5_reduce_0 rfl (lv_at hl 0 rfl) ?_
  refine lv_bipush (v := 16) hx hb dX5_reduce_1 (by decide) ?_
  obtain ⟨ho1, hv⟩ := hv
  refine fw_callVi hx hb hml hown hts hK hS [.int (16 : Int32)] [] hv gX5_reduce_X5_isZero rfl rfl rfl 1 (by decide +kernel) ⟨Nat.le_of_ble_eq_true rfl, Nat.le_of_ble_eq_true rfl⟩ rfl rfl ho1 rfl hl.1 rfl (Nat.le_of_ble_eq_true rfl) dX5_reduce_3 ⟨Nat.zero_le _, Nat.zero_le _⟩ (fun r3 f2 H locs hv hS => ?_)
  refine lv_if_eq (tgt := 22) hx hb dX5_reduce_6 (by decide) (fun c4 => ?_) (fun c4 => ?_)
  · have hv := hv.1 c4
    refine lv_aload_n hx hb dX5_reduce_22 rfl (lv_at hl 0 rfl) ?_
    obtain ⟨ho5, hv⟩ := hv
    refine fw_callVv hx hb hml hown hts hK hS [] [] hv gX5_reduce_X5_common rfl rfl rfl 0 (by decide +kernel) ⟨Nat.le_of_ble_eq_true rfl, Nat.le_of_ble_eq_true rfl⟩ rfl rfl ho5 rfl hl.1 rfl (Nat.le_of_ble_eq_true rfl) dX5_reduce_23 ⟨Nat.zero_le _, Nat.zero_le _⟩ (fun f6 H locs hv hS => ?_)
    refine lv_aload_n hx hb dX5_reduce_26 rfl (lv_at hl 0 rfl) ?_
    refine lv_bipush (v := 24) hx hb dX5_reduce_27 (by decide) ?_
    refine lv_bipush (v := 26) hx hb dX5_reduce_29 (by decide) ?_
    obtain ⟨ho7, hv⟩ := hv
    refine fw_callVv hx hb hml hown hts hK hS [.int (24 : Int32), .int (26 : Int32)] [] hv gX5_reduce_X5_copy rfl rfl rfl 2 (by decide +kernel) ⟨Nat.le_of_ble_eq_true rfl, Nat.le_of_ble_eq_true rfl⟩ rfl rfl ho7 rfl hl.1 rfl (Nat.le_of_ble_eq_true rfl) dX5_reduce_31 ⟨Nat.zero_le _, Nat.zero_le _⟩ (fun f8 H locs hv hS => ?_)
    refine lv_aload_n hx hb dX5_reduce_34 rfl (lv_at hl 0 rfl) ?_
    refine lv_bipush (v := 16) hx hb dX5_reduce_35 (by decide) ?_
    refine lv_bipush (v := 26) hx hb dX5_reduce_37 (by decide) ?_
    obtain ⟨ho9, hv⟩ := hv
    refine fw_callVv hx hb hml hown hts hK hS [.int (16 : Int32), .int (26 : Int32)] [] hv gX5_reduce_X5_divide rfl rfl rfl 2 (by decide +kernel) ⟨Nat.le_of_ble_eq_true rfl, Nat.le_of_ble_eq_true rfl⟩ rfl rfl ho9 rfl hl.1 rfl (Nat.le_of_ble_eq_true rfl) dX5_reduce_39 ⟨Nat.zero_le _, Nat.zero_le _⟩ (fun f10 H locs hv hS => ?_)
    refine lv_aload_n hx hb dX5_reduce_42 rfl (lv_at hl 0 rfl) ?_
    refine lv_bipush (v := 20) hx hb dX5_reduce_43 (by decide) ?_
    refine lv_bipush (v := 16) hx hb dX5_reduce_45 (by decide) ?_
    obtain ⟨ho11, hv⟩ := hv
    refine fw_callVv hx hb hml hown hts hK hS [.int (20 : Int32), .int (16 : Int32)] [] hv gX5_reduce_X5_copy rfl rfl rfl 2 (by decide +kernel) ⟨Nat.le_of_ble_eq_true rfl, Nat.le_of_ble_eq_true rfl⟩ rfl rfl ho11 rfl hl.1 rfl (Nat.le_of_ble_eq_true rfl) dX5_reduce_47 ⟨Nat.zero_le _, Nat.zero_le _⟩ (fun f12 H locs hv hS => ?_)
    refine lv_aload_n hx hb dX5_reduce_50 rfl (lv_at hl 0 rfl) ?_
    refine lv_bipush (v := 17) hx hb dX5_reduce_51 (by decide) ?_
    refine lv_bipush (v := 26) hx hb dX5_reduce_53 (by decide) ?_
    obtain ⟨ho13, hv⟩ := hv
    refine fw_callVv hx hb hml hown hts hK hS [.int (17 : Int32), .int (26 : Int32)] [] hv gX5_reduce_X5_divide rfl rfl rfl 2 (by decide +kernel) ⟨Nat.le_of_ble_eq_true rfl, Nat.le_of_ble_eq_true rfl⟩ rfl rfl ho13 rfl hl.1 rfl (Nat.le_of_ble_eq_true rfl) dX5_reduce_55 ⟨Nat.zero_le _, Nat.zero_le _⟩ (fun f14 H locs hv hS => ?_)
    refine lv_aload_n hx hb dX5_reduce_58 rfl (lv_at hl 0 rfl) ?_
    refine lv_bipush (v := 20) hx hb dX5_reduce_59 (by decide) ?_
    refine lv_bipush (v := 17) hx hb dX5_reduce_61 (by decide) ?_
    obtain ⟨ho15, hv⟩ := hv
    refine fw_callVv hx hb hml hown hts hK hS [.int (20 : Int32), .int (17 : Int32)] [] hv gX5_reduce_X5_copy rfl rfl rfl 2 (by decide +kernel) ⟨Nat.le_of_ble_eq_true rfl, Nat.le_of_ble_eq_true rfl⟩ rfl rfl ho15 rfl hl.1 rfl (Nat.le_of_ble_eq_true rfl) dX5_reduce_63 ⟨Nat.zero_le _, Nat.zero_le _⟩ (fun f16 H locs hv hS => ?_)
    exact fw_vret hx hb hr hlk hS hv dX5_reduce_66
  · have hv := hv.2 c4
    refine lv_aload_n hx hb dX5_reduce_9 rfl (lv_at hl 0 rfl) ?_
    refine lv_bipush (v := 17) hx hb dX5_reduce_10 (by decide) ?_
    refine lv_lconst (v := 1) hx hb dX5_reduce_12 (by decide) ?_
    obtain ⟨ho17, hv⟩ := hv
    refine fw_callVv hx hb hml hown hts hK hS [.int (17 : Int32), .long (1 : Int64)] [] hv gX5_reduce_X5_put rfl rfl rfl 2 (by decide +kernel) ⟨Nat.le_of_ble_eq_true rfl, Nat.le_of_ble_eq_true rfl⟩ rfl rfl ho17 rfl hl.1 rfl (Nat.le_of_ble_eq_true rfl) dX5_reduce_13 ⟨Nat.zero_le _, Nat.zero_le _⟩ (fun f18 H locs hv hS => ?_)
    refine lv_aload_n hx hb dX5_reduce_16 rfl (lv_at hl 0 rfl) ?_
    refine lv_iconst (v := 0) hx hb dX5_reduce_17 (by decide) ?_
    obtain ⟨f19, ef19, hv⟩ := hv
    refine fw_put hx hb hts ii_X5_reduce_X5 tyX5 tyX5_ok nmX5 hown hK hS 4 ef19 rfl (by decide) mm_X5_reduce_0 rfl rfl rfl rfl dX5_reduce_18 (fun H locs hS => ?_)
    exact fw_vret hx hb hr hlk hS hv dX5_reduce_21
set_option maxRecDepth 100000 in
set_option maxHeartbeats 4000000 in
theorem T_X5_reduce {E : cx} {h : Nat} {f : hm} {K : hm → Prop}  (h0 : X_X5_reduce_0 E h f  K) : S_X5_reduce E h f K := by
  refine MV_of (cc := cX5_reduce) (maxL := 1) (ret := none) (by decide) rfl ?_
  intro p e s m below meth c C
  have hl := lv_entry ([.ref h]) (n := 1) (Nat.le_of_ble_eq_true rfl)
  rw [lg_entry_eq]
  generalize (lg_sl ([.ref h]) ++ List.replicate (1 - (lg_sl ([.ref h])).length) Slot.unset).toArray = ls at hl ⊢
  have hl : lv_has ls 1 [(0, .ref h)] := hl
  have hS := C.2.2.2.2.2.2.2.2.2
  exact R_X5_reduce_0 C h f h0 hl hS
/-! ContinuedRatiosModel.store(I)I -/
def S_X5_store (E : cx) (h : Nat) (p1 : Int32) (f : hm) (K : Int32 → hm → Prop) : Prop := MI E.1 E.2.1 vwCl (eT E) yX5_store wsX5_store ({ frames := 3, cells := 0, slots := 0, locals := 71 }) [.ref h, .int p1] f K
theorem mm_X5_store_0 : Cond.fieldLink RX5 20 "ContinuedRatiosModel" "width" "I" ∈ wsX5_store := by decide +kernel
theorem mm_X5_store_1 : Cond.fieldLink RX5 13 "ContinuedRatiosModel" "signs" "[I" ∈ wsX5_store := by decide +kernel
theorem mm_X5_store_2 : Cond.fieldLink RX5 61 "ContinuedRatiosModel" "sign" "I" ∈ wsX5_store := by decide +kernel
theorem ii_X5_store_X5 : ∀ w ∈ u_ws RX5 TX5 7, w ∈ wsX5_store := by decide +kernel
def X_X5_store_0 (E : cx) (h : Nat) (p1 : Int32) (f : hm)  (K : Int32 → hm → Prop) : Prop :=
  (isO f h 5 ∧ S_X5_reduce E h f (fun (f2 : hm) => (isO f2 h 5 ∧ S_X5_bitsOf E h (16 : Int32) f2 (fun (r5 : Int32) (f4 : hm) => (∃ v6 : Int32, rdV f4 h 5 1 = some (.int v6) ∧ ((((32 : Int32) * v6) < r5 → K (1 : Int32) f4) ∧ (¬ (((32 : Int32) * v6) < r5) → (isO f4 h 5 ∧ S_X5_bitsOf E h (17 : Int32) f4 (fun (r10 : Int32) (f9 : hm) => (∃ v11 : Int32, rdV f9 h 5 1 = some (.int v11) ∧ ((r10 ≤ ((32 : Int32) * v11) → (isO f9 h 5 ∧ S_X5_copy E h (16 : Int32) p1 f9 (fun (f14 : hm) => (isO f14 h 5 ∧ S_X5_copy E h (17 : Int32) ((8 : Int32) + p1) f14 (fun (f16 : hm) => (∃ v17 : Nat, rdV f16 h 5 3 = some (.ref v17) ∧ (∃ v18 : Int32, rdV f16 h 5 4 = some (.int v18) ∧ (∃ f19 : hm, wrA (eI E) f16 v17 p1 v18 = some f19 ∧ K (0 : Int32) f19)))))))) ∧ (¬ (r10 ≤ ((32 : Int32) * v11)) → K (1 : Int32) f9))))))))))))
set_option maxRecDepth 100000 in
set_option maxHeartbeats 4000000 in
theorem R_X5_store_0 {E : cx} {p : Program} {e : Env} {s : State} {m : MethodId} {below : List Frame} {meth : Method} {c : Code} {f0 : hm} {zh : Nat} {zp1 : Int32} (C : wB E.2.1 vwCl (eT E) yX5_store cX5_store 2 (some .int) wsX5_store [.ref zh, .int zp1] f0 p s m meth c) (h : Nat) (p1 : Int32) (f : hm)  {K : Int32 → hm → Prop} (hv : X_X5_store_0 E h p1 f  K) {ls : Array Slot} {H : Heap} {locs : List Loc} (hl : lv_has ls 2 [(0, .ref h), (1, .int p1)]) (hS : wS E.2.1 vwCl (wA f0 s.heap.size) s.heap f H locs)  : W p E.1 e ({ frames := 3, cells := 0, slots := 0, locals := 71 }) s m ([.ref zh, .int zp1] : List Value).toArray below meth c H locs 0 0 (MQ below (wQi f0 E.2.1 vwCl K s) ([.ref zh, .int zp1] : List Value).toArray s 0 0 (wA f0 s.heap.size)) (F0 m 0 ls []) := by
  obtain ⟨hx, hb, hml, hown, hts, hr, hlk, hnm, hK, -⟩ := C
  unfold X_X5_store_0 at hv
  refine lv_aload_n hx hb dX5_store_0 rfl (lv_at hl 0 rfl) ?_
  obtain ⟨ho1, hv⟩ := hv
  refine fw_callVv hx hb hml hown hts hK hS [] [] hv gX5_store_X5_reduce rfl rfl rfl 0 (by decide +kernel) ⟨Nat.le_of_ble_eq_true rfl, Nat.le_of_ble_eq_true rfl⟩ rfl rfl ho1 rfl hl.1 rfl (Nat.le_of_ble_eq_true rfl) dX5_store_1 ⟨Nat.zero_le _, Nat.zero_le _⟩ (fun f2 H locs hv hS => ?_)
  refine lv_aload_n hx hb dX5_store_4 rfl (lv_at hl 0 rfl) ?_
  refine lv_bipush (v := 16) hx hb dX5_store_5 (by decide) ?_
  obtain ⟨ho3, hv⟩ := hv
  refine fw_callVi hx hb hml hown hts hK hS [.int (16 : Int32)] [] hv gX5_store_X5_bitsOf rfl rfl rfl 1 (by decide +kernel) ⟨Nat.le_of_ble_eq_true rfl, Nat.le_of_ble_eq_true rfl⟩ rfl rfl ho3 rfl hl.1 rfl (Nat.le_of_ble_eq_true rfl) dX5_store_7 ⟨Nat.zero_le _, Nat.zero_le _⟩ (fun r5 f4 H locs hv hS => ?_)
  refine lv_bipush (v := 32) hx hb dX5_store_10 (by decide) ?_
  refine lv_aload_n hx hb dX5_store_12 rfl (lv_at hl 0 rfl) ?_
  obtain ⟨v6, ev6, hv⟩ := hv
  refine fw_get hx hb hts ii_X5_store_X5 hown hK hS 1 ev6 rfl (by decide) mm_X5_store_0 rfl dX5_store_13 ?_
  refine lv_imul hx hb dX5_store_16 ?_
  refine lv_icmp_gt (tgt := 36) hx hb dX5_store_17 (by decide) (fun c7 => ?_) (fun c7 => ?_)
  · have hv := hv.1 c7
    refine lv_iconst (v := 1) hx hb dX5_store_36 (by decide) ?_
    exact fw_iret hx hb hr hlk hS hv dX5_store_37
  · have hv := hv.2 c7
    refine lv_aload_n hx hb dX5_store_20 rfl (lv_at hl 0 rfl) ?_
    refine lv_bipush (v := 17) hx hb dX5_store_21 (by decide) ?_
    obtain ⟨ho8, hv⟩ := hv
    refine fw_callVi hx hb hml hown hts hK hS [.int (17 : Int32)] [] hv gX5_store_X5_bitsOf rfl rfl rfl 1 (by decide +kernel) ⟨Nat.le_of_ble_eq_true rfl, Nat.le_of_ble_eq_true rfl⟩ rfl rfl ho8 rfl hl.1 rfl (Nat.le_of_ble_eq_true rfl) dX5_store_23 ⟨Nat.zero_le _, Nat.zero_le _⟩ (fun r10 f9 H locs hv hS => ?_)
    refine lv_bipush (v := 32) hx hb dX5_store_26 (by decide) ?_
    refine lv_aload_n hx hb dX5_store_28 rfl (lv_at hl 0 rfl) ?_
    obtain ⟨v11, ev11, hv⟩ := hv
    refine fw_get hx hb hts ii_X5_store_X5 hown hK hS 1 ev11 rfl (by decide) mm_X5_store_0 rfl dX5_store_29 ?_
    refine lv_imul hx hb dX5_store_32 ?_
    refine lv_icmp_le (tgt := 38) hx hb dX5_store_33 (by decide) (fun c12 => ?_) (fun c12 => ?_)
    · have hv := hv.1 c12
      refine lv_aload_n hx hb dX5_store_38 rfl (lv_at hl 0 rfl) ?_
      refine lv_bipush (v := 16) hx hb dX5_store_39 (by decide) ?_
      refine lv_iload_n hx hb dX5_store_41 rfl (lv_at hl 1 rfl) ?_
      obtain ⟨ho13, hv⟩ := hv
      refine fw_callVv hx hb hml hown hts hK hS [.int (16 : Int32), .int p1] [] hv gX5_store_X5_copy rfl rfl rfl 2 (by decide +kernel) ⟨Nat.le_of_ble_eq_true rfl, Nat.le_of_ble_eq_true rfl⟩ rfl rfl ho13 rfl hl.1 rfl (Nat.le_of_ble_eq_true rfl) dX5_store_42 ⟨Nat.zero_le _, Nat.zero_le _⟩ (fun f14 H locs hv hS => ?_)
      refine lv_aload_n hx hb dX5_store_45 rfl (lv_at hl 0 rfl) ?_
      refine lv_bipush (v := 17) hx hb dX5_store_46 (by decide) ?_
      refine lv_bipush (v := 8) hx hb dX5_store_48 (by decide) ?_
      refine lv_iload_n hx hb dX5_store_50 rfl (lv_at hl 1 rfl) ?_
      refine lv_iadd hx hb dX5_store_51 ?_
      obtain ⟨ho15, hv⟩ := hv
      refine fw_callVv hx hb hml hown hts hK hS [.int (17 : Int32), .int ((8 : Int32) + p1)] [] hv gX5_store_X5_copy rfl rfl rfl 2 (by decide +kernel) ⟨Nat.le_of_ble_eq_true rfl, Nat.le_of_ble_eq_true rfl⟩ rfl rfl ho15 rfl hl.1 rfl (Nat.le_of_ble_eq_true rfl) dX5_store_52 ⟨Nat.zero_le _, Nat.zero_le _⟩ (fun f16 H locs hv hS => ?_)
      refine lv_aload_n hx hb dX5_store_55 rfl (lv_at hl 0 rfl) ?_
      obtain ⟨v17, ev17, hv⟩ := hv
      refine fw_get hx hb hts ii_X5_store_X5 hown hK hS 3 ev17 rfl (by decide) mm_X5_store_1 rfl dX5_store_56 ?_
      refine lv_iload_n hx hb dX5_store_59 rfl (lv_at hl 1 rfl) ?_
      refine lv_aload_n hx hb dX5_store_60 rfl (lv_at hl 0 rfl) ?_
      obtain ⟨v18, ev18, hv⟩ := hv
      refine fw_get hx hb hts ii_X5_store_X5 hown hK hS 4 ev18 rfl (by decide) mm_X5_store_2 rfl dX5_store_61 ?_
      obtain ⟨f19, ef19, hv⟩ := hv
      refine fw_ast hx hb hK hS 0 rfl ef19 dX5_store_64 (fun H locs hS => ?_)
      refine lv_iconst (v := 0) hx hb dX5_store_65 (by decide) ?_
      exact fw_iret hx hb hr hlk hS hv dX5_store_66
    · have hv := hv.2 c12
      refine lv_iconst (v := 1) hx hb dX5_store_36 (by decide) ?_
      exact fw_iret hx hb hr hlk hS hv dX5_store_37
set_option maxRecDepth 100000 in
set_option maxHeartbeats 4000000 in
theorem T_X5_store {E : cx} {h : Nat} {p1 : Int32} {f : hm} {K : Int32 → hm → Prop}  (h0 : X_X5_store_0 E h p1 f  K) : S_X5_store E h p1 f K := by
  refine MI_of (cc := cX5_store) (maxL := 2) (ret := (some .int)) (by decide) rfl ?_
  intro p e s m below meth c C
  have hl := lv_entry ([.ref h, .int p1]) (n := 2) (Nat.le_of_ble_eq_true rfl)
  rw [lg_entry_eq]
  generalize (lg_sl ([.ref h, .int p1]) ++ List.replicate (2 - (lg_sl ([.ref h, .int p1])).length) Slot.unset).toArray = ls at hl ⊢
  have hl : lv_has ls 2 [(0, .ref h), (1, .int p1)] := hl
  have hS := C.2.2.2.2.2.2.2.2.2
  exact R_X5_store_0 C h p1 f h0 hl hS
/-! ContinuedRatiosModel.areRegisters(III)Z -/
def S_X5_areRegisters (E : cx) (h : Nat) (p1 : Int32) (p2 : Int32) (p3 : Int32) (f : hm) (K : Int32 → hm → Prop) : Prop := MI E.1 E.2.1 vwCl (eT E) yX5_areRegisters wsX5_areRegisters ({ frames := 1, cells := 0, slots := 0, locals := 21 }) [.ref h, .int p1, .int p2, .int p3] f K
def X_X5_areRegisters_0 (E : cx) (h : Nat) (p1 : Int32) (p2 : Int32) (p3 : Int32) (f : hm)  (K : Int32 → hm → Prop) : Prop :=
  (isO f h 5 ∧ S_X5_isRegister E h p1 f (fun (r3 : Int32) (f2 : hm) => ((r3 = 0 → (narrow .boolean (.int (0 : Int32)) = .int (0 : Int32) ∧ K (0 : Int32) f2)) ∧ (¬ (r3 = 0) → (isO f2 h 5 ∧ S_X5_isRegister E h p2 f2 (fun (r7 : Int32) (f6 : hm) => ((r7 = 0 → (narrow .boolean (.int (0 : Int32)) = .int (0 : Int32) ∧ K (0 : Int32) f6)) ∧ (¬ (r7 = 0) → (isO f6 h 5 ∧ S_X5_isRegister E h p3 f6 (fun (r11 : Int32) (f10 : hm) => ((r11 = 0 → (narrow .boolean (.int (0 : Int32)) = .int (0 : Int32) ∧ K (0 : Int32) f10)) ∧ (¬ (r11 = 0) → (narrow .boolean (.int (1 : Int32)) = .int (1 : Int32) ∧ K (1 : Int32) f10)))))))))))))
set_option maxRecDepth 100000 in
set_option maxHeartbeats 4000000 in
theorem R_X5_areRegisters_0 {E : cx} {p : Program} {e : Env} {s : State} {m : MethodId} {below : List Frame} {meth : Method} {c : Code} {f0 : hm} {zh : Nat} {zp1 : Int32} {zp2 : Int32} {zp3 : Int32} (C : wB E.2.1 vwCl (eT E) yX5_areRegisters cX5_areRegisters 4 (some .boolean) wsX5_areRegisters [.ref zh, .int zp1, .int zp2, .int zp3] f0 p s m meth c) (h : Nat) (p1 : Int32) (p2 : Int32) (p3 : Int32) (f : hm)  {K : Int32 → hm → Prop} (hv : X_X5_areRegisters_0 E h p1 p2 p3 f  K) {ls : Array Slot} {H : Heap} {locs : List Loc} (hl : lv_has ls 4 [(0, .ref h), (1, .int p1), (2, .int p2), (3, .int p3)]) (hS : wS E.2.1 vwCl (wA f0 s.heap.size) s.heap f H locs)  : W p E.1 e ({ frames := 1, cells := 0, slots := 0, locals := 21 }) s m ([.ref zh, .int zp1, .int zp2, .int zp3] : List Value).toArray below meth c H locs 0 0 (MQ below (wQi f0 E.2.1 vwCl K s) ([.ref zh, .int zp1, .int zp2, .int zp3] : List Value).toArray s 0 0 (wA f0 s.heap.size)) (F0 m 0 ls []) := by
  obtain ⟨hx, hb, hml, hown, hts, hr, hlk, hnm, hK, -⟩ := C
  unfold X_X5_areRegisters_0 at hv
  refine lv_aload_n hx hb dX5_areRegisters_0 rfl (lv_at hl 0 rfl) ?_
  refine lv_iload_n hx hb dX5_areRegisters_1 rfl (lv_at hl 1 rfl) ?_
  obtain ⟨ho1, hv⟩ := hv
  refine fw_callVi hx hb hml hown hts hK hS [.int p1] [] hv gX5_areRegisters_X5_isRegister rfl rfl rfl 1 (by decide +kernel) ⟨Nat.le_of_ble_eq_true rfl, Nat.le_of_ble_eq_true rfl⟩ rfl rfl ho1 rfl hl.1 rfl (Nat.le_of_ble_eq_true rfl) dX5_areRegisters_2 ⟨Nat.zero_le _, Nat.zero_le _⟩ (fun r3 f2 H locs hv hS => ?_)
  refine lv_if_eq (tgt := 28) hx hb dX5_areRegisters_5 (by decide) (fun c4 => ?_) (fun c4 => ?_)
  · have hv := hv.1 c4
    refine lv_iconst (v := 0) hx hb dX5_areRegisters_28 (by decide) ?_
    exact fw_zret hx hb hr hlk hS hv dX5_areRegisters_29
  · have hv := hv.2 c4
    refine lv_aload_n hx hb dX5_areRegisters_8 rfl (lv_at hl 0 rfl) ?_
    refine lv_iload_n hx hb dX5_areRegisters_9 rfl (lv_at hl 2 rfl) ?_
    obtain ⟨ho5, hv⟩ := hv
    refine fw_callVi hx hb hml hown hts hK hS [.int p2] [] hv gX5_areRegisters_X5_isRegister rfl rfl rfl 1 (by decide +kernel) ⟨Nat.le_of_ble_eq_true rfl, Nat.le_of_ble_eq_true rfl⟩ rfl rfl ho5 rfl hl.1 rfl (Nat.le_of_ble_eq_true rfl) dX5_areRegisters_10 ⟨Nat.zero_le _, Nat.zero_le _⟩ (fun r7 f6 H locs hv hS => ?_)
    refine lv_if_eq (tgt := 28) hx hb dX5_areRegisters_13 (by decide) (fun c8 => ?_) (fun c8 => ?_)
    · have hv := hv.1 c8
      refine lv_iconst (v := 0) hx hb dX5_areRegisters_28 (by decide) ?_
      exact fw_zret hx hb hr hlk hS hv dX5_areRegisters_29
    · have hv := hv.2 c8
      refine lv_aload_n hx hb dX5_areRegisters_16 rfl (lv_at hl 0 rfl) ?_
      refine lv_iload_n hx hb dX5_areRegisters_17 rfl (lv_at hl 3 rfl) ?_
      obtain ⟨ho9, hv⟩ := hv
      refine fw_callVi hx hb hml hown hts hK hS [.int p3] [] hv gX5_areRegisters_X5_isRegister rfl rfl rfl 1 (by decide +kernel) ⟨Nat.le_of_ble_eq_true rfl, Nat.le_of_ble_eq_true rfl⟩ rfl rfl ho9 rfl hl.1 rfl (Nat.le_of_ble_eq_true rfl) dX5_areRegisters_18 ⟨Nat.zero_le _, Nat.zero_le _⟩ (fun r11 f10 H locs hv hS => ?_)
      refine lv_if_eq (tgt := 28) hx hb dX5_areRegisters_21 (by decide) (fun c12 => ?_) (fun c12 => ?_)
      · have hv := hv.1 c12
        refine lv_iconst (v := 0) hx hb dX5_areRegisters_28 (by decide) ?_
        exact fw_zret hx hb hr hlk hS hv dX5_areRegisters_29
      · have hv := hv.2 c12
        refine lv_iconst (v := 1) hx hb dX5_areRegisters_24 (by decide) ?_
        refine lv_goto (tgt := 29) hx hb dX5_areRegisters_25 (by decide) ?_
        exact fw_zret hx hb hr hlk hS hv dX5_areRegisters_29
set_option maxRecDepth 100000 in
set_option maxHeartbeats 4000000 in
theorem T_X5_areRegisters {E : cx} {h : Nat} {p1 : Int32} {p2 : Int32} {p3 : Int32} {f : hm} {K : Int32 → hm → Prop}  (h0 : X_X5_areRegisters_0 E h p1 p2 p3 f  K) : S_X5_areRegisters E h p1 p2 p3 f K := by
  refine MI_of (cc := cX5_areRegisters) (maxL := 4) (ret := (some .boolean)) (by decide) rfl ?_
  intro p e s m below meth c C
  have hl := lv_entry ([.ref h, .int p1, .int p2, .int p3]) (n := 4) (Nat.le_of_ble_eq_true rfl)
  rw [lg_entry_eq]
  generalize (lg_sl ([.ref h, .int p1, .int p2, .int p3]) ++ List.replicate (4 - (lg_sl ([.ref h, .int p1, .int p2, .int p3])).length) Slot.unset).toArray = ls at hl ⊢
  have hl : lv_has ls 4 [(0, .ref h), (1, .int p1), (2, .int p2), (3, .int p3)] := hl
  have hS := C.2.2.2.2.2.2.2.2.2
  exact R_X5_areRegisters_0 C h p1 p2 p3 f h0 hl hS
/-! ContinuedRatiosModel.sum(IIII)I -/
def S_X5_sum (E : cx) (h : Nat) (p1 : Int32) (p2 : Int32) (p3 : Int32) (p4 : Int32) (f : hm) (K : Int32 → hm → Prop) : Prop := MI E.1 E.2.1 vwCl (eT E) yX5_sum wsX5_sum ({ frames := 4, cells := 0, slots := 0, locals := 92 }) [.ref h, .int p1, .int p2, .int p3, .int p4] f K
theorem mm_X5_sum_0 : Cond.fieldLink RX5 13 "ContinuedRatiosModel" "signs" "[I" ∈ wsX5_sum := by decide +kernel
theorem mm_X5_sum_1 : Cond.fieldLink RX5 61 "ContinuedRatiosModel" "sign" "I" ∈ wsX5_sum := by decide +kernel
theorem ii_X5_sum_X5 : ∀ w ∈ u_ws RX5 TX5 7, w ∈ wsX5_sum := by decide +kernel
def X_X5_sum_0 (E : cx) (h : Nat) (p1 : Int32) (p2 : Int32) (p3 : Int32) (p4 : Int32) (f : hm)  (K : Int32 → hm → Prop) : Prop :=
  (isO f h 5 ∧ S_X5_multiply E h p2 ((8 : Int32) + p3) (18 : Int32) f (fun (f2 : hm) => (isO f2 h 5 ∧ S_X5_multiply E h p3 ((8 : Int32) + p2) (19 : Int32) f2 (fun (f4 : hm) => (isO f4 h 5 ∧ S_X5_multiply E h ((8 : Int32) + p2) ((8 : Int32) + p3) (17 : Int32) f4 (fun (f6 : hm) => (∃ v7 : Nat, rdV f6 h 5 3 = some (.ref v7) ∧ (∃ v8 : Int32, rdA (eI E) f6 v7 p2 = some v8 ∧ (∃ v9 : Nat, rdV f6 h 5 3 = some (.ref v9) ∧ (∃ v10 : Int32, rdA (eI E) f6 v9 p3 = some v10 ∧ (∀ x11 : Int32, x11 = (v10 * p4) → ((v8 = 0 → (isO f6 h 5 ∧ S_X5_copy E h (18 : Int32) (16 : Int32) f6 (fun (f14 : hm) => (isO f14 h 5 ∧ S_X5_plus E h (16 : Int32) (19 : Int32) f14 (fun (f16 : hm) => ((¬ v8 = 0 → (∃ f18 : hm, wrV f16 h 5 4 (.int v8) = some f18 ∧ (isO f18 h 5 ∧ S_X5_store E h p1 f18 (fun (r21 : Int32) (f20 : hm) => K r21 f20)))) ∧ (v8 = 0 → (∃ f22 : hm, wrV f16 h 5 4 (.int x11) = some f22 ∧ (isO f22 h 5 ∧ S_X5_store E h p1 f22 (fun (r25 : Int32) (f24 : hm) => K r25 f24)))))))))) ∧ (¬ (v8 = 0) → ((x11 = 0 → (isO f6 h 5 ∧ S_X5_copy E h (18 : Int32) (16 : Int32) f6 (fun (f28 : hm) => (isO f28 h 5 ∧ S_X5_plus E h (16 : Int32) (19 : Int32) f28 (fun (f30 : hm) => ((¬ v8 = 0 → (∃ f32 : hm, wrV f30 h 5 4 (.int v8) = some f32 ∧ (isO f32 h 5 ∧ S_X5_store E h p1 f32 (fun (r35 : Int32) (f34 : hm) => K r35 f34)))) ∧ (v8 = 0 → (∃ f36 : hm, wrV f30 h 5 4 (.int x11) = some f36 ∧ (isO f36 h 5 ∧ S_X5_store E h p1 f36 (fun (r39 : Int32) (f38 : hm) => K r39 f38)))))))))) ∧ (¬ (x11 = 0) → ((¬ v8 = x11 → (isO f6 h 5 ∧ S_X5_compare E h (18 : Int32) (19 : Int32) f6 (fun (r43 : Int32) (f42 : hm) => ((r43 < 0 → (isO f42 h 5 ∧ S_X5_copy E h (19 : Int32) (16 : Int32) f42 (fun (f46 : hm) => (isO f46 h 5 ∧ S_X5_lessen E h (16 : Int32) (18 : Int32) f46 (fun (f48 : hm) => (∃ f49 : hm, wrV f48 h 5 4 (.int x11) = some f49 ∧ (isO f49 h 5 ∧ S_X5_store E h p1 f49 (fun (r52 : Int32) (f51 : hm) => K r52 f51)))))))) ∧ (¬ (r43 < 0) → (isO f42 h 5 ∧ S_X5_copy E h (18 : Int32) (16 : Int32) f42 (fun (f54 : hm) => (isO f54 h 5 ∧ S_X5_lessen E h (16 : Int32) (19 : Int32) f54 (fun (f56 : hm) => (∃ f57 : hm, wrV f56 h 5 4 (.int v8) = some f57 ∧ (isO f57 h 5 ∧ S_X5_store E h p1 f57 (fun (r60 : Int32) (f59 : hm) => K r60 f59)))))))))))) ∧ (v8 = x11 → (isO f6 h 5 ∧ S_X5_copy E h (18 : Int32) (16 : Int32) f6 (fun (f62 : hm) => (isO f62 h 5 ∧ S_X5_plus E h (16 : Int32) (19 : Int32) f62 (fun (f64 : hm) => ((¬ v8 = 0 → (∃ f66 : hm, wrV f64 h 5 4 (.int v8) = some f66 ∧ (isO f66 h 5 ∧ S_X5_store E h p1 f66 (fun (r69 : Int32) (f68 : hm) => K r69 f68)))) ∧ (v8 = 0 → (∃ f70 : hm, wrV f64 h 5 4 (.int x11) = some f70 ∧ (isO f70 h 5 ∧ S_X5_store E h p1 f70 (fun (r73 : Int32) (f72 : hm) => K r73 f72))))))))))))))))))))))))))
set_option maxRecDepth 100000 in
set_option maxHeartbeats 4000000 in
theorem R_X5_sum_0 {E : cx} {p : Program} {e : Env} {s : State} {m : MethodId} {below : List Frame} {meth : Method} {c : Code} {f0 : hm} {zh : Nat} {zp1 : Int32} {zp2 : Int32} {zp3 : Int32} {zp4 : Int32} (C : wB E.2.1 vwCl (eT E) yX5_sum cX5_sum 7 (some .int) wsX5_sum [.ref zh, .int zp1, .int zp2, .int zp3, .int zp4] f0 p s m meth c) (h : Nat) (p1 : Int32) (p2 : Int32) (p3 : Int32) (p4 : Int32) (f : hm)  {K : Int32 → hm → Prop} (hv : X_X5_sum_0 E h p1 p2 p3 p4 f  K) {ls : Array Slot} {H : Heap} {locs : List Loc} (hl : lv_has ls 7 [(0, .ref h), (1, .int p1), (2, .int p2), (3, .int p3), (4, .int p4)]) (hS : wS E.2.1 vwCl (wA f0 s.heap.size) s.heap f H locs)  : W p E.1 e ({ frames := 4, cells := 0, slots := 0, locals := 92 }) s m ([.ref zh, .int zp1, .int zp2, .int zp3, .int zp4] : List Value).toArray below meth c H locs 0 0 (MQ below (wQi f0 E.2.1 vwCl K s) ([.ref zh, .int zp1, .int zp2, .int zp3, .int zp4] : List Value).toArray s 0 0 (wA f0 s.heap.size)) (F0 m 0 ls []) := by
  obtain ⟨hx, hb, hml, hown, hts, hr, hlk, hnm, hK, -⟩ := C
  unfold X_X5_sum_0 at hv
  refine lv_aload_n hx hb dX5_sum_0 rfl (lv_at hl 0 rfl) ?_
  refine lv_iload_n hx hb dX5_sum_1 rfl (lv_at hl 2 rfl) ?_
  refine lv_bipush (v := 8) hx hb dX5_sum_2 (by decide) ?_
  refine lv_iload_n hx hb dX5_sum_4 rfl (lv_at hl 3 rfl) ?_
  refine lv_iadd hx hb dX5_sum_5 ?_
  refine lv_bipush (v := 18) hx hb dX5_sum_6 (by decide) ?_
  obtain ⟨ho1, hv⟩ := hv
  refine fw_callVv hx hb hml hown hts hK hS [.int p2, .int ((8 : Int32) + p3), .int (18 : Int32)] [] hv gX5_sum_X5_multiply rfl rfl rfl 3 (by decide +kernel) ⟨Nat.le_of_ble_eq_true rfl, Nat.le_of_ble_eq_true rfl⟩ rfl rfl ho1 rfl hl.1 rfl (Nat.le_of_ble_eq_true rfl) dX5_sum_8 ⟨Nat.zero_le _, Nat.zero_le _⟩ (fun f2 H locs hv hS => ?_)
  refine lv_aload_n hx hb dX5_sum_11 rfl (lv_at hl 0 rfl) ?_
  refine lv_iload_n hx hb dX5_sum_12 rfl (lv_at hl 3 rfl) ?_
  refine lv_bipush (v := 8) hx hb dX5_sum_13 (by decide) ?_
  refine lv_iload_n hx hb dX5_sum_15 rfl (lv_at hl 2 rfl) ?_
  refine lv_iadd hx hb dX5_sum_16 ?_
  refine lv_bipush (v := 19) hx hb dX5_sum_17 (by decide) ?_
  obtain ⟨ho3, hv⟩ := hv
  refine fw_callVv hx hb hml hown hts hK hS [.int p3, .int ((8 : Int32) + p2), .int (19 : Int32)] [] hv gX5_sum_X5_multiply rfl rfl rfl 3 (by decide +kernel) ⟨Nat.le_of_ble_eq_true rfl, Nat.le_of_ble_eq_true rfl⟩ rfl rfl ho3 rfl hl.1 rfl (Nat.le_of_ble_eq_true rfl) dX5_sum_19 ⟨Nat.zero_le _, Nat.zero_le _⟩ (fun f4 H locs hv hS => ?_)
  refine lv_aload_n hx hb dX5_sum_22 rfl (lv_at hl 0 rfl) ?_
  refine lv_bipush (v := 8) hx hb dX5_sum_23 (by decide) ?_
  refine lv_iload_n hx hb dX5_sum_25 rfl (lv_at hl 2 rfl) ?_
  refine lv_iadd hx hb dX5_sum_26 ?_
  refine lv_bipush (v := 8) hx hb dX5_sum_27 (by decide) ?_
  refine lv_iload_n hx hb dX5_sum_29 rfl (lv_at hl 3 rfl) ?_
  refine lv_iadd hx hb dX5_sum_30 ?_
  refine lv_bipush (v := 17) hx hb dX5_sum_31 (by decide) ?_
  obtain ⟨ho5, hv⟩ := hv
  refine fw_callVv hx hb hml hown hts hK hS [.int ((8 : Int32) + p2), .int ((8 : Int32) + p3), .int (17 : Int32)] [] hv gX5_sum_X5_multiply rfl rfl rfl 3 (by decide +kernel) ⟨Nat.le_of_ble_eq_true rfl, Nat.le_of_ble_eq_true rfl⟩ rfl rfl ho5 rfl hl.1 rfl (Nat.le_of_ble_eq_true rfl) dX5_sum_33 ⟨Nat.zero_le _, Nat.zero_le _⟩ (fun f6 H locs hv hS => ?_)
  refine lv_aload_n hx hb dX5_sum_36 rfl (lv_at hl 0 rfl) ?_
  obtain ⟨v7, ev7, hv⟩ := hv
  refine fw_get hx hb hts ii_X5_sum_X5 hown hK hS 3 ev7 rfl (by decide) mm_X5_sum_0 rfl dX5_sum_37 ?_
  refine lv_iload_n hx hb dX5_sum_40 rfl (lv_at hl 2 rfl) ?_
  obtain ⟨v8, ev8, hv⟩ := hv
  refine fw_ald hx hb hK hS 0 rfl ev8 dX5_sum_41 ?_
  refine lv_istore (lv' := [(5, .int v8), (0, .ref h), (1, .int p1), (2, .int p2), (3, .int p3), (4, .int p4)]) hx hb dX5_sum_42 hl (by decide) rfl (fun ls hl => ?_)
  refine lv_aload_n hx hb dX5_sum_44 rfl (lv_at hl 1 rfl) ?_
  obtain ⟨v9, ev9, hv⟩ := hv
  refine fw_get hx hb hts ii_X5_sum_X5 hown hK hS 3 ev9 rfl (by decide) mm_X5_sum_0 rfl dX5_sum_45 ?_
  refine lv_iload_n hx hb dX5_sum_48 rfl (lv_at hl 4 rfl) ?_
  obtain ⟨v10, ev10, hv⟩ := hv
  refine fw_ald hx hb hK hS 0 rfl ev10 dX5_sum_49 ?_
  refine lv_iload hx hb dX5_sum_50 (lv_at hl 5 rfl) ?_
  refine lv_imul hx hb dX5_sum_52 ?_
  refine lv_topi (fun x11 ex11 => ?_)
  have hv := hv x11 ex11
  refine lv_istore (lv' := [(6, .int x11), (5, .int v8), (0, .ref h), (1, .int p1), (2, .int p2), (3, .int p3), (4, .int p4)]) hx hb dX5_sum_53 hl (by decide) rfl (fun ls hl => ?_)
  refine lv_iload hx hb dX5_sum_55 (lv_at hl 1 rfl) ?_
  refine lv_if_eq (tgt := 72) hx hb dX5_sum_57 (by decide) (fun c12 => ?_) (fun c12 => ?_)
  · have hv := hv.1 c12
    refine lv_aload_n hx hb dX5_sum_72 rfl (lv_at hl 2 rfl) ?_
    refine lv_bipush (v := 18) hx hb dX5_sum_73 (by decide) ?_
    refine lv_bipush (v := 16) hx hb dX5_sum_75 (by decide) ?_
    obtain ⟨ho13, hv⟩ := hv
    refine fw_callVv hx hb hml hown hts hK hS [.int (18 : Int32), .int (16 : Int32)] [] hv gX5_sum_X5_copy rfl rfl rfl 2 (by decide +kernel) ⟨Nat.le_of_ble_eq_true rfl, Nat.le_of_ble_eq_true rfl⟩ rfl rfl ho13 rfl hl.1 rfl (Nat.le_of_ble_eq_true rfl) dX5_sum_77 ⟨Nat.zero_le _, Nat.zero_le _⟩ (fun f14 H locs hv hS => ?_)
    refine lv_aload_n hx hb dX5_sum_80 rfl (lv_at hl 2 rfl) ?_
    refine lv_bipush (v := 16) hx hb dX5_sum_81 (by decide) ?_
    refine lv_bipush (v := 19) hx hb dX5_sum_83 (by decide) ?_
    obtain ⟨ho15, hv⟩ := hv
    refine fw_callVv hx hb hml hown hts hK hS [.int (16 : Int32), .int (19 : Int32)] [] hv gX5_sum_X5_plus rfl rfl rfl 2 (by decide +kernel) ⟨Nat.le_of_ble_eq_true rfl, Nat.le_of_ble_eq_true rfl⟩ rfl rfl ho15 rfl hl.1 rfl (Nat.le_of_ble_eq_true rfl) dX5_sum_85 ⟨Nat.zero_le _, Nat.zero_le _⟩ (fun f16 H locs hv hS => ?_)
    refine lv_aload_n hx hb dX5_sum_88 rfl (lv_at hl 2 rfl) ?_
    refine lv_iload hx hb dX5_sum_89 (lv_at hl 1 rfl) ?_
    refine lv_if_ne (tgt := 99) hx hb dX5_sum_91 (by decide) (fun c17 => ?_) (fun c17 => ?_)
    · have hv := hv.1 c17
      refine lv_iload hx hb dX5_sum_99 (lv_at hl 1 rfl) ?_
      obtain ⟨f18, ef18, hv⟩ := hv
      refine fw_put hx hb hts ii_X5_sum_X5 tyX5 tyX5_ok nmX5 hown hK hS 4 ef18 rfl (by decide) mm_X5_sum_1 rfl rfl rfl rfl dX5_sum_101 (fun H locs hS => ?_)
      refine lv_goto (tgt := 165) hx hb dX5_sum_104 (by decide) ?_
      refine lv_aload_n hx hb dX5_sum_165 rfl (lv_at hl 2 rfl) ?_
      refine lv_iload_n hx hb dX5_sum_166 rfl (lv_at hl 3 rfl) ?_
      obtain ⟨ho19, hv⟩ := hv
      refine fw_callVi hx hb hml hown hts hK hS [.int p1] [] hv gX5_sum_X5_store rfl rfl rfl 1 (by decide +kernel) ⟨Nat.le_of_ble_eq_true rfl, Nat.le_of_ble_eq_true rfl⟩ rfl rfl ho19 rfl hl.1 rfl (Nat.le_of_ble_eq_true rfl) dX5_sum_167 ⟨Nat.zero_le _, Nat.zero_le _⟩ (fun r21 f20 H locs hv hS => ?_)
      exact fw_iret hx hb hr hlk hS hv dX5_sum_170
    · have hv := hv.2 c17
      refine lv_iload hx hb dX5_sum_94 (lv_at hl 0 rfl) ?_
      refine lv_goto (tgt := 101) hx hb dX5_sum_96 (by decide) ?_
      obtain ⟨f22, ef22, hv⟩ := hv
      refine fw_put hx hb hts ii_X5_sum_X5 tyX5 tyX5_ok nmX5 hown hK hS 4 ef22 rfl (by decide) mm_X5_sum_1 rfl rfl rfl rfl dX5_sum_101 (fun H locs hS => ?_)
      refine lv_goto (tgt := 165) hx hb dX5_sum_104 (by decide) ?_
      refine lv_aload_n hx hb dX5_sum_165 rfl (lv_at hl 2 rfl) ?_
      refine lv_iload_n hx hb dX5_sum_166 rfl (lv_at hl 3 rfl) ?_
      obtain ⟨ho23, hv⟩ := hv
      refine fw_callVi hx hb hml hown hts hK hS [.int p1] [] hv gX5_sum_X5_store rfl rfl rfl 1 (by decide +kernel) ⟨Nat.le_of_ble_eq_true rfl, Nat.le_of_ble_eq_true rfl⟩ rfl rfl ho23 rfl hl.1 rfl (Nat.le_of_ble_eq_true rfl) dX5_sum_167 ⟨Nat.zero_le _, Nat.zero_le _⟩ (fun r25 f24 H locs hv hS => ?_)
      exact fw_iret hx hb hr hlk hS hv dX5_sum_170
  · have hv := hv.2 c12
    refine lv_iload hx hb dX5_sum_60 (lv_at hl 0 rfl) ?_
    refine lv_if_eq (tgt := 72) hx hb dX5_sum_62 (by decide) (fun c26 => ?_) (fun c26 => ?_)
    · have hv := hv.1 c26
      refine lv_aload_n hx hb dX5_sum_72 rfl (lv_at hl 2 rfl) ?_
      refine lv_bipush (v := 18) hx hb dX5_sum_73 (by decide) ?_
      refine lv_bipush (v := 16) hx hb dX5_sum_75 (by decide) ?_
      obtain ⟨ho27, hv⟩ := hv
      refine fw_callVv hx hb hml hown hts hK hS [.int (18 : Int32), .int (16 : Int32)] [] hv gX5_sum_X5_copy rfl rfl rfl 2 (by decide +kernel) ⟨Nat.le_of_ble_eq_true rfl, Nat.le_of_ble_eq_true rfl⟩ rfl rfl ho27 rfl hl.1 rfl (Nat.le_of_ble_eq_true rfl) dX5_sum_77 ⟨Nat.zero_le _, Nat.zero_le _⟩ (fun f28 H locs hv hS => ?_)
      refine lv_aload_n hx hb dX5_sum_80 rfl (lv_at hl 2 rfl) ?_
      refine lv_bipush (v := 16) hx hb dX5_sum_81 (by decide) ?_
      refine lv_bipush (v := 19) hx hb dX5_sum_83 (by decide) ?_
      obtain ⟨ho29, hv⟩ := hv
      refine fw_callVv hx hb hml hown hts hK hS [.int (16 : Int32), .int (19 : Int32)] [] hv gX5_sum_X5_plus rfl rfl rfl 2 (by decide +kernel) ⟨Nat.le_of_ble_eq_true rfl, Nat.le_of_ble_eq_true rfl⟩ rfl rfl ho29 rfl hl.1 rfl (Nat.le_of_ble_eq_true rfl) dX5_sum_85 ⟨Nat.zero_le _, Nat.zero_le _⟩ (fun f30 H locs hv hS => ?_)
      refine lv_aload_n hx hb dX5_sum_88 rfl (lv_at hl 2 rfl) ?_
      refine lv_iload hx hb dX5_sum_89 (lv_at hl 1 rfl) ?_
      refine lv_if_ne (tgt := 99) hx hb dX5_sum_91 (by decide) (fun c31 => ?_) (fun c31 => ?_)
      · have hv := hv.1 c31
        refine lv_iload hx hb dX5_sum_99 (lv_at hl 1 rfl) ?_
        obtain ⟨f32, ef32, hv⟩ := hv
        refine fw_put hx hb hts ii_X5_sum_X5 tyX5 tyX5_ok nmX5 hown hK hS 4 ef32 rfl (by decide) mm_X5_sum_1 rfl rfl rfl rfl dX5_sum_101 (fun H locs hS => ?_)
        refine lv_goto (tgt := 165) hx hb dX5_sum_104 (by decide) ?_
        refine lv_aload_n hx hb dX5_sum_165 rfl (lv_at hl 2 rfl) ?_
        refine lv_iload_n hx hb dX5_sum_166 rfl (lv_at hl 3 rfl) ?_
        obtain ⟨ho33, hv⟩ := hv
        refine fw_callVi hx hb hml hown hts hK hS [.int p1] [] hv gX5_sum_X5_store rfl rfl rfl 1 (by decide +kernel) ⟨Nat.le_of_ble_eq_true rfl, Nat.le_of_ble_eq_true rfl⟩ rfl rfl ho33 rfl hl.1 rfl (Nat.le_of_ble_eq_true rfl) dX5_sum_167 ⟨Nat.zero_le _, Nat.zero_le _⟩ (fun r35 f34 H locs hv hS => ?_)
        exact fw_iret hx hb hr hlk hS hv dX5_sum_170
      · have hv := hv.2 c31
        refine lv_iload hx hb dX5_sum_94 (lv_at hl 0 rfl) ?_
        refine lv_goto (tgt := 101) hx hb dX5_sum_96 (by decide) ?_
        obtain ⟨f36, ef36, hv⟩ := hv
        refine fw_put hx hb hts ii_X5_sum_X5 tyX5 tyX5_ok nmX5 hown hK hS 4 ef36 rfl (by decide) mm_X5_sum_1 rfl rfl rfl rfl dX5_sum_101 (fun H locs hS => ?_)
        refine lv_goto (tgt := 165) hx hb dX5_sum_104 (by decide) ?_
        refine lv_aload_n hx hb dX5_sum_165 rfl (lv_at hl 2 rfl) ?_
        refine lv_iload_n hx hb dX5_sum_166 rfl (lv_at hl 3 rfl) ?_
        obtain ⟨ho37, hv⟩ := hv
        refine fw_callVi hx hb hml hown hts hK hS [.int p1] [] hv gX5_sum_X5_store rfl rfl rfl 1 (by decide +kernel) ⟨Nat.le_of_ble_eq_true rfl, Nat.le_of_ble_eq_true rfl⟩ rfl rfl ho37 rfl hl.1 rfl (Nat.le_of_ble_eq_true rfl) dX5_sum_167 ⟨Nat.zero_le _, Nat.zero_le _⟩ (fun r39 f38 H locs hv hS => ?_)
        exact fw_iret hx hb hr hlk hS hv dX5_sum_170
    · have hv := hv.2 c26
      refine lv_iload hx hb dX5_sum_65 (lv_at hl 1 rfl) ?_
      refine lv_iload hx hb dX5_sum_67 (lv_at hl 0 rfl) ?_
      refine lv_icmp_ne (tgt := 107) hx hb dX5_sum_69 (by decide) (fun c40 => ?_) (fun c40 => ?_)
      · have hv := hv.1 c40
        refine lv_aload_n hx hb dX5_sum_107 rfl (lv_at hl 2 rfl) ?_
        refine lv_bipush (v := 18) hx hb dX5_sum_108 (by decide) ?_
        refine lv_bipush (v := 19) hx hb dX5_sum_110 (by decide) ?_
        obtain ⟨ho41, hv⟩ := hv
        refine fw_callVi hx hb hml hown hts hK hS [.int (18 : Int32), .int (19 : Int32)] [] hv gX5_sum_X5_compare rfl rfl rfl 2 (by decide +kernel) ⟨Nat.le_of_ble_eq_true rfl, Nat.le_of_ble_eq_true rfl⟩ rfl rfl ho41 rfl hl.1 rfl (Nat.le_of_ble_eq_true rfl) dX5_sum_112 ⟨Nat.zero_le _, Nat.zero_le _⟩ (fun r43 f42 H locs hv hS => ?_)
        refine lv_if_lt (tgt := 143) hx hb dX5_sum_115 (by decide) (fun c44 => ?_) (fun c44 => ?_)
        · have hv := hv.1 c44
          refine lv_aload_n hx hb dX5_sum_143 rfl (lv_at hl 2 rfl) ?_
          refine lv_bipush (v := 19) hx hb dX5_sum_144 (by decide) ?_
          refine lv_bipush (v := 16) hx hb dX5_sum_146 (by decide) ?_
          obtain ⟨ho45, hv⟩ := hv
          refine fw_callVv hx hb hml hown hts hK hS [.int (19 : Int32), .int (16 : Int32)] [] hv gX5_sum_X5_copy rfl rfl rfl 2 (by decide +kernel) ⟨Nat.le_of_ble_eq_true rfl, Nat.le_of_ble_eq_true rfl⟩ rfl rfl ho45 rfl hl.1 rfl (Nat.le_of_ble_eq_true rfl) dX5_sum_148 ⟨Nat.zero_le _, Nat.zero_le _⟩ (fun f46 H locs hv hS => ?_)
          refine lv_aload_n hx hb dX5_sum_151 rfl (lv_at hl 2 rfl) ?_
          refine lv_bipush (v := 16) hx hb dX5_sum_152 (by decide) ?_
          refine lv_bipush (v := 18) hx hb dX5_sum_154 (by decide) ?_
          obtain ⟨ho47, hv⟩ := hv
          refine fw_callVv hx hb hml hown hts hK hS [.int (16 : Int32), .int (18 : Int32)] [] hv gX5_sum_X5_lessen rfl rfl rfl 2 (by decide +kernel) ⟨Nat.le_of_ble_eq_true rfl, Nat.le_of_ble_eq_true rfl⟩ rfl rfl ho47 rfl hl.1 rfl (Nat.le_of_ble_eq_true rfl) dX5_sum_156 ⟨Nat.zero_le _, Nat.zero_le _⟩ (fun f48 H locs hv hS => ?_)
          refine lv_aload_n hx hb dX5_sum_159 rfl (lv_at hl 2 rfl) ?_
          refine lv_iload hx hb dX5_sum_160 (lv_at hl 0 rfl) ?_
          obtain ⟨f49, ef49, hv⟩ := hv
          refine fw_put hx hb hts ii_X5_sum_X5 tyX5 tyX5_ok nmX5 hown hK hS 4 ef49 rfl (by decide) mm_X5_sum_1 rfl rfl rfl rfl dX5_sum_162 (fun H locs hS => ?_)
          refine lv_aload_n hx hb dX5_sum_165 rfl (lv_at hl 2 rfl) ?_
          refine lv_iload_n hx hb dX5_sum_166 rfl (lv_at hl 3 rfl) ?_
          obtain ⟨ho50, hv⟩ := hv
          refine fw_callVi hx hb hml hown hts hK hS [.int p1] [] hv gX5_sum_X5_store rfl rfl rfl 1 (by decide +kernel) ⟨Nat.le_of_ble_eq_true rfl, Nat.le_of_ble_eq_true rfl⟩ rfl rfl ho50 rfl hl.1 rfl (Nat.le_of_ble_eq_true rfl) dX5_sum_167 ⟨Nat.zero_le _, Nat.zero_le _⟩ (fun r52 f51 H locs hv hS => ?_)
          exact fw_iret hx hb hr hlk hS hv dX5_sum_170
        · have hv := hv.2 c44
          refine lv_aload_n hx hb dX5_sum_118 rfl (lv_at hl 2 rfl) ?_
          refine lv_bipush (v := 18) hx hb dX5_sum_119 (by decide) ?_
          refine lv_bipush (v := 16) hx hb dX5_sum_121 (by decide) ?_
          obtain ⟨ho53, hv⟩ := hv
          refine fw_callVv hx hb hml hown hts hK hS [.int (18 : Int32), .int (16 : Int32)] [] hv gX5_sum_X5_copy rfl rfl rfl 2 (by decide +kernel) ⟨Nat.le_of_ble_eq_true rfl, Nat.le_of_ble_eq_true rfl⟩ rfl rfl ho53 rfl hl.1 rfl (Nat.le_of_ble_eq_true rfl) dX5_sum_123 ⟨Nat.zero_le _, Nat.zero_le _⟩ (fun f54 H locs hv hS => ?_)
          refine lv_aload_n hx hb dX5_sum_126 rfl (lv_at hl 2 rfl) ?_
          refine lv_bipush (v := 16) hx hb dX5_sum_127 (by decide) ?_
          refine lv_bipush (v := 19) hx hb dX5_sum_129 (by decide) ?_
          obtain ⟨ho55, hv⟩ := hv
          refine fw_callVv hx hb hml hown hts hK hS [.int (16 : Int32), .int (19 : Int32)] [] hv gX5_sum_X5_lessen rfl rfl rfl 2 (by decide +kernel) ⟨Nat.le_of_ble_eq_true rfl, Nat.le_of_ble_eq_true rfl⟩ rfl rfl ho55 rfl hl.1 rfl (Nat.le_of_ble_eq_true rfl) dX5_sum_131 ⟨Nat.zero_le _, Nat.zero_le _⟩ (fun f56 H locs hv hS => ?_)
          refine lv_aload_n hx hb dX5_sum_134 rfl (lv_at hl 2 rfl) ?_
          refine lv_iload hx hb dX5_sum_135 (lv_at hl 1 rfl) ?_
          obtain ⟨f57, ef57, hv⟩ := hv
          refine fw_put hx hb hts ii_X5_sum_X5 tyX5 tyX5_ok nmX5 hown hK hS 4 ef57 rfl (by decide) mm_X5_sum_1 rfl rfl rfl rfl dX5_sum_137 (fun H locs hS => ?_)
          refine lv_goto (tgt := 165) hx hb dX5_sum_140 (by decide) ?_
          refine lv_aload_n hx hb dX5_sum_165 rfl (lv_at hl 2 rfl) ?_
          refine lv_iload_n hx hb dX5_sum_166 rfl (lv_at hl 3 rfl) ?_
          obtain ⟨ho58, hv⟩ := hv
          refine fw_callVi hx hb hml hown hts hK hS [.int p1] [] hv gX5_sum_X5_store rfl rfl rfl 1 (by decide +kernel) ⟨Nat.le_of_ble_eq_true rfl, Nat.le_of_ble_eq_true rfl⟩ rfl rfl ho58 rfl hl.1 rfl (Nat.le_of_ble_eq_true rfl) dX5_sum_167 ⟨Nat.zero_le _, Nat.zero_le _⟩ (fun r60 f59 H locs hv hS => ?_)
          exact fw_iret hx hb hr hlk hS hv dX5_sum_170
      · have hv := hv.2 c40
        refine lv_aload_n hx hb dX5_sum_72 rfl (lv_at hl 2 rfl) ?_
        refine lv_bipush (v := 18) hx hb dX5_sum_73 (by decide) ?_
        refine lv_bipush (v := 16) hx hb dX5_sum_75 (by decide) ?_
        obtain ⟨ho61, hv⟩ := hv
        refine fw_callVv hx hb hml hown hts hK hS [.int (18 : Int32), .int (16 : Int32)] [] hv gX5_sum_X5_copy rfl rfl rfl 2 (by decide +kernel) ⟨Nat.le_of_ble_eq_true rfl, Nat.le_of_ble_eq_true rfl⟩ rfl rfl ho61 rfl hl.1 rfl (Nat.le_of_ble_eq_true rfl) dX5_sum_77 ⟨Nat.zero_le _, Nat.zero_le _⟩ (fun f62 H locs hv hS => ?_)
        refine lv_aload_n hx hb dX5_sum_80 rfl (lv_at hl 2 rfl) ?_
        refine lv_bipush (v := 16) hx hb dX5_sum_81 (by decide) ?_
        refine lv_bipush (v := 19) hx hb dX5_sum_83 (by decide) ?_
        obtain ⟨ho63, hv⟩ := hv
        refine fw_callVv hx hb hml hown hts hK hS [.int (16 : Int32), .int (19 : Int32)] [] hv gX5_sum_X5_plus rfl rfl rfl 2 (by decide +kernel) ⟨Nat.le_of_ble_eq_true rfl, Nat.le_of_ble_eq_true rfl⟩ rfl rfl ho63 rfl hl.1 rfl (Nat.le_of_ble_eq_true rfl) dX5_sum_85 ⟨Nat.zero_le _, Nat.zero_le _⟩ (fun f64 H locs hv hS => ?_)
        refine lv_aload_n hx hb dX5_sum_88 rfl (lv_at hl 2 rfl) ?_
        refine lv_iload hx hb dX5_sum_89 (lv_at hl 1 rfl) ?_
        refine lv_if_ne (tgt := 99) hx hb dX5_sum_91 (by decide) (fun c65 => ?_) (fun c65 => ?_)
        · have hv := hv.1 c65
          refine lv_iload hx hb dX5_sum_99 (lv_at hl 1 rfl) ?_
          obtain ⟨f66, ef66, hv⟩ := hv
          refine fw_put hx hb hts ii_X5_sum_X5 tyX5 tyX5_ok nmX5 hown hK hS 4 ef66 rfl (by decide) mm_X5_sum_1 rfl rfl rfl rfl dX5_sum_101 (fun H locs hS => ?_)
          refine lv_goto (tgt := 165) hx hb dX5_sum_104 (by decide) ?_
          refine lv_aload_n hx hb dX5_sum_165 rfl (lv_at hl 2 rfl) ?_
          refine lv_iload_n hx hb dX5_sum_166 rfl (lv_at hl 3 rfl) ?_
          obtain ⟨ho67, hv⟩ := hv
          refine fw_callVi hx hb hml hown hts hK hS [.int p1] [] hv gX5_sum_X5_store rfl rfl rfl 1 (by decide +kernel) ⟨Nat.le_of_ble_eq_true rfl, Nat.le_of_ble_eq_true rfl⟩ rfl rfl ho67 rfl hl.1 rfl (Nat.le_of_ble_eq_true rfl) dX5_sum_167 ⟨Nat.zero_le _, Nat.zero_le _⟩ (fun r69 f68 H locs hv hS => ?_)
          exact fw_iret hx hb hr hlk hS hv dX5_sum_170
        · have hv := hv.2 c65
          refine lv_iload hx hb dX5_sum_94 (lv_at hl 0 rfl) ?_
          refine lv_goto (tgt := 101) hx hb dX5_sum_96 (by decide) ?_
          obtain ⟨f70, ef70, hv⟩ := hv
          refine fw_put hx hb hts ii_X5_sum_X5 tyX5 tyX5_ok nmX5 hown hK hS 4 ef70 rfl (by decide) mm_X5_sum_1 rfl rfl rfl rfl dX5_sum_101 (fun H locs hS => ?_)
          refine lv_goto (tgt := 165) hx hb dX5_sum_104 (by decide) ?_
          refine lv_aload_n hx hb dX5_sum_165 rfl (lv_at hl 2 rfl) ?_
          refine lv_iload_n hx hb dX5_sum_166 rfl (lv_at hl 3 rfl) ?_
          obtain ⟨ho71, hv⟩ := hv
          refine fw_callVi hx hb hml hown hts hK hS [.int p1] [] hv gX5_sum_X5_store rfl rfl rfl 1 (by decide +kernel) ⟨Nat.le_of_ble_eq_true rfl, Nat.le_of_ble_eq_true rfl⟩ rfl rfl ho71 rfl hl.1 rfl (Nat.le_of_ble_eq_true rfl) dX5_sum_167 ⟨Nat.zero_le _, Nat.zero_le _⟩ (fun r73 f72 H locs hv hS => ?_)
          exact fw_iret hx hb hr hlk hS hv dX5_sum_170
set_option maxRecDepth 100000 in
set_option maxHeartbeats 4000000 in
theorem T_X5_sum {E : cx} {h : Nat} {p1 : Int32} {p2 : Int32} {p3 : Int32} {p4 : Int32} {f : hm} {K : Int32 → hm → Prop}  (h0 : X_X5_sum_0 E h p1 p2 p3 p4 f  K) : S_X5_sum E h p1 p2 p3 p4 f K := by
  refine MI_of (cc := cX5_sum) (maxL := 7) (ret := (some .int)) (by decide) rfl ?_
  intro p e s m below meth c C
  have hl := lv_entry ([.ref h, .int p1, .int p2, .int p3, .int p4]) (n := 7) (Nat.le_of_ble_eq_true rfl)
  rw [lg_entry_eq]
  generalize (lg_sl ([.ref h, .int p1, .int p2, .int p3, .int p4]) ++ List.replicate (7 - (lg_sl ([.ref h, .int p1, .int p2, .int p3, .int p4])).length) Slot.unset).toArray = ls at hl ⊢
  have hl : lv_has ls 7 [(0, .ref h), (1, .int p1), (2, .int p2), (3, .int p3), (4, .int p4)] := hl
  have hS := C.2.2.2.2.2.2.2.2.2
  exact R_X5_sum_0 C h p1 p2 p3 p4 f h0 hl hS
