/-! By program (wip/whole/gen.py), out of the printed names: do not edit. -/
/-! ContinuedRatiosModel.best(III)J -/
def S_X5_best (E : cx) (h : Nat) (p1 : Int32) (p2 : Int32) (p3 : Int32) (f : hm) (K : Int64 → hm → Prop) : Prop := ML E.1 E.2.1 vwCl (eT E) yX5_best wsX5_best ({ frames := 4, cells := 0, slots := 0, locals := 97 }) [.ref h, .int p1, .int p2, .int p3] f K
theorem mm_X5_best_0 : Cond.constantLong RX5 122 (-9223372036854775808) ∈ wsX5_best := by decide +kernel
theorem mm_X5_best_1 : Cond.fieldLink RX5 13 "ContinuedRatiosModel" "signs" "[I" ∈ wsX5_best := by decide +kernel
theorem ii_X5_best_X5 : ∀ w ∈ u_ws RX5 TX5 7, w ∈ wsX5_best := by decide +kernel
def X_X5_best_0 (E : cx) (h : Nat) (p1 : Int32) (p2 : Int32) (p3 : Int32) (f : hm) (L99 : Nat → Int32 → Int32 → Int32 → Int64 → Int64 → Int64 → Int64 → Int32 → hm → Prop) (K : Int64 → hm → Prop) : Prop :=
  (isO f h 5 ∧ S_X5_isRegister E h p1 f (fun (r3 : Int32) (f2 : hm) => ((r3 = 0 → K (-9223372036854775808 : Int64) f2) ∧ (¬ (r3 = 0) → ((p2 < (1 : Int32) → K (-9223372036854775808 : Int64) f2) ∧ (¬ (p2 < (1 : Int32)) → (((1000 : Int32) < p2 → K (-9223372036854775808 : Int64) f2) ∧ (¬ ((1000 : Int32) < p2) → ((p3 < 0 → K (-9223372036854775808 : Int64) f2) ∧ (¬ (p3 < 0) → (((1 : Int32) < p3 → K (-9223372036854775808 : Int64) f2) ∧ (¬ ((1 : Int32) < p3) → (isO f2 h 5 ∧ S_X5_fits E h p1 f2 (fun (r11 : Int32) (f10 : hm) => ((¬ r11 = 0 → (∃ v13 : Nat, rdV f10 h 5 3 = some (.ref v13) ∧ (∃ v14 : Int32, rdA (eI E) f10 v13 p1 = some v14 ∧ (isO f10 h 5 ∧ S_X5_down E h p1 ((8 : Int32) + p1) v14 f10 (fun (r17 : Int32) (f16 : hm) => (isO f16 h 5 ∧ S_X5_quotient E h r17 f16 (fun (r20 : Int64) (f19 : hm) => (isO f19 h 5 ∧ S_X5_copy E h (21 : Int32) (16 : Int32) f19 (fun (f22 : hm) => (isO f22 h 5 ∧ S_X5_copy E h ((8 : Int32) + p1) (17 : Int32) f22 (fun (f24 : hm) => (isO f24 h 5 ∧ S_X5_put E h (19 : Int32) (0 : Int64) f24 (fun (f26 : hm) => L99 h p1 p2 p3 r20 (0 : Int64) (0 : Int64) (0 : Int64) (1 : Int32) f26))))))))))))) ∧ (r11 = 0 → K (-9223372036854775808 : Int64) f10))))))))))))))))
def X_X5_best_99 (E : cx) (a_0 : Nat) (x_1 : Int32) (x_2 : Int32) (x_3 : Int32) (x_4 : Int64) (x_6 : Int64) (x_8 : Int64) (x_10 : Int64) (x_12 : Int32) (f : hm) (L141 : Nat → Int32 → Int32 → Int32 → Int64 → Int64 → Int64 → Int64 → Int32 → Int32 → hm → Prop) (K : Int64 → hm → Prop) : Prop :=
  ((x_2 < x_12 → ((¬ x_3 = 0 → K x_10 f) ∧ (x_3 = 0 → K x_8 f))) ∧ (¬ (x_2 < x_12) → (isO f a_0 5 ∧ S_X5_plus E a_0 (19 : Int32) (16 : Int32) f (fun (f4 : hm) => (isO f4 a_0 5 ∧ S_X5_compare E a_0 (19 : Int32) (17 : Int32) f4 (fun (r7 : Int32) (f6 : hm) => ((r7 < 0 → L141 a_0 x_1 x_2 x_3 x_4 x_6 x_8 x_10 x_12 (0 : Int32) f6) ∧ (¬ (r7 < 0) → (isO f6 a_0 5 ∧ S_X5_lessen E a_0 (19 : Int32) (17 : Int32) f6 (fun (f10 : hm) => (∀ x11 : Int64, x11 = (x_6 + (1 : Int64)) → L141 a_0 x_1 x_2 x_3 x_4 x11 x_8 x_10 x_12 (0 : Int32) f10)))))))))))
def X_X5_best_141 (E : cx) (a_0 : Nat) (x_1 : Int32) (x_2 : Int32) (x_3 : Int32) (x_4 : Int64) (x_6 : Int64) (x_8 : Int64) (x_10 : Int64) (x_12 : Int32) (x_13 : Int32) (f : hm) (L99 : Nat → Int32 → Int32 → Int32 → Int64 → Int64 → Int64 → Int64 → Int32 → hm → Prop) (L141 : Nat → Int32 → Int32 → Int32 → Int64 → Int64 → Int64 → Int64 → Int32 → Int32 → hm → Prop) (K : Int64 → hm → Prop) : Prop :=
  (((2 : Int32) ≤ x_13 → (∀ x2 : Int32, x2 = x_12 + (1) → L99 a_0 x_1 x_2 x_3 x_4 x_6 x_8 x_10 x2 f)) ∧ (¬ ((2 : Int32) ≤ x_13) → (isO f a_0 5 ∧ S_X5_copy E a_0 (19 : Int32) (18 : Int32) f (fun (f4 : hm) => ((¬ x_13 = (1 : Int32) → (((lg_cmp x_10 (0 : Int64)) = 0 → (isO f4 a_0 5 ∧ S_X5_copy E a_0 (18 : Int32) (26 : Int32) f4 (fun (f8 : hm) => (∀ x9 : Int64, x9 = (((x_4 * x_12.toInt64) + x_6) + x_13.toInt64) → (∀ x10 : Int32, x10 = x_13 + (1) → L141 a_0 x_1 x_2 x_3 x_4 x_6 x9 x_12.toInt64 x_12 x10 f8))))) ∧ (¬ ((lg_cmp x_10 (0 : Int64)) = 0) → (isO f4 a_0 5 ∧ S_X5_farther E a_0 x_12 x_10.toInt32 f4 (fun (r13 : Int32) (f12 : hm) => ((0 ≤ r13 → (∀ x15 : Int32, x15 = x_13 + (1) → L141 a_0 x_1 x_2 x_3 x_4 x_6 x_8 x_10 x_12 x15 f12)) ∧ (¬ (0 ≤ r13) → (isO f12 a_0 5 ∧ S_X5_copy E a_0 (18 : Int32) (26 : Int32) f12 (fun (f17 : hm) => (∀ x18 : Int64, x18 = (((x_4 * x_12.toInt64) + x_6) + x_13.toInt64) → (∀ x19 : Int32, x19 = x_13 + (1) → L141 a_0 x_1 x_2 x_3 x_4 x_6 x18 x_12.toInt64 x_12 x19 f17))))))))))) ∧ (x_13 = (1 : Int32) → (isO f4 a_0 5 ∧ S_X5_copy E a_0 (17 : Int32) (18 : Int32) f4 (fun (f21 : hm) => (isO f21 a_0 5 ∧ S_X5_lessen E a_0 (18 : Int32) (19 : Int32) f21 (fun (f23 : hm) => (((lg_cmp x_10 (0 : Int64)) = 0 → (isO f23 a_0 5 ∧ S_X5_copy E a_0 (18 : Int32) (26 : Int32) f23 (fun (f26 : hm) => (∀ x27 : Int64, x27 = (((x_4 * x_12.toInt64) + x_6) + x_13.toInt64) → (∀ x28 : Int32, x28 = x_13 + (1) → L141 a_0 x_1 x_2 x_3 x_4 x_6 x27 x_12.toInt64 x_12 x28 f26))))) ∧ (¬ ((lg_cmp x_10 (0 : Int64)) = 0) → (isO f23 a_0 5 ∧ S_X5_farther E a_0 x_12 x_10.toInt32 f23 (fun (r31 : Int32) (f30 : hm) => ((0 ≤ r31 → (∀ x33 : Int32, x33 = x_13 + (1) → L141 a_0 x_1 x_2 x_3 x_4 x_6 x_8 x_10 x_12 x33 f30)) ∧ (¬ (0 ≤ r31) → (isO f30 a_0 5 ∧ S_X5_copy E a_0 (18 : Int32) (26 : Int32) f30 (fun (f35 : hm) => (∀ x36 : Int64, x36 = (((x_4 * x_12.toInt64) + x_6) + x_13.toInt64) → (∀ x37 : Int32, x37 = x_13 + (1) → L141 a_0 x_1 x_2 x_3 x_4 x_6 x36 x_12.toInt64 x_12 x37 f35))))))))))))))))))))
set_option maxRecDepth 100000 in
set_option maxHeartbeats 4000000 in
theorem R_X5_best_0 {E : cx} {p : Program} {e : Env} {s : State} {m : MethodId} {below : List Frame} {meth : Method} {c : Code} {f0 : hm} {zh : Nat} {zp1 : Int32} {zp2 : Int32} {zp3 : Int32} (C : wB E.2.1 vwCl (eT E) yX5_best cX5_best 14 (some .long) wsX5_best [.ref zh, .int zp1, .int zp2, .int zp3] f0 p s m meth c) (h : Nat) (p1 : Int32) (p2 : Int32) (p3 : Int32) (f : hm) {L99 : Nat → Int32 → Int32 → Int32 → Int64 → Int64 → Int64 → Int64 → Int32 → hm → Prop} {K : Int64 → hm → Prop} (hv : X_X5_best_0 E h p1 p2 p3 f L99 K) {ls : Array Slot} {H : Heap} {locs : List Loc} (hl : lv_has ls 14 [(0, .ref h), (1, .int p1), (2, .int p2), (3, .int p3)]) (hS : wS E.2.1 vwCl (wA f0 s.heap.size) s.heap f H locs) (hL99 : ∀ (y_0 : Nat) (y_1 : Int32) (y_2 : Int32) (y_3 : Int32) (y_4 : Int64) (y_6 : Int64) (y_8 : Int64) (y_10 : Int64) (y_12 : Int32) (f : hm) (ls : Array Slot) (H : Heap) (locs : List Loc), L99 y_0 y_1 y_2 y_3 y_4 y_6 y_8 y_10 y_12 f → lv_has ls 14 [(0, .ref y_0), (1, .int y_1), (2, .int y_2), (3, .int y_3), (4, .long y_4), (6, .long y_6), (8, .long y_8), (10, .long y_10), (12, .int y_12)] → wS E.2.1 vwCl (wA f0 s.heap.size) s.heap f H locs → W p E.1 e ({ frames := 4, cells := 0, slots := 0, locals := 97 }) s m ([.ref zh, .int zp1, .int zp2, .int zp3] : List Value).toArray below meth c H locs 0 0 (MQ below (wQl f0 E.2.1 vwCl K s) ([.ref zh, .int zp1, .int zp2, .int zp3] : List Value).toArray s 0 0 (wA f0 s.heap.size)) (F0 m 99 ls [])) : W p E.1 e ({ frames := 4, cells := 0, slots := 0, locals := 97 }) s m ([.ref zh, .int zp1, .int zp2, .int zp3] : List Value).toArray below meth c H locs 0 0 (MQ below (wQl f0 E.2.1 vwCl K s) ([.ref zh, .int zp1, .int zp2, .int zp3] : List Value).toArray s 0 0 (wA f0 s.heap.size)) (F0 m 0 ls []) := by
  obtain ⟨hx, hb, hml, hown, hts, hr, hlk, hnm, hK, -⟩ := C
  unfold X_X5_best_0 at hv
  refine lv_aload_n hx hb dX5_best_0 rfl (lv_at hl 0 rfl) ?_
  refine lv_iload_n hx hb dX5_best_1 rfl (lv_at hl 1 rfl) ?_
  obtain ⟨ho1, hv⟩ := hv
  refine fw_callVi hx hb hml hown hts hK hS [.int p1] [] hv gX5_best_X5_isRegister rfl rfl rfl 1 (by decide +kernel) ⟨Nat.le_of_ble_eq_true rfl, Nat.le_of_ble_eq_true rfl⟩ rfl rfl ho1 rfl hl.1 rfl (Nat.le_of_ble_eq_true rfl) dX5_best_2 ⟨Nat.zero_le _, Nat.zero_le _⟩ (fun r3 f2 H locs hv hS => ?_)
  refine lv_if_eq (tgt := 37) hx hb dX5_best_5 (by decide) (fun c4 => ?_) (fun c4 => ?_)
  · have hv := hv.1 c4
    refine lv_ldc2 (v := (-9223372036854775808)) hx hb hown (hts _ mm_X5_best_0) dX5_best_37 ?_
    exact fw_lret hx hb hr hlk hS hv dX5_best_40
  · have hv := hv.2 c4
    refine lv_iload_n hx hb dX5_best_8 rfl (lv_at hl 2 rfl) ?_
    refine lv_iconst (v := 1) hx hb dX5_best_9 (by decide) ?_
    refine lv_icmp_lt (tgt := 37) hx hb dX5_best_10 (by decide) (fun c5 => ?_) (fun c5 => ?_)
    · have hv := hv.1 c5
      refine lv_ldc2 (v := (-9223372036854775808)) hx hb hown (hts _ mm_X5_best_0) dX5_best_37 ?_
      exact fw_lret hx hb hr hlk hS hv dX5_best_40
    · have hv := hv.2 c5
      refine lv_iload_n hx hb dX5_best_13 rfl (lv_at hl 2 rfl) ?_
      refine lv_sipush (v := 1000) hx hb dX5_best_14 (by decide) ?_
      refine lv_icmp_gt (tgt := 37) hx hb dX5_best_17 (by decide) (fun c6 => ?_) (fun c6 => ?_)
      · have hv := hv.1 c6
        refine lv_ldc2 (v := (-9223372036854775808)) hx hb hown (hts _ mm_X5_best_0) dX5_best_37 ?_
        exact fw_lret hx hb hr hlk hS hv dX5_best_40
      · have hv := hv.2 c6
        refine lv_iload_n hx hb dX5_best_20 rfl (lv_at hl 3 rfl) ?_
        refine lv_if_lt (tgt := 37) hx hb dX5_best_21 (by decide) (fun c7 => ?_) (fun c7 => ?_)
        · have hv := hv.1 c7
          refine lv_ldc2 (v := (-9223372036854775808)) hx hb hown (hts _ mm_X5_best_0) dX5_best_37 ?_
          exact fw_lret hx hb hr hlk hS hv dX5_best_40
        · have hv := hv.2 c7
          refine lv_iload_n hx hb dX5_best_24 rfl (lv_at hl 3 rfl) ?_
          refine lv_iconst (v := 1) hx hb dX5_best_25 (by decide) ?_
          refine lv_icmp_gt (tgt := 37) hx hb dX5_best_26 (by decide) (fun c8 => ?_) (fun c8 => ?_)
          · have hv := hv.1 c8
            refine lv_ldc2 (v := (-9223372036854775808)) hx hb hown (hts _ mm_X5_best_0) dX5_best_37 ?_
            exact fw_lret hx hb hr hlk hS hv dX5_best_40
          · have hv := hv.2 c8
            refine lv_aload_n hx hb dX5_best_29 rfl (lv_at hl 0 rfl) ?_
            refine lv_iload_n hx hb dX5_best_30 rfl (lv_at hl 1 rfl) ?_
            obtain ⟨ho9, hv⟩ := hv
            refine fw_callVi hx hb hml hown hts hK hS [.int p1] [] hv gX5_best_X5_fits rfl rfl rfl 1 (by decide +kernel) ⟨Nat.le_of_ble_eq_true rfl, Nat.le_of_ble_eq_true rfl⟩ rfl rfl ho9 rfl hl.1 rfl (Nat.le_of_ble_eq_true rfl) dX5_best_31 ⟨Nat.zero_le _, Nat.zero_le _⟩ (fun r11 f10 H locs hv hS => ?_)
            refine lv_if_ne (tgt := 41) hx hb dX5_best_34 (by decide) (fun c12 => ?_) (fun c12 => ?_)
            · have hv := hv.1 c12
              refine lv_aload_n hx hb dX5_best_41 rfl (lv_at hl 0 rfl) ?_
              refine lv_aload_n hx hb dX5_best_42 rfl (lv_at hl 0 rfl) ?_
              refine lv_iload_n hx hb dX5_best_43 rfl (lv_at hl 1 rfl) ?_
              refine lv_bipush (v := 8) hx hb dX5_best_44 (by decide) ?_
              refine lv_iload_n hx hb dX5_best_46 rfl (lv_at hl 1 rfl) ?_
              refine lv_iadd hx hb dX5_best_47 ?_
              refine lv_aload_n hx hb dX5_best_48 rfl (lv_at hl 0 rfl) ?_
              obtain ⟨v13, ev13, hv⟩ := hv
              refine fw_get hx hb hts ii_X5_best_X5 hown hK hS 3 ev13 rfl (by decide) mm_X5_best_1 rfl dX5_best_49 ?_
              refine lv_iload_n hx hb dX5_best_52 rfl (lv_at hl 1 rfl) ?_
              obtain ⟨v14, ev14, hv⟩ := hv
              refine fw_ald hx hb hK hS 0 rfl ev14 dX5_best_53 ?_
              obtain ⟨ho15, hv⟩ := hv
              refine fw_callVi hx hb hml hown hts hK hS [.int p1, .int ((8 : Int32) + p1), .int v14] [.ref h] hv gX5_best_X5_down rfl rfl rfl 3 (by decide +kernel) ⟨Nat.le_of_ble_eq_true rfl, Nat.le_of_ble_eq_true rfl⟩ rfl rfl ho15 rfl hl.1 rfl (Nat.le_of_ble_eq_true rfl) dX5_best_54 ⟨Nat.zero_le _, Nat.zero_le _⟩ (fun r17 f16 H locs hv hS => ?_)
              obtain ⟨ho18, hv⟩ := hv
              refine fw_callVl hx hb hml hown hts hK hS [.int r17] [] hv gX5_best_X5_quotient rfl rfl rfl 1 (by decide +kernel) ⟨Nat.le_of_ble_eq_true rfl, Nat.le_of_ble_eq_true rfl⟩ rfl rfl ho18 rfl hl.1 rfl (Nat.le_of_ble_eq_true rfl) dX5_best_57 ⟨Nat.zero_le _, Nat.zero_le _⟩ (fun r20 f19 H locs hv hS => ?_)
              refine lv_lstore (lv' := [(4, .long r20), (0, .ref h), (1, .int p1), (2, .int p2), (3, .int p3)]) hx hb dX5_best_60 hl (by decide) rfl (fun ls hl => ?_)
              refine lv_aload_n hx hb dX5_best_62 rfl (lv_at hl 1 rfl) ?_
              refine lv_bipush (v := 21) hx hb dX5_best_63 (by decide) ?_
              refine lv_bipush (v := 16) hx hb dX5_best_65 (by decide) ?_
              obtain ⟨ho21, hv⟩ := hv
              refine fw_callVv hx hb hml hown hts hK hS [.int (21 : Int32), .int (16 : Int32)] [] hv gX5_best_X5_copy rfl rfl rfl 2 (by decide +kernel) ⟨Nat.le_of_ble_eq_true rfl, Nat.le_of_ble_eq_true rfl⟩ rfl rfl ho21 rfl hl.1 rfl (Nat.le_of_ble_eq_true rfl) dX5_best_67 ⟨Nat.zero_le _, Nat.zero_le _⟩ (fun f22 H locs hv hS => ?_)
              refine lv_aload_n hx hb dX5_best_70 rfl (lv_at hl 1 rfl) ?_
              refine lv_bipush (v := 8) hx hb dX5_best_71 (by decide) ?_
              refine lv_iload_n hx hb dX5_best_73 rfl (lv_at hl 2 rfl) ?_
              refine lv_iadd hx hb dX5_best_74 ?_
              refine lv_bipush (v := 17) hx hb dX5_best_75 (by decide) ?_
              obtain ⟨ho23, hv⟩ := hv
              refine fw_callVv hx hb hml hown hts hK hS [.int ((8 : Int32) + p1), .int (17 : Int32)] [] hv gX5_best_X5_copy rfl rfl rfl 2 (by decide +kernel) ⟨Nat.le_of_ble_eq_true rfl, Nat.le_of_ble_eq_true rfl⟩ rfl rfl ho23 rfl hl.1 rfl (Nat.le_of_ble_eq_true rfl) dX5_best_77 ⟨Nat.zero_le _, Nat.zero_le _⟩ (fun f24 H locs hv hS => ?_)
              refine lv_aload_n hx hb dX5_best_80 rfl (lv_at hl 1 rfl) ?_
              refine lv_bipush (v := 19) hx hb dX5_best_81 (by decide) ?_
              refine lv_lconst (v := 0) hx hb dX5_best_83 (by decide) ?_
              obtain ⟨ho25, hv⟩ := hv
              refine fw_callVv hx hb hml hown hts hK hS [.int (19 : Int32), .long (0 : Int64)] [] hv gX5_best_X5_put rfl rfl rfl 2 (by decide +kernel) ⟨Nat.le_of_ble_eq_true rfl, Nat.le_of_ble_eq_true rfl⟩ rfl rfl ho25 rfl hl.1 rfl (Nat.le_of_ble_eq_true rfl) dX5_best_84 ⟨Nat.zero_le _, Nat.zero_le _⟩ (fun f26 H locs hv hS => ?_)
              refine lv_lconst (v := 0) hx hb dX5_best_87 (by decide) ?_
              refine lv_lstore (lv' := [(6, .long (0 : Int64)), (4, .long r20), (0, .ref h), (1, .int p1), (2, .int p2), (3, .int p3)]) hx hb dX5_best_88 hl (by decide) rfl (fun ls hl => ?_)
              refine lv_lconst (v := 0) hx hb dX5_best_90 (by decide) ?_
              refine lv_lstore (lv' := [(8, .long (0 : Int64)), (6, .long (0 : Int64)), (4, .long r20), (0, .ref h), (1, .int p1), (2, .int p2), (3, .int p3)]) hx hb dX5_best_91 hl (by decide) rfl (fun ls hl => ?_)
              refine lv_lconst (v := 0) hx hb dX5_best_93 (by decide) ?_
              refine lv_lstore (lv' := [(10, .long (0 : Int64)), (8, .long (0 : Int64)), (6, .long (0 : Int64)), (4, .long r20), (0, .ref h), (1, .int p1), (2, .int p2), (3, .int p3)]) hx hb dX5_best_94 hl (by decide) rfl (fun ls hl => ?_)
              refine lv_iconst (v := 1) hx hb dX5_best_96 (by decide) ?_
              refine lv_istore (lv' := [(12, .int (1 : Int32)), (10, .long (0 : Int64)), (8, .long (0 : Int64)), (6, .long (0 : Int64)), (4, .long r20), (0, .ref h), (1, .int p1), (2, .int p2), (3, .int p3)]) hx hb dX5_best_97 hl (by decide) rfl (fun ls hl => ?_)
              exact hL99 _ _ _ _ _ _ _ _ _ _ _ _ _ hv (lv_sub hl [5, 6, 7, 8, 4, 3, 2, 1, 0] rfl) hS
            · have hv := hv.2 c12
              refine lv_ldc2 (v := (-9223372036854775808)) hx hb hown (hts _ mm_X5_best_0) dX5_best_37 ?_
              exact fw_lret hx hb hr hlk hS hv dX5_best_40
set_option maxRecDepth 100000 in
set_option maxHeartbeats 4000000 in
theorem R_X5_best_99 {E : cx} {p : Program} {e : Env} {s : State} {m : MethodId} {below : List Frame} {meth : Method} {c : Code} {f0 : hm} {zh : Nat} {zp1 : Int32} {zp2 : Int32} {zp3 : Int32} (C : wB E.2.1 vwCl (eT E) yX5_best cX5_best 14 (some .long) wsX5_best [.ref zh, .int zp1, .int zp2, .int zp3] f0 p s m meth c) (a_0 : Nat) (x_1 : Int32) (x_2 : Int32) (x_3 : Int32) (x_4 : Int64) (x_6 : Int64) (x_8 : Int64) (x_10 : Int64) (x_12 : Int32) (f : hm) {L141 : Nat → Int32 → Int32 → Int32 → Int64 → Int64 → Int64 → Int64 → Int32 → Int32 → hm → Prop} {K : Int64 → hm → Prop} (hv : X_X5_best_99 E a_0 x_1 x_2 x_3 x_4 x_6 x_8 x_10 x_12 f L141 K) {ls : Array Slot} {H : Heap} {locs : List Loc} (hl : lv_has ls 14 [(0, .ref a_0), (1, .int x_1), (2, .int x_2), (3, .int x_3), (4, .long x_4), (6, .long x_6), (8, .long x_8), (10, .long x_10), (12, .int x_12)]) (hS : wS E.2.1 vwCl (wA f0 s.heap.size) s.heap f H locs) (hL141 : ∀ (y_0 : Nat) (y_1 : Int32) (y_2 : Int32) (y_3 : Int32) (y_4 : Int64) (y_6 : Int64) (y_8 : Int64) (y_10 : Int64) (y_12 : Int32) (y_13 : Int32) (f : hm) (ls : Array Slot) (H : Heap) (locs : List Loc), L141 y_0 y_1 y_2 y_3 y_4 y_6 y_8 y_10 y_12 y_13 f → lv_has ls 14 [(0, .ref y_0), (1, .int y_1), (2, .int y_2), (3, .int y_3), (4, .long y_4), (6, .long y_6), (8, .long y_8), (10, .long y_10), (12, .int y_12), (13, .int y_13)] → wS E.2.1 vwCl (wA f0 s.heap.size) s.heap f H locs → W p E.1 e ({ frames := 4, cells := 0, slots := 0, locals := 97 }) s m ([.ref zh, .int zp1, .int zp2, .int zp3] : List Value).toArray below meth c H locs 0 0 (MQ below (wQl f0 E.2.1 vwCl K s) ([.ref zh, .int zp1, .int zp2, .int zp3] : List Value).toArray s 0 0 (wA f0 s.heap.size)) (F0 m 141 ls [])) : W p E.1 e ({ frames := 4, cells := 0, slots := 0, locals := 97 }) s m ([.ref zh, .int zp1, .int zp2, .int zp3] : List Value).toArray below meth c H locs 0 0 (MQ below (wQl f0 E.2.1 vwCl K s) ([.ref zh, .int zp1, .int zp2, .int zp3] : List Value).toArray s 0 0 (wA f0 s.heap.size)) (F0 m 99 ls []) := by
  obtain ⟨hx, hb, hml, hown, hts, hr, hlk, hnm, hK, -⟩ := C
  unfold X_X5_best_99 at hv
  refine lv_iload hx hb dX5_best_99 (lv_at hl 8 rfl) ?_
  refine lv_iload_n hx hb dX5_best_101 rfl (lv_at hl 2 rfl) ?_
  refine lv_icmp_gt (tgt := 236) hx hb dX5_best_102 (by decide) (fun c1 => ?_) (fun c1 => ?_)
  · have hv := hv.1 c1
    refine lv_iload_n hx hb dX5_best_236 rfl (lv_at hl 3 rfl) ?_
    refine lv_if_ne (tgt := 245) hx hb dX5_best_237 (by decide) (fun c2 => ?_) (fun c2 => ?_)
    · have hv := hv.1 c2
      refine lv_lload hx hb dX5_best_245 (lv_at hl 7 rfl) ?_
      exact fw_lret hx hb hr hlk hS hv dX5_best_247
    · have hv := hv.2 c2
      refine lv_lload hx hb dX5_best_240 (lv_at hl 6 rfl) ?_
      refine lv_goto (tgt := 247) hx hb dX5_best_242 (by decide) ?_
      exact fw_lret hx hb hr hlk hS hv dX5_best_247
  · have hv := hv.2 c1
    refine lv_aload_n hx hb dX5_best_105 rfl (lv_at hl 0 rfl) ?_
    refine lv_bipush (v := 19) hx hb dX5_best_106 (by decide) ?_
    refine lv_bipush (v := 16) hx hb dX5_best_108 (by decide) ?_
    obtain ⟨ho3, hv⟩ := hv
    refine fw_callVv hx hb hml hown hts hK hS [.int (19 : Int32), .int (16 : Int32)] [] hv gX5_best_X5_plus rfl rfl rfl 2 (by decide +kernel) ⟨Nat.le_of_ble_eq_true rfl, Nat.le_of_ble_eq_true rfl⟩ rfl rfl ho3 rfl hl.1 rfl (Nat.le_of_ble_eq_true rfl) dX5_best_110 ⟨Nat.zero_le _, Nat.zero_le _⟩ (fun f4 H locs hv hS => ?_)
    refine lv_aload_n hx hb dX5_best_113 rfl (lv_at hl 0 rfl) ?_
    refine lv_bipush (v := 19) hx hb dX5_best_114 (by decide) ?_
    refine lv_bipush (v := 17) hx hb dX5_best_116 (by decide) ?_
    obtain ⟨ho5, hv⟩ := hv
    refine fw_callVi hx hb hml hown hts hK hS [.int (19 : Int32), .int (17 : Int32)] [] hv gX5_best_X5_compare rfl rfl rfl 2 (by decide +kernel) ⟨Nat.le_of_ble_eq_true rfl, Nat.le_of_ble_eq_true rfl⟩ rfl rfl ho5 rfl hl.1 rfl (Nat.le_of_ble_eq_true rfl) dX5_best_118 ⟨Nat.zero_le _, Nat.zero_le _⟩ (fun r7 f6 H locs hv hS => ?_)
    refine lv_if_lt (tgt := 138) hx hb dX5_best_121 (by decide) (fun c8 => ?_) (fun c8 => ?_)
    · have hv := hv.1 c8
      refine lv_iconst (v := 0) hx hb dX5_best_138 (by decide) ?_
      refine lv_istore (lv' := [(13, .int (0 : Int32)), (0, .ref a_0), (1, .int x_1), (2, .int x_2), (3, .int x_3), (4, .long x_4), (6, .long x_6), (8, .long x_8), (10, .long x_10), (12, .int x_12)]) hx hb dX5_best_139 hl (by decide) rfl (fun ls hl => ?_)
      exact hL141 _ _ _ _ _ _ _ _ _ _ _ _ _ _ hv (lv_sub hl [1, 2, 3, 4, 5, 6, 7, 8, 9, 0] rfl) hS
    · have hv := hv.2 c8
      refine lv_aload_n hx hb dX5_best_124 rfl (lv_at hl 0 rfl) ?_
      refine lv_bipush (v := 19) hx hb dX5_best_125 (by decide) ?_
      refine lv_bipush (v := 17) hx hb dX5_best_127 (by decide) ?_
      obtain ⟨ho9, hv⟩ := hv
      refine fw_callVv hx hb hml hown hts hK hS [.int (19 : Int32), .int (17 : Int32)] [] hv gX5_best_X5_lessen rfl rfl rfl 2 (by decide +kernel) ⟨Nat.le_of_ble_eq_true rfl, Nat.le_of_ble_eq_true rfl⟩ rfl rfl ho9 rfl hl.1 rfl (Nat.le_of_ble_eq_true rfl) dX5_best_129 ⟨Nat.zero_le _, Nat.zero_le _⟩ (fun f10 H locs hv hS => ?_)
      refine lv_lload hx hb dX5_best_132 (lv_at hl 5 rfl) ?_
      refine lv_lconst (v := 1) hx hb dX5_best_134 (by decide) ?_
      refine lv_ladd hx hb dX5_best_135 ?_
      refine lv_topl (fun x11 ex11 => ?_)
      have hv := hv x11 ex11
      refine lv_lstore (lv' := [(6, .long x11), (0, .ref a_0), (1, .int x_1), (2, .int x_2), (3, .int x_3), (4, .long x_4), (8, .long x_8), (10, .long x_10), (12, .int x_12)]) hx hb dX5_best_136 hl (by decide) rfl (fun ls hl => ?_)
      refine lv_iconst (v := 0) hx hb dX5_best_138 (by decide) ?_
      refine lv_istore (lv' := [(13, .int (0 : Int32)), (6, .long x11), (0, .ref a_0), (1, .int x_1), (2, .int x_2), (3, .int x_3), (4, .long x_4), (8, .long x_8), (10, .long x_10), (12, .int x_12)]) hx hb dX5_best_139 hl (by decide) rfl (fun ls hl => ?_)
      exact hL141 _ _ _ _ _ _ _ _ _ _ _ _ _ _ hv (lv_sub hl [2, 3, 4, 5, 6, 1, 7, 8, 9, 0] rfl) hS
set_option maxRecDepth 100000 in
set_option maxHeartbeats 4000000 in
theorem R_X5_best_141 {E : cx} {p : Program} {e : Env} {s : State} {m : MethodId} {below : List Frame} {meth : Method} {c : Code} {f0 : hm} {zh : Nat} {zp1 : Int32} {zp2 : Int32} {zp3 : Int32} (C : wB E.2.1 vwCl (eT E) yX5_best cX5_best 14 (some .long) wsX5_best [.ref zh, .int zp1, .int zp2, .int zp3] f0 p s m meth c) (a_0 : Nat) (x_1 : Int32) (x_2 : Int32) (x_3 : Int32) (x_4 : Int64) (x_6 : Int64) (x_8 : Int64) (x_10 : Int64) (x_12 : Int32) (x_13 : Int32) (f : hm) {L99 : Nat → Int32 → Int32 → Int32 → Int64 → Int64 → Int64 → Int64 → Int32 → hm → Prop} {L141 : Nat → Int32 → Int32 → Int32 → Int64 → Int64 → Int64 → Int64 → Int32 → Int32 → hm → Prop} {K : Int64 → hm → Prop} (hv : X_X5_best_141 E a_0 x_1 x_2 x_3 x_4 x_6 x_8 x_10 x_12 x_13 f L99 L141 K) {ls : Array Slot} {H : Heap} {locs : List Loc} (hl : lv_has ls 14 [(0, .ref a_0), (1, .int x_1), (2, .int x_2), (3, .int x_3), (4, .long x_4), (6, .long x_6), (8, .long x_8), (10, .long x_10), (12, .int x_12), (13, .int x_13)]) (hS : wS E.2.1 vwCl (wA f0 s.heap.size) s.heap f H locs) (hL99 : ∀ (y_0 : Nat) (y_1 : Int32) (y_2 : Int32) (y_3 : Int32) (y_4 : Int64) (y_6 : Int64) (y_8 : Int64) (y_10 : Int64) (y_12 : Int32) (f : hm) (ls : Array Slot) (H : Heap) (locs : List Loc), L99 y_0 y_1 y_2 y_3 y_4 y_6 y_8 y_10 y_12 f → lv_has ls 14 [(0, .ref y_0), (1, .int y_1), (2, .int y_2), (3, .int y_3), (4, .long y_4), (6, .long y_6), (8, .long y_8), (10, .long y_10), (12, .int y_12)] → wS E.2.1 vwCl (wA f0 s.heap.size) s.heap f H locs → W p E.1 e ({ frames := 4, cells := 0, slots := 0, locals := 97 }) s m ([.ref zh, .int zp1, .int zp2, .int zp3] : List Value).toArray below meth c H locs 0 0 (MQ below (wQl f0 E.2.1 vwCl K s) ([.ref zh, .int zp1, .int zp2, .int zp3] : List Value).toArray s 0 0 (wA f0 s.heap.size)) (F0 m 99 ls [])) (hL141 : ∀ (y_0 : Nat) (y_1 : Int32) (y_2 : Int32) (y_3 : Int32) (y_4 : Int64) (y_6 : Int64) (y_8 : Int64) (y_10 : Int64) (y_12 : Int32) (y_13 : Int32) (f : hm) (ls : Array Slot) (H : Heap) (locs : List Loc), L141 y_0 y_1 y_2 y_3 y_4 y_6 y_8 y_10 y_12 y_13 f → lv_has ls 14 [(0, .ref y_0), (1, .int y_1), (2, .int y_2), (3, .int y_3), (4, .long y_4), (6, .long y_6), (8, .long y_8), (10, .long y_10), (12, .int y_12), (13, .int y_13)] → wS E.2.1 vwCl (wA f0 s.heap.size) s.heap f H locs → W p E.1 e ({ frames := 4, cells := 0, slots := 0, locals := 97 }) s m ([.ref zh, .int zp1, .int zp2, .int zp3] : List Value).toArray below meth c H locs 0 0 (MQ below (wQl f0 E.2.1 vwCl K s) ([.ref zh, .int zp1, .int zp2, .int zp3] : List Value).toArray s 0 0 (wA f0 s.heap.size)) (F0 m 141 ls [])) : W p E.1 e ({ frames := 4, cells := 0, slots := 0, locals := 97 }) s m ([.ref zh, .int zp1, .int zp2, .int zp3] : List Value).toArray below meth c H locs 0 0 (MQ below (wQl f0 E.2.1 vwCl K s) ([.ref zh, .int zp1, .int zp2, .int zp3] : List Value).toArray s 0 0 (wA f0 s.heap.size)) (F0 m 141 ls []) := by
  obtain ⟨hx, hb, hml, hown, hts, hr, hlk, hnm, hK, -⟩ := C
  unfold X_X5_best_141 at hv
  refine lv_iload hx hb dX5_best_141 (lv_at hl 9 rfl) ?_
  refine lv_iconst (v := 2) hx hb dX5_best_143 (by decide) ?_
  refine lv_icmp_ge (tgt := 230) hx hb dX5_best_144 (by decide) (fun c1 => ?_) (fun c1 => ?_)
  · have hv := hv.1 c1
    obtain ⟨x2, ex2⟩ : ∃ y : Int32, y = x_12 + (1) := ⟨_, rfl⟩
    have hv := hv x2 ex2
    refine lv_iinc (v := x2) (lv' := [(12, .int x2), (0, .ref a_0), (1, .int x_1), (2, .int x_2), (3, .int x_3), (4, .long x_4), (6, .long x_6), (8, .long x_8), (10, .long x_10), (13, .int x_13)]) hx hb dX5_best_230 hl (k := 8) rfl (by rw [ex2]; rfl) (by decide) rfl (fun ls hl => ?_)
    refine lv_goto (tgt := 99) hx hb dX5_best_233 (by decide) ?_
    exact hL99 _ _ _ _ _ _ _ _ _ _ _ _ _ hv (lv_sub hl [1, 2, 3, 4, 5, 6, 7, 8, 0] rfl) hS
  · have hv := hv.2 c1
    refine lv_aload_n hx hb dX5_best_147 rfl (lv_at hl 0 rfl) ?_
    refine lv_bipush (v := 19) hx hb dX5_best_148 (by decide) ?_
    refine lv_bipush (v := 18) hx hb dX5_best_150 (by decide) ?_
    obtain ⟨ho3, hv⟩ := hv
    refine fw_callVv hx hb hml hown hts hK hS [.int (19 : Int32), .int (18 : Int32)] [] hv gX5_best_X5_copy rfl rfl rfl 2 (by decide +kernel) ⟨Nat.le_of_ble_eq_true rfl, Nat.le_of_ble_eq_true rfl⟩ rfl rfl ho3 rfl hl.1 rfl (Nat.le_of_ble_eq_true rfl) dX5_best_152 ⟨Nat.zero_le _, Nat.zero_le _⟩ (fun f4 H locs hv hS => ?_)
    refine lv_iload hx hb dX5_best_155 (lv_at hl 9 rfl) ?_
    refine lv_iconst (v := 1) hx hb dX5_best_157 (by decide) ?_
    refine lv_icmp_ne (tgt := 177) hx hb dX5_best_158 (by decide) (fun c5 => ?_) (fun c5 => ?_)
    · have hv := hv.1 c5
      refine lv_lload hx hb dX5_best_177 (lv_at hl 7 rfl) ?_
      refine lv_lconst (v := 0) hx hb dX5_best_179 (by decide) ?_
      refine W.lcmp hx hb dX5_best_180 ?_
      refine lv_if_eq (tgt := 196) hx hb dX5_best_181 (by decide) (fun c6 => ?_) (fun c6 => ?_)
      · have hv := hv.1 c6
        refine lv_aload_n hx hb dX5_best_196 rfl (lv_at hl 0 rfl) ?_
        refine lv_bipush (v := 18) hx hb dX5_best_197 (by decide) ?_
        refine lv_bipush (v := 26) hx hb dX5_best_199 (by decide) ?_
        obtain ⟨ho7, hv⟩ := hv
        refine fw_callVv hx hb hml hown hts hK hS [.int (18 : Int32), .int (26 : Int32)] [] hv gX5_best_X5_copy rfl rfl rfl 2 (by decide +kernel) ⟨Nat.le_of_ble_eq_true rfl, Nat.le_of_ble_eq_true rfl⟩ rfl rfl ho7 rfl hl.1 rfl (Nat.le_of_ble_eq_true rfl) dX5_best_201 ⟨Nat.zero_le _, Nat.zero_le _⟩ (fun f8 H locs hv hS => ?_)
        refine lv_lload hx hb dX5_best_204 (lv_at hl 4 rfl) ?_
        refine lv_iload hx hb dX5_best_206 (lv_at hl 8 rfl) ?_
        refine lv_i2l hx hb dX5_best_208 rfl ?_
        refine lv_lmul hx hb dX5_best_209 ?_
        refine lv_lload hx hb dX5_best_210 (lv_at hl 5 rfl) ?_
        refine lv_ladd hx hb dX5_best_212 ?_
        refine lv_iload hx hb dX5_best_213 (lv_at hl 9 rfl) ?_
        refine lv_i2l hx hb dX5_best_215 rfl ?_
        refine lv_ladd hx hb dX5_best_216 ?_
        refine lv_topl (fun x9 ex9 => ?_)
        have hv := hv x9 ex9
        refine lv_lstore (lv' := [(8, .long x9), (0, .ref a_0), (1, .int x_1), (2, .int x_2), (3, .int x_3), (4, .long x_4), (6, .long x_6), (10, .long x_10), (12, .int x_12), (13, .int x_13)]) hx hb dX5_best_217 hl (by decide) rfl (fun ls hl => ?_)
        refine lv_iload hx hb dX5_best_219 (lv_at hl 8 rfl) ?_
        refine lv_i2l hx hb dX5_best_221 rfl ?_
        refine lv_lstore (lv' := [(10, .long x_12.toInt64), (8, .long x9), (0, .ref a_0), (1, .int x_1), (2, .int x_2), (3, .int x_3), (4, .long x_4), (6, .long x_6), (12, .int x_12), (13, .int x_13)]) hx hb dX5_best_222 hl (by decide) rfl (fun ls hl => ?_)
        obtain ⟨x10, ex10⟩ : ∃ y : Int32, y = x_13 + (1) := ⟨_, rfl⟩
        have hv := hv x10 ex10
        refine lv_iinc (v := x10) (lv' := [(13, .int x10), (10, .long x_12.toInt64), (8, .long x9), (0, .ref a_0), (1, .int x_1), (2, .int x_2), (3, .int x_3), (4, .long x_4), (6, .long x_6), (12, .int x_12)]) hx hb dX5_best_224 hl (k := 9) rfl (by rw [ex10]; rfl) (by decide) rfl (fun ls hl => ?_)
        refine lv_goto (tgt := 141) hx hb dX5_best_227 (by decide) ?_
        exact hL141 _ _ _ _ _ _ _ _ _ _ _ _ _ _ hv (lv_sub hl [3, 4, 5, 6, 7, 8, 2, 1, 9, 0] rfl) hS
      · have hv := hv.2 c6
        refine lv_aload_n hx hb dX5_best_184 rfl (lv_at hl 0 rfl) ?_
        refine lv_iload hx hb dX5_best_185 (lv_at hl 8 rfl) ?_
        refine lv_lload hx hb dX5_best_187 (lv_at hl 7 rfl) ?_
        refine lv_l2i hx hb dX5_best_189 rfl ?_
        obtain ⟨ho11, hv⟩ := hv
        refine fw_callVi hx hb hml hown hts hK hS [.int x_12, .int x_10.toInt32] [] hv gX5_best_X5_farther rfl rfl rfl 2 (by decide +kernel) ⟨Nat.le_of_ble_eq_true rfl, Nat.le_of_ble_eq_true rfl⟩ rfl rfl ho11 rfl hl.1 rfl (Nat.le_of_ble_eq_true rfl) dX5_best_190 ⟨Nat.zero_le _, Nat.zero_le _⟩ (fun r13 f12 H locs hv hS => ?_)
        refine lv_if_ge (tgt := 224) hx hb dX5_best_193 (by decide) (fun c14 => ?_) (fun c14 => ?_)
        · have hv := hv.1 c14
          obtain ⟨x15, ex15⟩ : ∃ y : Int32, y = x_13 + (1) := ⟨_, rfl⟩
          have hv := hv x15 ex15
          refine lv_iinc (v := x15) (lv' := [(13, .int x15), (0, .ref a_0), (1, .int x_1), (2, .int x_2), (3, .int x_3), (4, .long x_4), (6, .long x_6), (8, .long x_8), (10, .long x_10), (12, .int x_12)]) hx hb dX5_best_224 hl (k := 9) rfl (by rw [ex15]; rfl) (by decide) rfl (fun ls hl => ?_)
          refine lv_goto (tgt := 141) hx hb dX5_best_227 (by decide) ?_
          exact hL141 _ _ _ _ _ _ _ _ _ _ _ _ _ _ hv (lv_sub hl [1, 2, 3, 4, 5, 6, 7, 8, 9, 0] rfl) hS
        · have hv := hv.2 c14
          refine lv_aload_n hx hb dX5_best_196 rfl (lv_at hl 0 rfl) ?_
          refine lv_bipush (v := 18) hx hb dX5_best_197 (by decide) ?_
          refine lv_bipush (v := 26) hx hb dX5_best_199 (by decide) ?_
          obtain ⟨ho16, hv⟩ := hv
          refine fw_callVv hx hb hml hown hts hK hS [.int (18 : Int32), .int (26 : Int32)] [] hv gX5_best_X5_copy rfl rfl rfl 2 (by decide +kernel) ⟨Nat.le_of_ble_eq_true rfl, Nat.le_of_ble_eq_true rfl⟩ rfl rfl ho16 rfl hl.1 rfl (Nat.le_of_ble_eq_true rfl) dX5_best_201 ⟨Nat.zero_le _, Nat.zero_le _⟩ (fun f17 H locs hv hS => ?_)
          refine lv_lload hx hb dX5_best_204 (lv_at hl 4 rfl) ?_
          refine lv_iload hx hb dX5_best_206 (lv_at hl 8 rfl) ?_
          refine lv_i2l hx hb dX5_best_208 rfl ?_
          refine lv_lmul hx hb dX5_best_209 ?_
          refine lv_lload hx hb dX5_best_210 (lv_at hl 5 rfl) ?_
          refine lv_ladd hx hb dX5_best_212 ?_
          refine lv_iload hx hb dX5_best_213 (lv_at hl 9 rfl) ?_
          refine lv_i2l hx hb dX5_best_215 rfl ?_
          refine lv_ladd hx hb dX5_best_216 ?_
          refine lv_topl (fun x18 ex18 => ?_)
          have hv := hv x18 ex18
          refine lv_lstore (lv' := [(8, .long x18), (0, .ref a_0), (1, .int x_1), (2, .int x_2), (3, .int x_3), (4, .long x_4), (6, .long x_6), (10, .long x_10), (12, .int x_12), (13, .int x_13)]) hx hb dX5_best_217 hl (by decide) rfl (fun ls hl => ?_)
          refine lv_iload hx hb dX5_best_219 (lv_at hl 8 rfl) ?_
          refine lv_i2l hx hb dX5_best_221 rfl ?_
          refine lv_lstore (lv' := [(10, .long x_12.toInt64), (8, .long x18), (0, .ref a_0), (1, .int x_1), (2, .int x_2), (3, .int x_3), (4, .long x_4), (6, .long x_6), (12, .int x_12), (13, .int x_13)]) hx hb dX5_best_222 hl (by decide) rfl (fun ls hl => ?_)
          obtain ⟨x19, ex19⟩ : ∃ y : Int32, y = x_13 + (1) := ⟨_, rfl⟩
          have hv := hv x19 ex19
          refine lv_iinc (v := x19) (lv' := [(13, .int x19), (10, .long x_12.toInt64), (8, .long x18), (0, .ref a_0), (1, .int x_1), (2, .int x_2), (3, .int x_3), (4, .long x_4), (6, .long x_6), (12, .int x_12)]) hx hb dX5_best_224 hl (k := 9) rfl (by rw [ex19]; rfl) (by decide) rfl (fun ls hl => ?_)
          refine lv_goto (tgt := 141) hx hb dX5_best_227 (by decide) ?_
          exact hL141 _ _ _ _ _ _ _ _ _ _ _ _ _ _ hv (lv_sub hl [3, 4, 5, 6, 7, 8, 2, 1, 9, 0] rfl) hS
    · have hv := hv.2 c5
      refine lv_aload_n hx hb dX5_best_161 rfl (lv_at hl 0 rfl) ?_
      refine lv_bipush (v := 17) hx hb dX5_best_162 (by decide) ?_
      refine lv_bipush (v := 18) hx hb dX5_best_164 (by decide) ?_
      obtain ⟨ho20, hv⟩ := hv
      refine fw_callVv hx hb hml hown hts hK hS [.int (17 : Int32), .int (18 : Int32)] [] hv gX5_best_X5_copy rfl rfl rfl 2 (by decide +kernel) ⟨Nat.le_of_ble_eq_true rfl, Nat.le_of_ble_eq_true rfl⟩ rfl rfl ho20 rfl hl.1 rfl (Nat.le_of_ble_eq_true rfl) dX5_best_166 ⟨Nat.zero_le _, Nat.zero_le _⟩ (fun f21 H locs hv hS => ?_)
      refine lv_aload_n hx hb dX5_best_169 rfl (lv_at hl 0 rfl) ?_
      refine lv_bipush (v := 18) hx hb dX5_best_170 (by decide) ?_
      refine lv_bipush (v := 19) hx hb dX5_best_172 (by decide) ?_
      obtain ⟨ho22, hv⟩ := hv
      refine fw_callVv hx hb hml hown hts hK hS [.int (18 : Int32), .int (19 : Int32)] [] hv gX5_best_X5_lessen rfl rfl rfl 2 (by decide +kernel) ⟨Nat.le_of_ble_eq_true rfl, Nat.le_of_ble_eq_true rfl⟩ rfl rfl ho22 rfl hl.1 rfl (Nat.le_of_ble_eq_true rfl) dX5_best_174 ⟨Nat.zero_le _, Nat.zero_le _⟩ (fun f23 H locs hv hS => ?_)
      refine lv_lload hx hb dX5_best_177 (lv_at hl 7 rfl) ?_
      refine lv_lconst (v := 0) hx hb dX5_best_179 (by decide) ?_
      refine W.lcmp hx hb dX5_best_180 ?_
      refine lv_if_eq (tgt := 196) hx hb dX5_best_181 (by decide) (fun c24 => ?_) (fun c24 => ?_)
      · have hv := hv.1 c24
        refine lv_aload_n hx hb dX5_best_196 rfl (lv_at hl 0 rfl) ?_
        refine lv_bipush (v := 18) hx hb dX5_best_197 (by decide) ?_
        refine lv_bipush (v := 26) hx hb dX5_best_199 (by decide) ?_
        obtain ⟨ho25, hv⟩ := hv
        refine fw_callVv hx hb hml hown hts hK hS [.int (18 : Int32), .int (26 : Int32)] [] hv gX5_best_X5_copy rfl rfl rfl 2 (by decide +kernel) ⟨Nat.le_of_ble_eq_true rfl, Nat.le_of_ble_eq_true rfl⟩ rfl rfl ho25 rfl hl.1 rfl (Nat.le_of_ble_eq_true rfl) dX5_best_201 ⟨Nat.zero_le _, Nat.zero_le _⟩ (fun f26 H locs hv hS => ?_)
        refine lv_lload hx hb dX5_best_204 (lv_at hl 4 rfl) ?_
        refine lv_iload hx hb dX5_best_206 (lv_at hl 8 rfl) ?_
        refine lv_i2l hx hb dX5_best_208 rfl ?_
        refine lv_lmul hx hb dX5_best_209 ?_
        refine lv_lload hx hb dX5_best_210 (lv_at hl 5 rfl) ?_
        refine lv_ladd hx hb dX5_best_212 ?_
        refine lv_iload hx hb dX5_best_213 (lv_at hl 9 rfl) ?_
        refine lv_i2l hx hb dX5_best_215 rfl ?_
        refine lv_ladd hx hb dX5_best_216 ?_
        refine lv_topl (fun x27 ex27 => ?_)
        have hv := hv x27 ex27
        refine lv_lstore (lv' := [(8, .long x27), (0, .ref a_0), (1, .int x_1), (2, .int x_2), (3, .int x_3), (4, .long x_4), (6, .long x_6), (10, .long x_10), (12, .int x_12), (13, .int x_13)]) hx hb dX5_best_217 hl (by decide) rfl (fun ls hl => ?_)
        refine lv_iload hx hb dX5_best_219 (lv_at hl 8 rfl) ?_
        refine lv_i2l hx hb dX5_best_221 rfl ?_
        refine lv_lstore (lv' := [(10, .long x_12.toInt64), (8, .long x27), (0, .ref a_0), (1, .int x_1), (2, .int x_2), (3, .int x_3), (4, .long x_4), (6, .long x_6), (12, .int x_12), (13, .int x_13)]) hx hb dX5_best_222 hl (by decide) rfl (fun ls hl => ?_)
        obtain ⟨x28, ex28⟩ : ∃ y : Int32, y = x_13 + (1) := ⟨_, rfl⟩
        have hv := hv x28 ex28
        refine lv_iinc (v := x28) (lv' := [(13, .int x28), (10, .long x_12.toInt64), (8, .long x27), (0, .ref a_0), (1, .int x_1), (2, .int x_2), (3, .int x_3), (4, .long x_4), (6, .long x_6), (12, .int x_12)]) hx hb dX5_best_224 hl (k := 9) rfl (by rw [ex28]; rfl) (by decide) rfl (fun ls hl => ?_)
        refine lv_goto (tgt := 141) hx hb dX5_best_227 (by decide) ?_
        exact hL141 _ _ _ _ _ _ _ _ _ _ _ _ _ _ hv (lv_sub hl [3, 4, 5, 6, 7, 8, 2, 1, 9, 0] rfl) hS
      · have hv := hv.2 c24
        refine lv_aload_n hx hb dX5_best_184 rfl (lv_at hl 0 rfl) ?_
        refine lv_iload hx hb dX5_best_185 (lv_at hl 8 rfl) ?_
        refine lv_lload hx hb dX5_best_187 (lv_at hl 7 rfl) ?_
        refine lv_l2i hx hb dX5_best_189 rfl ?_
        obtain ⟨ho29, hv⟩ := hv
        refine fw_callVi hx hb hml hown hts hK hS [.int x_12, .int x_10.toInt32] [] hv gX5_best_X5_farther rfl rfl rfl 2 (by decide +kernel) ⟨Nat.le_of_ble_eq_true rfl, Nat.le_of_ble_eq_true rfl⟩ rfl rfl ho29 rfl hl.1 rfl (Nat.le_of_ble_eq_true rfl) dX5_best_190 ⟨Nat.zero_le _, Nat.zero_le _⟩ (fun r31 f30 H locs hv hS => ?_)
        refine lv_if_ge (tgt := 224) hx hb dX5_best_193 (by decide) (fun c32 => ?_) (fun c32 => ?_)
        · have hv := hv.1 c32
          obtain ⟨x33, ex33⟩ : ∃ y : Int32, y = x_13 + (1) := ⟨_, rfl⟩
          have hv := hv x33 ex33
          refine lv_iinc (v := x33) (lv' := [(13, .int x33), (0, .ref a_0), (1, .int x_1), (2, .int x_2), (3, .int x_3), (4, .long x_4), (6, .long x_6), (8, .long x_8), (10, .long x_10), (12, .int x_12)]) hx hb dX5_best_224 hl (k := 9) rfl (by rw [ex33]; rfl) (by decide) rfl (fun ls hl => ?_)
          refine lv_goto (tgt := 141) hx hb dX5_best_227 (by decide) ?_
          exact hL141 _ _ _ _ _ _ _ _ _ _ _ _ _ _ hv (lv_sub hl [1, 2, 3, 4, 5, 6, 7, 8, 9, 0] rfl) hS
        · have hv := hv.2 c32
          refine lv_aload_n hx hb dX5_best_196 rfl (lv_at hl 0 rfl) ?_
          refine lv_bipush (v := 18) hx hb dX5_best_197 (by decide) ?_
          refine lv_bipush (v := 26) hx hb dX5_best_199 (by decide) ?_
          obtain ⟨ho34, hv⟩ := hv
          refine fw_callVv hx hb hml hown hts hK hS [.int (18 : Int32), .int (26 : Int32)] [] hv gX5_best_X5_copy rfl rfl rfl 2 (by decide +kernel) ⟨Nat.le_of_ble_eq_true rfl, Nat.le_of_ble_eq_true rfl⟩ rfl rfl ho34 rfl hl.1 rfl (Nat.le_of_ble_eq_true rfl) dX5_best_201 ⟨Nat.zero_le _, Nat.zero_le _⟩ (fun f35 H locs hv hS => ?_)
          refine lv_lload hx hb dX5_best_204 (lv_at hl 4 rfl) ?_
          refine lv_iload hx hb dX5_best_206 (lv_at hl 8 rfl) ?_
          refine lv_i2l hx hb dX5_best_208 rfl ?_
          refine lv_lmul hx hb dX5_best_209 ?_
          refine lv_lload hx hb dX5_best_210 (lv_at hl 5 rfl) ?_
          refine lv_ladd hx hb dX5_best_212 ?_
          refine lv_iload hx hb dX5_best_213 (lv_at hl 9 rfl) ?_
          refine lv_i2l hx hb dX5_best_215 rfl ?_
          refine lv_ladd hx hb dX5_best_216 ?_
          refine lv_topl (fun x36 ex36 => ?_)
          have hv := hv x36 ex36
          refine lv_lstore (lv' := [(8, .long x36), (0, .ref a_0), (1, .int x_1), (2, .int x_2), (3, .int x_3), (4, .long x_4), (6, .long x_6), (10, .long x_10), (12, .int x_12), (13, .int x_13)]) hx hb dX5_best_217 hl (by decide) rfl (fun ls hl => ?_)
          refine lv_iload hx hb dX5_best_219 (lv_at hl 8 rfl) ?_
          refine lv_i2l hx hb dX5_best_221 rfl ?_
          refine lv_lstore (lv' := [(10, .long x_12.toInt64), (8, .long x36), (0, .ref a_0), (1, .int x_1), (2, .int x_2), (3, .int x_3), (4, .long x_4), (6, .long x_6), (12, .int x_12), (13, .int x_13)]) hx hb dX5_best_222 hl (by decide) rfl (fun ls hl => ?_)
          obtain ⟨x37, ex37⟩ : ∃ y : Int32, y = x_13 + (1) := ⟨_, rfl⟩
          have hv := hv x37 ex37
          refine lv_iinc (v := x37) (lv' := [(13, .int x37), (10, .long x_12.toInt64), (8, .long x36), (0, .ref a_0), (1, .int x_1), (2, .int x_2), (3, .int x_3), (4, .long x_4), (6, .long x_6), (12, .int x_12)]) hx hb dX5_best_224 hl (k := 9) rfl (by rw [ex37]; rfl) (by decide) rfl (fun ls hl => ?_)
          refine lv_goto (tgt := 141) hx hb dX5_best_227 (by decide) ?_
          exact hL141 _ _ _ _ _ _ _ _ _ _ _ _ _ _ hv (lv_sub hl [3, 4, 5, 6, 7, 8, 2, 1, 9, 0] rfl) hS
set_option maxRecDepth 100000 in
set_option maxHeartbeats 4000000 in
theorem T_X5_best {E : cx} {h : Nat} {p1 : Int32} {p2 : Int32} {p3 : Int32} {f : hm} {K : Int64 → hm → Prop} (I99 : Nat → Nat → Int32 → Int32 → Int32 → Int64 → Int64 → Int64 → Int64 → Int32 → hm → Prop) (I141 : Nat → Nat → Int32 → Int32 → Int32 → Int64 → Int64 → Int64 → Int64 → Int32 → Int32 → hm → Prop) (h0 : X_X5_best_0 E h p1 p2 p3 f (fun (y_0 : Nat) (y_1 : Int32) (y_2 : Int32) (y_3 : Int32) (y_4 : Int64) (y_6 : Int64) (y_8 : Int64) (y_10 : Int64) (y_12 : Int32) (f : hm) => ∃ k : Nat, I99 k y_0 y_1 y_2 y_3 y_4 y_6 y_8 y_10 y_12 f) K) (h99 : ∀ (n : Nat) (a_0 : Nat) (x_1 : Int32) (x_2 : Int32) (x_3 : Int32) (x_4 : Int64) (x_6 : Int64) (x_8 : Int64) (x_10 : Int64) (x_12 : Int32) (f : hm), I99 n a_0 x_1 x_2 x_3 x_4 x_6 x_8 x_10 x_12 f → X_X5_best_99 E a_0 x_1 x_2 x_3 x_4 x_6 x_8 x_10 x_12 f (fun (y_0 : Nat) (y_1 : Int32) (y_2 : Int32) (y_3 : Int32) (y_4 : Int64) (y_6 : Int64) (y_8 : Int64) (y_10 : Int64) (y_12 : Int32) (y_13 : Int32) (f : hm) => ∃ k : Nat, k < n ∧ I141 k y_0 y_1 y_2 y_3 y_4 y_6 y_8 y_10 y_12 y_13 f) K) (h141 : ∀ (n : Nat) (a_0 : Nat) (x_1 : Int32) (x_2 : Int32) (x_3 : Int32) (x_4 : Int64) (x_6 : Int64) (x_8 : Int64) (x_10 : Int64) (x_12 : Int32) (x_13 : Int32) (f : hm), I141 n a_0 x_1 x_2 x_3 x_4 x_6 x_8 x_10 x_12 x_13 f → X_X5_best_141 E a_0 x_1 x_2 x_3 x_4 x_6 x_8 x_10 x_12 x_13 f (fun (y_0 : Nat) (y_1 : Int32) (y_2 : Int32) (y_3 : Int32) (y_4 : Int64) (y_6 : Int64) (y_8 : Int64) (y_10 : Int64) (y_12 : Int32) (f : hm) => ∃ k : Nat, k < n ∧ I99 k y_0 y_1 y_2 y_3 y_4 y_6 y_8 y_10 y_12 f) (fun (y_0 : Nat) (y_1 : Int32) (y_2 : Int32) (y_3 : Int32) (y_4 : Int64) (y_6 : Int64) (y_8 : Int64) (y_10 : Int64) (y_12 : Int32) (y_13 : Int32) (f : hm) => ∃ k : Nat, k < n ∧ I141 k y_0 y_1 y_2 y_3 y_4 y_6 y_8 y_10 y_12 y_13 f) K) : S_X5_best E h p1 p2 p3 f K := by
  refine ML_of (cc := cX5_best) (maxL := 14) (ret := (some .long)) (by decide) rfl ?_
  intro p e s m below meth c C
  have hl := lv_entry ([.ref h, .int p1, .int p2, .int p3]) (n := 14) (Nat.le_of_ble_eq_true rfl)
  rw [lg_entry_eq]
  generalize (lg_sl ([.ref h, .int p1, .int p2, .int p3]) ++ List.replicate (14 - (lg_sl ([.ref h, .int p1, .int p2, .int p3])).length) Slot.unset).toArray = ls at hl ⊢
  have hl : lv_has ls 14 [(0, .ref h), (1, .int p1), (2, .int p2), (3, .int p3)] := hl
  have hS := C.2.2.2.2.2.2.2.2.2
  have key : ∀ n : Nat, (∀ (a_0 : Nat) (x_1 : Int32) (x_2 : Int32) (x_3 : Int32) (x_4 : Int64) (x_6 : Int64) (x_8 : Int64) (x_10 : Int64) (x_12 : Int32) (g : hm) (ls : Array Slot) (H : Heap) (locs : List Loc), I99 n a_0 x_1 x_2 x_3 x_4 x_6 x_8 x_10 x_12 g → lv_has ls 14 [(0, .ref a_0), (1, .int x_1), (2, .int x_2), (3, .int x_3), (4, .long x_4), (6, .long x_6), (8, .long x_8), (10, .long x_10), (12, .int x_12)] → wS E.2.1 vwCl (wA f s.heap.size) s.heap g H locs → W p E.1 e ({ frames := 4, cells := 0, slots := 0, locals := 97 }) s m ([.ref h, .int p1, .int p2, .int p3] : List Value).toArray below meth c H locs 0 0 (MQ below (wQl f E.2.1 vwCl K s) ([.ref h, .int p1, .int p2, .int p3] : List Value).toArray s 0 0 (wA f s.heap.size)) (F0 m 99 ls [])) ∧ (∀ (a_0 : Nat) (x_1 : Int32) (x_2 : Int32) (x_3 : Int32) (x_4 : Int64) (x_6 : Int64) (x_8 : Int64) (x_10 : Int64) (x_12 : Int32) (x_13 : Int32) (g : hm) (ls : Array Slot) (H : Heap) (locs : List Loc), I141 n a_0 x_1 x_2 x_3 x_4 x_6 x_8 x_10 x_12 x_13 g → lv_has ls 14 [(0, .ref a_0), (1, .int x_1), (2, .int x_2), (3, .int x_3), (4, .long x_4), (6, .long x_6), (8, .long x_8), (10, .long x_10), (12, .int x_12), (13, .int x_13)] → wS E.2.1 vwCl (wA f s.heap.size) s.heap g H locs → W p E.1 e ({ frames := 4, cells := 0, slots := 0, locals := 97 }) s m ([.ref h, .int p1, .int p2, .int p3] : List Value).toArray below meth c H locs 0 0 (MQ below (wQl f E.2.1 vwCl K s) ([.ref h, .int p1, .int p2, .int p3] : List Value).toArray s 0 0 (wA f s.heap.size)) (F0 m 141 ls [])) := by
    refine st_ind (fun n ih => ?_)
    refine ⟨?_, ?_⟩
    · intro a_0 x_1 x_2 x_3 x_4 x_6 x_8 x_10 x_12 g ls H locs hI hl hS
      exact R_X5_best_99 C a_0 x_1 x_2 x_3 x_4 x_6 x_8 x_10 x_12 g (h99 n a_0 x_1 x_2 x_3 x_4 x_6 x_8 x_10 x_12 g hI) hl hS (fun _ _ _ _ _ _ _ _ _ _ _ _ _ _ hI hl hS => by obtain ⟨k, hk, hI⟩ := hI; exact (ih k hk).2 _ _ _ _ _ _ _ _ _ _ _ _ _ _ hI hl hS)
    · intro a_0 x_1 x_2 x_3 x_4 x_6 x_8 x_10 x_12 x_13 g ls H locs hI hl hS
      exact R_X5_best_141 C a_0 x_1 x_2 x_3 x_4 x_6 x_8 x_10 x_12 x_13 g (h141 n a_0 x_1 x_2 x_3 x_4 x_6 x_8 x_10 x_12 x_13 g hI) hl hS (fun _ _ _ _ _ _ _ _ _ _ _ _ _ hI hl hS => by obtain ⟨k, hk, hI⟩ := hI; exact (ih k hk).1 _ _ _ _ _ _ _ _ _ _ _ _ _ hI hl hS) (fun _ _ _ _ _ _ _ _ _ _ _ _ _ _ hI hl hS => by obtain ⟨k, hk, hI⟩ := hI; exact (ih k hk).2 _ _ _ _ _ _ _ _ _ _ _ _ _ _ hI hl hS)
  exact R_X5_best_0 C h p1 p2 p3 f h0 hl hS (fun _ _ _ _ _ _ _ _ _ _ _ _ _ hI hl hS => by obtain ⟨k, hI⟩ := hI; exact (key k).1 _ _ _ _ _ _ _ _ _ _ _ _ _ hI hl hS)
