/-! By program (wip/whole/gen.py), out of the printed names: do not edit. -/
/-! ContinuedRatiosModel.isRegister(I)Z -/
def S_X5_isRegister (E : cx) (h : Nat) (p1 : Int32) (f : hm) (K : Int32 → hm → Prop) : Prop := MI E.1 E.2.1 vwCl (eT E) yX5_isRegister wsX5_isRegister ({ frames := 0, cells := 0, slots := 0, locals := 0 }) [.ref h, .int p1] f K
theorem mm_X5_isRegister_0 : Cond.fieldLink RX5 16 "ContinuedRatiosModel" "registers" "I" ∈ wsX5_isRegister := by decide +kernel
theorem ii_X5_isRegister_X5 : ∀ w ∈ u_ws RX5 TX5 7, w ∈ wsX5_isRegister := by decide +kernel
def X_X5_isRegister_0 (E : cx) (h : Nat) (p1 : Int32) (f : hm)  (K : Int32 → hm → Prop) : Prop :=
  ((p1 < 0 → (narrow .boolean (.int (0 : Int32)) = .int (0 : Int32) ∧ K (0 : Int32) f)) ∧ (¬ (p1 < 0) → (∃ v2 : Int32, rdV f h 5 0 = some (.int v2) ∧ ((v2 ≤ p1 → (narrow .boolean (.int (0 : Int32)) = .int (0 : Int32) ∧ K (0 : Int32) f)) ∧ (¬ (v2 ≤ p1) → (narrow .boolean (.int (1 : Int32)) = .int (1 : Int32) ∧ K (1 : Int32) f))))))
set_option maxRecDepth 100000 in
set_option maxHeartbeats 4000000 in
theorem R_X5_isRegister_0 {E : cx} {p : Program} {e : Env} {s : State} {m : MethodId} {below : List Frame} {meth : Method} {c : Code} {f0 : hm} {zh : Nat} {zp1 : Int32} (C : wB E.2.1 vwCl (eT E) yX5_isRegister cX5_isRegister 2 (some .boolean) wsX5_isRegister [.ref zh, .int zp1] f0 p s m meth c) (h : Nat) (p1 : Int32) (f : hm)  {K : Int32 → hm → Prop} (hv : X_X5_isRegister_0 E h p1 f  K) {ls : Array Slot} {H : Heap} {locs : List Loc} (hl : lv_has ls 2 [(0, .ref h), (1, .int p1)]) (hS : wS E.2.1 vwCl (wA f0 s.heap.size) s.heap f H locs)  : W p E.1 e ({ frames := 0, cells := 0, slots := 0, locals := 0 }) s m ([.ref zh, .int zp1] : List Value).toArray below meth c H locs 0 0 (MQ below (wQi f0 E.2.1 vwCl K s) ([.ref zh, .int zp1] : List Value).toArray s 0 0 (wA f0 s.heap.size)) (F0 m 0 ls []) := by
  obtain ⟨hx, hb, hml, hown, hts, hr, hlk, hnm, hK, -⟩ := C
  unfold X_X5_isRegister_0 at hv
  refine lv_iload_n hx hb dX5_isRegister_0 rfl (lv_at hl 1 rfl) ?_
  refine lv_if_lt (tgt := 16) hx hb dX5_isRegister_1 (by decide) (fun c1 => ?_) (fun c1 => ?_)
  · have hv := hv.1 c1
    refine lv_iconst (v := 0) hx hb dX5_isRegister_16 (by decide) ?_
    exact fw_zret hx hb hr hlk hS hv dX5_isRegister_17
  · have hv := hv.2 c1
    refine lv_iload_n hx hb dX5_isRegister_4 rfl (lv_at hl 1 rfl) ?_
    refine lv_aload_n hx hb dX5_isRegister_5 rfl (lv_at hl 0 rfl) ?_
    obtain ⟨v2, ev2, hv⟩ := hv
    refine fw_get hx hb hts ii_X5_isRegister_X5 hown hK hS 0 ev2 rfl (by decide) mm_X5_isRegister_0 rfl dX5_isRegister_6 ?_
    refine lv_icmp_ge (tgt := 16) hx hb dX5_isRegister_9 (by decide) (fun c3 => ?_) (fun c3 => ?_)
    · have hv := hv.1 c3
      refine lv_iconst (v := 0) hx hb dX5_isRegister_16 (by decide) ?_
      exact fw_zret hx hb hr hlk hS hv dX5_isRegister_17
    · have hv := hv.2 c3
      refine lv_iconst (v := 1) hx hb dX5_isRegister_12 (by decide) ?_
      refine lv_goto (tgt := 17) hx hb dX5_isRegister_13 (by decide) ?_
      exact fw_zret hx hb hr hlk hS hv dX5_isRegister_17
set_option maxRecDepth 100000 in
set_option maxHeartbeats 4000000 in
theorem T_X5_isRegister {E : cx} {h : Nat} {p1 : Int32} {f : hm} {K : Int32 → hm → Prop}  (h0 : X_X5_isRegister_0 E h p1 f  K) : S_X5_isRegister E h p1 f K := by
  refine MI_of (cc := cX5_isRegister) (maxL := 2) (ret := (some .boolean)) (by decide) rfl ?_
  intro p e s m below meth c C
  have hl := lv_entry ([.ref h, .int p1]) (n := 2) (Nat.le_of_ble_eq_true rfl)
  rw [lg_entry_eq]
  generalize (lg_sl ([.ref h, .int p1]) ++ List.replicate (2 - (lg_sl ([.ref h, .int p1])).length) Slot.unset).toArray = ls at hl ⊢
  have hl : lv_has ls 2 [(0, .ref h), (1, .int p1)] := hl
  have hS := C.2.2.2.2.2.2.2.2.2
  exact R_X5_isRegister_0 C h p1 f h0 hl hS
/-! ContinuedRatiosModel.put(IJ)V -/
def S_X5_put (E : cx) (h : Nat) (p1 : Int32) (p2 : Int64) (f : hm) (K : hm → Prop) : Prop := MV E.1 E.2.1 vwCl (eT E) yX5_put wsX5_put ({ frames := 0, cells := 0, slots := 0, locals := 0 }) [.ref h, .int p1, .long p2] f K
theorem mm_X5_put_0 : Cond.fieldLink RX5 7 "ContinuedRatiosModel" "big" "[I" ∈ wsX5_put := by decide +kernel
theorem mm_X5_put_1 : Cond.constantLong RX5 27 (65535) ∈ wsX5_put := by decide +kernel
theorem ii_X5_put_X5 : ∀ w ∈ u_ws RX5 TX5 7, w ∈ wsX5_put := by decide +kernel
def X_X5_put_0 (E : cx) (h : Nat) (p1 : Int32) (p2 : Int64) (f : hm) (L3 : Nat → Int32 → Int64 → Int32 → hm → Prop) (K : hm → Prop) : Prop :=
  L3 h p1 p2 (0 : Int32) f
def X_X5_put_3 (E : cx) (a_0 : Nat) (x_1 : Int32) (x_2 : Int64) (x_4 : Int32) (f : hm) (L3 : Nat → Int32 → Int64 → Int32 → hm → Prop) (K : hm → Prop) : Prop :=
  (((36 : Int32) ≤ x_4 → K f) ∧ (¬ ((36 : Int32) ≤ x_4) → (∃ v2 : Nat, rdV f a_0 5 2 = some (.ref v2) ∧ (((4 : Int32) ≤ x_4 → (∃ f4 : hm, wrA (eI E) f v2 (((36 : Int32) * x_1) + x_4) (0 : Int32) = some f4 ∧ (∀ x5 : Int32, x5 = x_4 + (1) → L3 a_0 x_1 x_2 x5 f4))) ∧ (¬ ((4 : Int32) ≤ x_4) → (∃ f6 : hm, wrA (eI E) f v2 (((36 : Int32) * x_1) + x_4) (((j_lshr x_2 ((16 : Int32) * x_4)) &&& (65535 : Int64)).toInt32) = some f6 ∧ (∀ x7 : Int32, x7 = x_4 + (1) → L3 a_0 x_1 x_2 x7 f6)))))))
set_option maxRecDepth 100000 in
set_option maxHeartbeats 4000000 in
theorem R_X5_put_0 {E : cx} {p : Program} {e : Env} {s : State} {m : MethodId} {below : List Frame} {meth : Method} {c : Code} {f0 : hm} {zh : Nat} {zp1 : Int32} {zp2 : Int64} (C : wB E.2.1 vwCl (eT E) yX5_put cX5_put 5 none wsX5_put [.ref zh, .int zp1, .long zp2] f0 p s m meth c) (h : Nat) (p1 : Int32) (p2 : Int64) (f : hm) {L3 : Nat → Int32 → Int64 → Int32 → hm → Prop} {K : hm → Prop} (hv : X_X5_put_0 E h p1 p2 f L3 K) {ls : Array Slot} {H : Heap} {locs : List Loc} (hl : lv_has ls 5 [(0, .ref h), (1, .int p1), (2, .long p2)]) (hS : wS E.2.1 vwCl (wA f0 s.heap.size) s.heap f H locs) (hL3 : ∀ (y_0 : Nat) (y_1 : Int32) (y_2 : Int64) (y_4 : Int32) (f : hm) (ls : Array Slot) (H : Heap) (locs : List Loc), L3 y_0 y_1 y_2 y_4 f → lv_has ls 5 [(0, .ref y_0), (1, .int y_1), (2, .long y_2), (4, .int y_4)] → wS E.2.1 vwCl (wA f0 s.heap.size) s.heap f H locs → W p E.1 e ({ frames := 0, cells := 0, slots := 0, locals := 0 }) s m ([.ref zh, .int zp1, .long zp2] : List Value).toArray below meth c H locs 0 0 (MQ below (wQv f0 E.2.1 vwCl K s) ([.ref zh, .int zp1, .long zp2] : List Value).toArray s 0 0 (wA f0 s.heap.size)) (F0 m 3 ls [])) : W p E.1 e ({ frames := 0, cells := 0, slots := 0, locals := 0 }) s m ([.ref zh, .int zp1, .long zp2] : List Value).toArray below meth c H locs 0 0 (MQ below (wQv f0 E.2.1 vwCl K s) ([.ref zh, .int zp1, .long zp2] : List Value).toArray s 0 0 (wA f0 s.heap.size)) (F0 m 0 ls []) := by
  obtain ⟨hx, hb, hml, hown, hts, hr, hlk, hnm, hK, -⟩ := C
  unfold X_X5_put_0 at hv
  refine lv_iconst (v := 0) hx hb dX5_put_0 (by decide) ?_
  refine lv_istore (lv' := [(4, .int (0 : Int32)), (0, .ref h), (1, .int p1), (2, .long p2)]) hx hb dX5_put_1 hl (by decide) rfl (fun ls hl => ?_)
  exact hL3 _ _ _ _ _ _ _ _ hv (lv_sub hl [1, 2, 3, 0] rfl) hS
set_option maxRecDepth 100000 in
set_option maxHeartbeats 4000000 in
theorem R_X5_put_3 {E : cx} {p : Program} {e : Env} {s : State} {m : MethodId} {below : List Frame} {meth : Method} {c : Code} {f0 : hm} {zh : Nat} {zp1 : Int32} {zp2 : Int64} (C : wB E.2.1 vwCl (eT E) yX5_put cX5_put 5 none wsX5_put [.ref zh, .int zp1, .long zp2] f0 p s m meth c) (a_0 : Nat) (x_1 : Int32) (x_2 : Int64) (x_4 : Int32) (f : hm) {L3 : Nat → Int32 → Int64 → Int32 → hm → Prop} {K : hm → Prop} (hv : X_X5_put_3 E a_0 x_1 x_2 x_4 f L3 K) {ls : Array Slot} {H : Heap} {locs : List Loc} (hl : lv_has ls 5 [(0, .ref a_0), (1, .int x_1), (2, .long x_2), (4, .int x_4)]) (hS : wS E.2.1 vwCl (wA f0 s.heap.size) s.heap f H locs) (hL3 : ∀ (y_0 : Nat) (y_1 : Int32) (y_2 : Int64) (y_4 : Int32) (f : hm) (ls : Array Slot) (H : Heap) (locs : List Loc), L3 y_0 y_1 y_2 y_4 f → lv_has ls 5 [(0, .ref y_0), (1, .int y_1), (2, .long y_2), (4, .int y_4)] → wS E.2.1 vwCl (wA f0 s.heap.size) s.heap f H locs → W p E.1 e ({ frames := 0, cells := 0, slots := 0, locals := 0 }) s m ([.ref zh, .int zp1, .long zp2] : List Value).toArray below meth c H locs 0 0 (MQ below (wQv f0 E.2.1 vwCl K s) ([.ref zh, .int zp1, .long zp2] : List Value).toArray s 0 0 (wA f0 s.heap.size)) (F0 m 3 ls [])) : W p E.1 e ({ frames := 0, cells := 0, slots := 0, locals := 0 }) s m ([.ref zh, .int zp1, .long zp2] : List Value).toArray below meth c H locs 0 0 (MQ below (wQv f0 E.2.1 vwCl K s) ([.ref zh, .int zp1, .long zp2] : List Value).toArray s 0 0 (wA f0 s.heap.size)) (F0 m 3 ls []) := by
  obtain ⟨hx, hb, hml, hown, hts, hr, hlk, hnm, hK, -⟩ := C
  unfold X_X5_put_3 at hv
  refine lv_iload hx hb dX5_put_3 (lv_at hl 3 rfl) ?_
  refine lv_bipush (v := 36) hx hb dX5_put_5 (by decide) ?_
  refine lv_icmp_ge (tgt := 50) hx hb dX5_put_7 (by decide) (fun c1 => ?_) (fun c1 => ?_)
  · have hv := hv.1 c1
    exact fw_vret hx hb hr hlk hS hv dX5_put_50
  · have hv := hv.2 c1
    refine lv_aload_n hx hb dX5_put_10 rfl (lv_at hl 0 rfl) ?_
    obtain ⟨v2, ev2, hv⟩ := hv
    refine fw_get hx hb hts ii_X5_put_X5 hown hK hS 2 ev2 rfl (by decide) mm_X5_put_0 rfl dX5_put_11 ?_
    refine lv_bipush (v := 36) hx hb dX5_put_14 (by decide) ?_
    refine lv_iload_n hx hb dX5_put_16 rfl (lv_at hl 1 rfl) ?_
    refine lv_imul hx hb dX5_put_17 ?_
    refine lv_iload hx hb dX5_put_18 (lv_at hl 3 rfl) ?_
    refine lv_iadd hx hb dX5_put_20 ?_
    refine lv_iload hx hb dX5_put_21 (lv_at hl 3 rfl) ?_
    refine lv_iconst (v := 4) hx hb dX5_put_23 (by decide) ?_
    refine lv_icmp_ge (tgt := 42) hx hb dX5_put_24 (by decide) (fun c3 => ?_) (fun c3 => ?_)
    · have hv := hv.1 c3
      refine lv_iconst (v := 0) hx hb dX5_put_42 (by decide) ?_
      obtain ⟨f4, ef4, hv⟩ := hv
      refine fw_ast hx hb hK hS 0 rfl ef4 dX5_put_43 (fun H locs hS => ?_)
      obtain ⟨x5, ex5⟩ : ∃ y : Int32, y = x_4 + (1) := ⟨_, rfl⟩
      have hv := hv x5 ex5
      refine lv_iinc (v := x5) (lv' := [(4, .int x5), (0, .ref a_0), (1, .int x_1), (2, .long x_2)]) hx hb dX5_put_44 hl (k := 3) rfl (by rw [ex5]; rfl) (by decide) rfl (fun ls hl => ?_)
      refine lv_goto (tgt := 3) hx hb dX5_put_47 (by decide) ?_
      exact hL3 _ _ _ _ _ _ _ _ hv (lv_sub hl [1, 2, 3, 0] rfl) hS
    · have hv := hv.2 c3
      refine lv_lload_n hx hb dX5_put_27 rfl (lv_at hl 2 rfl) ?_
      refine lv_bipush (v := 16) hx hb dX5_put_28 (by decide) ?_
      refine lv_iload hx hb dX5_put_30 (lv_at hl 3 rfl) ?_
      refine lv_imul hx hb dX5_put_32 ?_
      refine lv_lshr (v := j_lshr x_2 ((16 : Int32) * x_4)) hx hb dX5_put_33 rfl ?_
      refine lv_ldc2 (v := (65535)) hx hb hown (hts _ mm_X5_put_1) dX5_put_34 ?_
      refine lv_land hx hb dX5_put_37 ?_
      refine lv_l2i hx hb dX5_put_38 rfl ?_
      refine lv_goto (tgt := 43) hx hb dX5_put_39 (by decide) ?_
      obtain ⟨f6, ef6, hv⟩ := hv
      refine fw_ast hx hb hK hS 0 rfl ef6 dX5_put_43 (fun H locs hS => ?_)
      obtain ⟨x7, ex7⟩ : ∃ y : Int32, y = x_4 + (1) := ⟨_, rfl⟩
      have hv := hv x7 ex7
      refine lv_iinc (v := x7) (lv' := [(4, .int x7), (0, .ref a_0), (1, .int x_1), (2, .long x_2)]) hx hb dX5_put_44 hl (k := 3) rfl (by rw [ex7]; rfl) (by decide) rfl (fun ls hl => ?_)
      refine lv_goto (tgt := 3) hx hb dX5_put_47 (by decide) ?_
      exact hL3 _ _ _ _ _ _ _ _ hv (lv_sub hl [1, 2, 3, 0] rfl) hS
set_option maxRecDepth 100000 in
set_option maxHeartbeats 4000000 in
theorem T_X5_put {E : cx} {h : Nat} {p1 : Int32} {p2 : Int64} {f : hm} {K : hm → Prop} (I3 : Nat → Nat → Int32 → Int64 → Int32 → hm → Prop) (h0 : X_X5_put_0 E h p1 p2 f (fun (y_0 : Nat) (y_1 : Int32) (y_2 : Int64) (y_4 : Int32) (f : hm) => ∃ k : Nat, I3 k y_0 y_1 y_2 y_4 f) K) (h3 : ∀ (n : Nat) (a_0 : Nat) (x_1 : Int32) (x_2 : Int64) (x_4 : Int32) (f : hm), I3 n a_0 x_1 x_2 x_4 f → X_X5_put_3 E a_0 x_1 x_2 x_4 f (fun (y_0 : Nat) (y_1 : Int32) (y_2 : Int64) (y_4 : Int32) (f : hm) => ∃ k : Nat, k < n ∧ I3 k y_0 y_1 y_2 y_4 f) K) : S_X5_put E h p1 p2 f K := by
  refine MV_of (cc := cX5_put) (maxL := 5) (ret := none) (by decide) rfl ?_
  intro p e s m below meth c C
  have hl := lv_entry ([.ref h, .int p1, .long p2]) (n := 5) (Nat.le_of_ble_eq_true rfl)
  rw [lg_entry_eq]
  generalize (lg_sl ([.ref h, .int p1, .long p2]) ++ List.replicate (5 - (lg_sl ([.ref h, .int p1, .long p2])).length) Slot.unset).toArray = ls at hl ⊢
  have hl : lv_has ls 5 [(0, .ref h), (1, .int p1), (2, .long p2)] := hl
  have hS := C.2.2.2.2.2.2.2.2.2
  have key : ∀ n : Nat, (∀ (a_0 : Nat) (x_1 : Int32) (x_2 : Int64) (x_4 : Int32) (g : hm) (ls : Array Slot) (H : Heap) (locs : List Loc), I3 n a_0 x_1 x_2 x_4 g → lv_has ls 5 [(0, .ref a_0), (1, .int x_1), (2, .long x_2), (4, .int x_4)] → wS E.2.1 vwCl (wA f s.heap.size) s.heap g H locs → W p E.1 e ({ frames := 0, cells := 0, slots := 0, locals := 0 }) s m ([.ref h, .int p1, .long p2] : List Value).toArray below meth c H locs 0 0 (MQ below (wQv f E.2.1 vwCl K s) ([.ref h, .int p1, .long p2] : List Value).toArray s 0 0 (wA f s.heap.size)) (F0 m 3 ls [])) := by
    refine st_ind (fun n ih => ?_)
    intro a_0 x_1 x_2 x_4 g ls H locs hI hl hS
    exact R_X5_put_3 C a_0 x_1 x_2 x_4 g (h3 n a_0 x_1 x_2 x_4 g hI) hl hS (fun _ _ _ _ _ _ _ _ hI hl hS => by obtain ⟨k, hk, hI⟩ := hI; exact (ih k hk) _ _ _ _ _ _ _ _ hI hl hS)
  exact R_X5_put_0 C h p1 p2 f h0 hl hS (fun _ _ _ _ _ _ _ _ hI hl hS => by obtain ⟨k, hI⟩ := hI; exact (key k) _ _ _ _ _ _ _ _ hI hl hS)
/-! ContinuedRatiosModel.copy(II)V -/
def S_X5_copy (E : cx) (h : Nat) (p1 : Int32) (p2 : Int32) (f : hm) (K : hm → Prop) : Prop := MV E.1 E.2.1 vwCl (eT E) yX5_copy wsX5_copy ({ frames := 0, cells := 0, slots := 0, locals := 0 }) [.ref h, .int p1, .int p2] f K
theorem mm_X5_copy_0 : Cond.fieldLink RX5 7 "ContinuedRatiosModel" "big" "[I" ∈ wsX5_copy := by decide +kernel
theorem ii_X5_copy_X5 : ∀ w ∈ u_ws RX5 TX5 7, w ∈ wsX5_copy := by decide +kernel
def X_X5_copy_0 (E : cx) (h : Nat) (p1 : Int32) (p2 : Int32) (f : hm) (L2 : Nat → Int32 → Int32 → Int32 → hm → Prop) (K : hm → Prop) : Prop :=
  L2 h p1 p2 (0 : Int32) f
def X_X5_copy_2 (E : cx) (a_0 : Nat) (x_1 : Int32) (x_2 : Int32) (x_3 : Int32) (f : hm) (L2 : Nat → Int32 → Int32 → Int32 → hm → Prop) (K : hm → Prop) : Prop :=
  (((36 : Int32) ≤ x_3 → K f) ∧ (¬ ((36 : Int32) ≤ x_3) → (∃ v2 : Nat, rdV f a_0 5 2 = some (.ref v2) ∧ (∃ v3 : Nat, rdV f a_0 5 2 = some (.ref v3) ∧ (∃ v4 : Int32, rdA (eI E) f v3 (((36 : Int32) * x_1) + x_3) = some v4 ∧ (∃ f5 : hm, wrA (eI E) f v2 (((36 : Int32) * x_2) + x_3) v4 = some f5 ∧ (∀ x6 : Int32, x6 = x_3 + (1) → L2 a_0 x_1 x_2 x6 f5)))))))
set_option maxRecDepth 100000 in
set_option maxHeartbeats 4000000 in
theorem R_X5_copy_0 {E : cx} {p : Program} {e : Env} {s : State} {m : MethodId} {below : List Frame} {meth : Method} {c : Code} {f0 : hm} {zh : Nat} {zp1 : Int32} {zp2 : Int32} (C : wB E.2.1 vwCl (eT E) yX5_copy cX5_copy 4 none wsX5_copy [.ref zh, .int zp1, .int zp2] f0 p s m meth c) (h : Nat) (p1 : Int32) (p2 : Int32) (f : hm) {L2 : Nat → Int32 → Int32 → Int32 → hm → Prop} {K : hm → Prop} (hv : X_X5_copy_0 E h p1 p2 f L2 K) {ls : Array Slot} {H : Heap} {locs : List Loc} (hl : lv_has ls 4 [(0, .ref h), (1, .int p1), (2, .int p2)]) (hS : wS E.2.1 vwCl (wA f0 s.heap.size) s.heap f H locs) (hL2 : ∀ (y_0 : Nat) (y_1 : Int32) (y_2 : Int32) (y_3 : Int32) (f : hm) (ls : Array Slot) (H : Heap) (locs : List Loc), L2 y_0 y_1 y_2 y_3 f → lv_has ls 4 [(0, .ref y_0), (1, .int y_1), (2, .int y_2), (3, .int y_3)] → wS E.2.1 vwCl (wA f0 s.heap.size) s.heap f H locs → W p E.1 e ({ frames := 0, cells := 0, slots := 0, locals := 0 }) s m ([.ref zh, .int zp1, .int zp2] : List Value).toArray below meth c H locs 0 0 (MQ below (wQv f0 E.2.1 vwCl K s) ([.ref zh, .int zp1, .int zp2] : List Value).toArray s 0 0 (wA f0 s.heap.size)) (F0 m 2 ls [])) : W p E.1 e ({ frames := 0, cells := 0, slots := 0, locals := 0 }) s m ([.ref zh, .int zp1, .int zp2] : List Value).toArray below meth c H locs 0 0 (MQ below (wQv f0 E.2.1 vwCl K s) ([.ref zh, .int zp1, .int zp2] : List Value).toArray s 0 0 (wA f0 s.heap.size)) (F0 m 0 ls []) := by
  obtain ⟨hx, hb, hml, hown, hts, hr, hlk, hnm, hK, -⟩ := C
  unfold X_X5_copy_0 at hv
  refine lv_iconst (v := 0) hx hb dX5_copy_0 (by decide) ?_
  refine lv_istore_n (lv' := [(3, .int (0 : Int32)), (0, .ref h), (1, .int p1), (2, .int p2)]) hx hb dX5_copy_1 rfl hl (by decide) rfl (fun ls hl => ?_)
  exact hL2 _ _ _ _ _ _ _ _ hv (lv_sub hl [1, 2, 3, 0] rfl) hS
set_option maxRecDepth 100000 in
set_option maxHeartbeats 4000000 in
theorem R_X5_copy_2 {E : cx} {p : Program} {e : Env} {s : State} {m : MethodId} {below : List Frame} {meth : Method} {c : Code} {f0 : hm} {zh : Nat} {zp1 : Int32} {zp2 : Int32} (C : wB E.2.1 vwCl (eT E) yX5_copy cX5_copy 4 none wsX5_copy [.ref zh, .int zp1, .int zp2] f0 p s m meth c) (a_0 : Nat) (x_1 : Int32) (x_2 : Int32) (x_3 : Int32) (f : hm) {L2 : Nat → Int32 → Int32 → Int32 → hm → Prop} {K : hm → Prop} (hv : X_X5_copy_2 E a_0 x_1 x_2 x_3 f L2 K) {ls : Array Slot} {H : Heap} {locs : List Loc} (hl : lv_has ls 4 [(0, .ref a_0), (1, .int x_1), (2, .int x_2), (3, .int x_3)]) (hS : wS E.2.1 vwCl (wA f0 s.heap.size) s.heap f H locs) (hL2 : ∀ (y_0 : Nat) (y_1 : Int32) (y_2 : Int32) (y_3 : Int32) (f : hm) (ls : Array Slot) (H : Heap) (locs : List Loc), L2 y_0 y_1 y_2 y_3 f → lv_has ls 4 [(0, .ref y_0), (1, .int y_1), (2, .int y_2), (3, .int y_3)] → wS E.2.1 vwCl (wA f0 s.heap.size) s.heap f H locs → W p E.1 e ({ frames := 0, cells := 0, slots := 0, locals := 0 }) s m ([.ref zh, .int zp1, .int zp2] : List Value).toArray below meth c H locs 0 0 (MQ below (wQv f0 E.2.1 vwCl K s) ([.ref zh, .int zp1, .int zp2] : List Value).toArray s 0 0 (wA f0 s.heap.size)) (F0 m 2 ls [])) : W p E.1 e ({ frames := 0, cells := 0, slots := 0, locals := 0 }) s m ([.ref zh, .int zp1, .int zp2] : List Value).toArray below meth c H locs 0 0 (MQ below (wQv f0 E.2.1 vwCl K s) ([.ref zh, .int zp1, .int zp2] : List Value).toArray s 0 0 (wA f0 s.heap.size)) (F0 m 2 ls []) := by
  obtain ⟨hx, hb, hml, hown, hts, hr, hlk, hnm, hK, -⟩ := C
  unfold X_X5_copy_2 at hv
  refine lv_iload_n hx hb dX5_copy_2 rfl (lv_at hl 3 rfl) ?_
  refine lv_bipush (v := 36) hx hb dX5_copy_3 (by decide) ?_
  refine lv_icmp_ge (tgt := 36) hx hb dX5_copy_5 (by decide) (fun c1 => ?_) (fun c1 => ?_)
  · have hv := hv.1 c1
    exact fw_vret hx hb hr hlk hS hv dX5_copy_36
  · have hv := hv.2 c1
    refine lv_aload_n hx hb dX5_copy_8 rfl (lv_at hl 0 rfl) ?_
    obtain ⟨v2, ev2, hv⟩ := hv
    refine fw_get hx hb hts ii_X5_copy_X5 hown hK hS 2 ev2 rfl (by decide) mm_X5_copy_0 rfl dX5_copy_9 ?_
    refine lv_bipush (v := 36) hx hb dX5_copy_12 (by decide) ?_
    refine lv_iload_n hx hb dX5_copy_14 rfl (lv_at hl 2 rfl) ?_
    refine lv_imul hx hb dX5_copy_15 ?_
    refine lv_iload_n hx hb dX5_copy_16 rfl (lv_at hl 3 rfl) ?_
    refine lv_iadd hx hb dX5_copy_17 ?_
    refine lv_aload_n hx hb dX5_copy_18 rfl (lv_at hl 0 rfl) ?_
    obtain ⟨v3, ev3, hv⟩ := hv
    refine fw_get hx hb hts ii_X5_copy_X5 hown hK hS 2 ev3 rfl (by decide) mm_X5_copy_0 rfl dX5_copy_19 ?_
    refine lv_bipush (v := 36) hx hb dX5_copy_22 (by decide) ?_
    refine lv_iload_n hx hb dX5_copy_24 rfl (lv_at hl 1 rfl) ?_
    refine lv_imul hx hb dX5_copy_25 ?_
    refine lv_iload_n hx hb dX5_copy_26 rfl (lv_at hl 3 rfl) ?_
    refine lv_iadd hx hb dX5_copy_27 ?_
    obtain ⟨v4, ev4, hv⟩ := hv
    refine fw_ald hx hb hK hS 0 rfl ev4 dX5_copy_28 ?_
    obtain ⟨f5, ef5, hv⟩ := hv
    refine fw_ast hx hb hK hS 0 rfl ef5 dX5_copy_29 (fun H locs hS => ?_)
    obtain ⟨x6, ex6⟩ : ∃ y : Int32, y = x_3 + (1) := ⟨_, rfl⟩
    have hv := hv x6 ex6
    refine lv_iinc (v := x6) (lv' := [(3, .int x6), (0, .ref a_0), (1, .int x_1), (2, .int x_2)]) hx hb dX5_copy_30 hl (k := 3) rfl (by rw [ex6]; rfl) (by decide) rfl (fun ls hl => ?_)
    refine lv_goto (tgt := 2) hx hb dX5_copy_33 (by decide) ?_
    exact hL2 _ _ _ _ _ _ _ _ hv (lv_sub hl [1, 2, 3, 0] rfl) hS
set_option maxRecDepth 100000 in
set_option maxHeartbeats 4000000 in
theorem T_X5_copy {E : cx} {h : Nat} {p1 : Int32} {p2 : Int32} {f : hm} {K : hm → Prop} (I2 : Nat → Nat → Int32 → Int32 → Int32 → hm → Prop) (h0 : X_X5_copy_0 E h p1 p2 f (fun (y_0 : Nat) (y_1 : Int32) (y_2 : Int32) (y_3 : Int32) (f : hm) => ∃ k : Nat, I2 k y_0 y_1 y_2 y_3 f) K) (h2 : ∀ (n : Nat) (a_0 : Nat) (x_1 : Int32) (x_2 : Int32) (x_3 : Int32) (f : hm), I2 n a_0 x_1 x_2 x_3 f → X_X5_copy_2 E a_0 x_1 x_2 x_3 f (fun (y_0 : Nat) (y_1 : Int32) (y_2 : Int32) (y_3 : Int32) (f : hm) => ∃ k : Nat, k < n ∧ I2 k y_0 y_1 y_2 y_3 f) K) : S_X5_copy E h p1 p2 f K := by
  refine MV_of (cc := cX5_copy) (maxL := 4) (ret := none) (by decide) rfl ?_
  intro p e s m below meth c C
  have hl := lv_entry ([.ref h, .int p1, .int p2]) (n := 4) (Nat.le_of_ble_eq_true rfl)
  rw [lg_entry_eq]
  generalize (lg_sl ([.ref h, .int p1, .int p2]) ++ List.replicate (4 - (lg_sl ([.ref h, .int p1, .int p2])).length) Slot.unset).toArray = ls at hl ⊢
  have hl : lv_has ls 4 [(0, .ref h), (1, .int p1), (2, .int p2)] := hl
  have hS := C.2.2.2.2.2.2.2.2.2
  have key : ∀ n : Nat, (∀ (a_0 : Nat) (x_1 : Int32) (x_2 : Int32) (x_3 : Int32) (g : hm) (ls : Array Slot) (H : Heap) (locs : List Loc), I2 n a_0 x_1 x_2 x_3 g → lv_has ls 4 [(0, .ref a_0), (1, .int x_1), (2, .int x_2), (3, .int x_3)] → wS E.2.1 vwCl (wA f s.heap.size) s.heap g H locs → W p E.1 e ({ frames := 0, cells := 0, slots := 0, locals := 0 }) s m ([.ref h, .int p1, .int p2] : List Value).toArray below meth c H locs 0 0 (MQ below (wQv f E.2.1 vwCl K s) ([.ref h, .int p1, .int p2] : List Value).toArray s 0 0 (wA f s.heap.size)) (F0 m 2 ls [])) := by
    refine st_ind (fun n ih => ?_)
    intro a_0 x_1 x_2 x_3 g ls H locs hI hl hS
    exact R_X5_copy_2 C a_0 x_1 x_2 x_3 g (h2 n a_0 x_1 x_2 x_3 g hI) hl hS (fun _ _ _ _ _ _ _ _ hI hl hS => by obtain ⟨k, hk, hI⟩ := hI; exact (ih k hk) _ _ _ _ _ _ _ _ hI hl hS)
  exact R_X5_copy_0 C h p1 p2 f h0 hl hS (fun _ _ _ _ _ _ _ _ hI hl hS => by obtain ⟨k, hI⟩ := hI; exact (key k) _ _ _ _ _ _ _ _ hI hl hS)
/-! ContinuedRatiosModel.isZero(I)Z -/
def S_X5_isZero (E : cx) (h : Nat) (p1 : Int32) (f : hm) (K : Int32 → hm → Prop) : Prop := MI E.1 E.2.1 vwCl (eT E) yX5_isZero wsX5_isZero ({ frames := 0, cells := 0, slots := 0, locals := 0 }) [.ref h, .int p1] f K
theorem mm_X5_isZero_0 : Cond.fieldLink RX5 7 "ContinuedRatiosModel" "big" "[I" ∈ wsX5_isZero := by decide +kernel
theorem ii_X5_isZero_X5 : ∀ w ∈ u_ws RX5 TX5 7, w ∈ wsX5_isZero := by decide +kernel
def X_X5_isZero_0 (E : cx) (h : Nat) (p1 : Int32) (f : hm) (L4 : Nat → Int32 → Int32 → Int32 → hm → Prop) (K : Int32 → hm → Prop) : Prop :=
  L4 h p1 (1 : Int32) (0 : Int32) f
def X_X5_isZero_4 (E : cx) (a_0 : Nat) (x_1 : Int32) (x_2 : Int32) (x_3 : Int32) (f : hm) (L4 : Nat → Int32 → Int32 → Int32 → hm → Prop) (K : Int32 → hm → Prop) : Prop :=
  (((36 : Int32) ≤ x_3 → (narrow .boolean (.int x_2) = .int x_2 ∧ K x_2 f)) ∧ (¬ ((36 : Int32) ≤ x_3) → ((x_2 = 0 → (∀ x3 : Int32, x3 = x_3 + (1) → L4 a_0 x_1 (0 : Int32) x3 f)) ∧ (¬ (x_2 = 0) → (∃ v4 : Nat, rdV f a_0 5 2 = some (.ref v4) ∧ (∃ v5 : Int32, rdA (eI E) f v4 (((36 : Int32) * x_1) + x_3) = some v5 ∧ ((¬ v5 = 0 → (∀ x7 : Int32, x7 = x_3 + (1) → L4 a_0 x_1 (0 : Int32) x7 f)) ∧ (v5 = 0 → (∀ x8 : Int32, x8 = x_3 + (1) → L4 a_0 x_1 (1 : Int32) x8 f)))))))))
set_option maxRecDepth 100000 in
set_option maxHeartbeats 4000000 in
theorem R_X5_isZero_0 {E : cx} {p : Program} {e : Env} {s : State} {m : MethodId} {below : List Frame} {meth : Method} {c : Code} {f0 : hm} {zh : Nat} {zp1 : Int32} (C : wB E.2.1 vwCl (eT E) yX5_isZero cX5_isZero 4 (some .boolean) wsX5_isZero [.ref zh, .int zp1] f0 p s m meth c) (h : Nat) (p1 : Int32) (f : hm) {L4 : Nat → Int32 → Int32 → Int32 → hm → Prop} {K : Int32 → hm → Prop} (hv : X_X5_isZero_0 E h p1 f L4 K) {ls : Array Slot} {H : Heap} {locs : List Loc} (hl : lv_has ls 4 [(0, .ref h), (1, .int p1)]) (hS : wS E.2.1 vwCl (wA f0 s.heap.size) s.heap f H locs) (hL4 : ∀ (y_0 : Nat) (y_1 : Int32) (y_2 : Int32) (y_3 : Int32) (f : hm) (ls : Array Slot) (H : Heap) (locs : List Loc), L4 y_0 y_1 y_2 y_3 f → lv_has ls 4 [(0, .ref y_0), (1, .int y_1), (2, .int y_2), (3, .int y_3)] → wS E.2.1 vwCl (wA f0 s.heap.size) s.heap f H locs → W p E.1 e ({ frames := 0, cells := 0, slots := 0, locals := 0 }) s m ([.ref zh, .int zp1] : List Value).toArray below meth c H locs 0 0 (MQ below (wQi f0 E.2.1 vwCl K s) ([.ref zh, .int zp1] : List Value).toArray s 0 0 (wA f0 s.heap.size)) (F0 m 4 ls [])) : W p E.1 e ({ frames := 0, cells := 0, slots := 0, locals := 0 }) s m ([.ref zh, .int zp1] : List Value).toArray below meth c H locs 0 0 (MQ below (wQi f0 E.2.1 vwCl K s) ([.ref zh, .int zp1] : List Value).toArray s 0 0 (wA f0 s.heap.size)) (F0 m 0 ls []) := by
  obtain ⟨hx, hb, hml, hown, hts, hr, hlk, hnm, hK, -⟩ := C
  unfold X_X5_isZero_0 at hv
  refine lv_iconst (v := 1) hx hb dX5_isZero_0 (by decide) ?_
  refine lv_istore_n (lv' := [(2, .int (1 : Int32)), (0, .ref h), (1, .int p1)]) hx hb dX5_isZero_1 rfl hl (by decide) rfl (fun ls hl => ?_)
  refine lv_iconst (v := 0) hx hb dX5_isZero_2 (by decide) ?_
  refine lv_istore_n (lv' := [(3, .int (0 : Int32)), (2, .int (1 : Int32)), (0, .ref h), (1, .int p1)]) hx hb dX5_isZero_3 rfl hl (by decide) rfl (fun ls hl => ?_)
  exact hL4 _ _ _ _ _ _ _ _ hv (lv_sub hl [2, 3, 1, 0] rfl) hS
set_option maxRecDepth 100000 in
set_option maxHeartbeats 4000000 in
theorem R_X5_isZero_4 {E : cx} {p : Program} {e : Env} {s : State} {m : MethodId} {below : List Frame} {meth : Method} {c : Code} {f0 : hm} {zh : Nat} {zp1 : Int32} (C : wB E.2.1 vwCl (eT E) yX5_isZero cX5_isZero 4 (some .boolean) wsX5_isZero [.ref zh, .int zp1] f0 p s m meth c) (a_0 : Nat) (x_1 : Int32) (x_2 : Int32) (x_3 : Int32) (f : hm) {L4 : Nat → Int32 → Int32 → Int32 → hm → Prop} {K : Int32 → hm → Prop} (hv : X_X5_isZero_4 E a_0 x_1 x_2 x_3 f L4 K) {ls : Array Slot} {H : Heap} {locs : List Loc} (hl : lv_has ls 4 [(0, .ref a_0), (1, .int x_1), (2, .int x_2), (3, .int x_3)]) (hS : wS E.2.1 vwCl (wA f0 s.heap.size) s.heap f H locs) (hL4 : ∀ (y_0 : Nat) (y_1 : Int32) (y_2 : Int32) (y_3 : Int32) (f : hm) (ls : Array Slot) (H : Heap) (locs : List Loc), L4 y_0 y_1 y_2 y_3 f → lv_has ls 4 [(0, .ref y_0), (1, .int y_1), (2, .int y_2), (3, .int y_3)] → wS E.2.1 vwCl (wA f0 s.heap.size) s.heap f H locs → W p E.1 e ({ frames := 0, cells := 0, slots := 0, locals := 0 }) s m ([.ref zh, .int zp1] : List Value).toArray below meth c H locs 0 0 (MQ below (wQi f0 E.2.1 vwCl K s) ([.ref zh, .int zp1] : List Value).toArray s 0 0 (wA f0 s.heap.size)) (F0 m 4 ls [])) : W p E.1 e ({ frames := 0, cells := 0, slots := 0, locals := 0 }) s m ([.ref zh, .int zp1] : List Value).toArray below meth c H locs 0 0 (MQ below (wQi f0 E.2.1 vwCl K s) ([.ref zh, .int zp1] : List Value).toArray s 0 0 (wA f0 s.heap.size)) (F0 m 4 ls []) := by
  obtain ⟨hx, hb, hml, hown, hts, hr, hlk, hnm, hK, -⟩ := C
  unfold X_X5_isZero_4 at hv
  refine lv_iload_n hx hb dX5_isZero_4 rfl (lv_at hl 3 rfl) ?_
  refine lv_bipush (v := 36) hx hb dX5_isZero_5 (by decide) ?_
  refine lv_icmp_ge (tgt := 40) hx hb dX5_isZero_7 (by decide) (fun c1 => ?_) (fun c1 => ?_)
  · have hv := hv.1 c1
    refine lv_iload_n hx hb dX5_isZero_40 rfl (lv_at hl 2 rfl) ?_
    exact fw_zret hx hb hr hlk hS hv dX5_isZero_41
  · have hv := hv.2 c1
    refine lv_iload_n hx hb dX5_isZero_10 rfl (lv_at hl 2 rfl) ?_
    refine lv_if_eq (tgt := 32) hx hb dX5_isZero_11 (by decide) (fun c2 => ?_) (fun c2 => ?_)
    · have hv := hv.1 c2
      refine lv_iconst (v := 0) hx hb dX5_isZero_32 (by decide) ?_
      refine lv_istore_n (lv' := [(2, .int (0 : Int32)), (0, .ref a_0), (1, .int x_1), (3, .int x_3)]) hx hb dX5_isZero_33 rfl hl (by decide) rfl (fun ls hl => ?_)
      obtain ⟨x3, ex3⟩ : ∃ y : Int32, y = x_3 + (1) := ⟨_, rfl⟩
      have hv := hv x3 ex3
      refine lv_iinc (v := x3) (lv' := [(3, .int x3), (2, .int (0 : Int32)), (0, .ref a_0), (1, .int x_1)]) hx hb dX5_isZero_34 hl (k := 3) rfl (by rw [ex3]; rfl) (by decide) rfl (fun ls hl => ?_)
      refine lv_goto (tgt := 4) hx hb dX5_isZero_37 (by decide) ?_
      exact hL4 _ _ _ _ _ _ _ _ hv (lv_sub hl [2, 3, 1, 0] rfl) hS
    · have hv := hv.2 c2
      refine lv_aload_n hx hb dX5_isZero_14 rfl (lv_at hl 0 rfl) ?_
      obtain ⟨v4, ev4, hv⟩ := hv
      refine fw_get hx hb hts ii_X5_isZero_X5 hown hK hS 2 ev4 rfl (by decide) mm_X5_isZero_0 rfl dX5_isZero_15 ?_
      refine lv_bipush (v := 36) hx hb dX5_isZero_18 (by decide) ?_
      refine lv_iload_n hx hb dX5_isZero_20 rfl (lv_at hl 1 rfl) ?_
      refine lv_imul hx hb dX5_isZero_21 ?_
      refine lv_iload_n hx hb dX5_isZero_22 rfl (lv_at hl 3 rfl) ?_
      refine lv_iadd hx hb dX5_isZero_23 ?_
      obtain ⟨v5, ev5, hv⟩ := hv
      refine fw_ald hx hb hK hS 0 rfl ev5 dX5_isZero_24 ?_
      refine lv_if_ne (tgt := 32) hx hb dX5_isZero_25 (by decide) (fun c6 => ?_) (fun c6 => ?_)
      · have hv := hv.1 c6
        refine lv_iconst (v := 0) hx hb dX5_isZero_32 (by decide) ?_
        refine lv_istore_n (lv' := [(2, .int (0 : Int32)), (0, .ref a_0), (1, .int x_1), (3, .int x_3)]) hx hb dX5_isZero_33 rfl hl (by decide) rfl (fun ls hl => ?_)
        obtain ⟨x7, ex7⟩ : ∃ y : Int32, y = x_3 + (1) := ⟨_, rfl⟩
        have hv := hv x7 ex7
        refine lv_iinc (v := x7) (lv' := [(3, .int x7), (2, .int (0 : Int32)), (0, .ref a_0), (1, .int x_1)]) hx hb dX5_isZero_34 hl (k := 3) rfl (by rw [ex7]; rfl) (by decide) rfl (fun ls hl => ?_)
        refine lv_goto (tgt := 4) hx hb dX5_isZero_37 (by decide) ?_
        exact hL4 _ _ _ _ _ _ _ _ hv (lv_sub hl [2, 3, 1, 0] rfl) hS
      · have hv := hv.2 c6
        refine lv_iconst (v := 1) hx hb dX5_isZero_28 (by decide) ?_
        refine lv_goto (tgt := 33) hx hb dX5_isZero_29 (by decide) ?_
        refine lv_istore_n (lv' := [(2, .int (1 : Int32)), (0, .ref a_0), (1, .int x_1), (3, .int x_3)]) hx hb dX5_isZero_33 rfl hl (by decide) rfl (fun ls hl => ?_)
        obtain ⟨x8, ex8⟩ : ∃ y : Int32, y = x_3 + (1) := ⟨_, rfl⟩
        have hv := hv x8 ex8
        refine lv_iinc (v := x8) (lv' := [(3, .int x8), (2, .int (1 : Int32)), (0, .ref a_0), (1, .int x_1)]) hx hb dX5_isZero_34 hl (k := 3) rfl (by rw [ex8]; rfl) (by decide) rfl (fun ls hl => ?_)
        refine lv_goto (tgt := 4) hx hb dX5_isZero_37 (by decide) ?_
        exact hL4 _ _ _ _ _ _ _ _ hv (lv_sub hl [2, 3, 1, 0] rfl) hS
set_option maxRecDepth 100000 in
set_option maxHeartbeats 4000000 in
theorem T_X5_isZero {E : cx} {h : Nat} {p1 : Int32} {f : hm} {K : Int32 → hm → Prop} (I4 : Nat → Nat → Int32 → Int32 → Int32 → hm → Prop) (h0 : X_X5_isZero_0 E h p1 f (fun (y_0 : Nat) (y_1 : Int32) (y_2 : Int32) (y_3 : Int32) (f : hm) => ∃ k : Nat, I4 k y_0 y_1 y_2 y_3 f) K) (h4 : ∀ (n : Nat) (a_0 : Nat) (x_1 : Int32) (x_2 : Int32) (x_3 : Int32) (f : hm), I4 n a_0 x_1 x_2 x_3 f → X_X5_isZero_4 E a_0 x_1 x_2 x_3 f (fun (y_0 : Nat) (y_1 : Int32) (y_2 : Int32) (y_3 : Int32) (f : hm) => ∃ k : Nat, k < n ∧ I4 k y_0 y_1 y_2 y_3 f) K) : S_X5_isZero E h p1 f K := by
  refine MI_of (cc := cX5_isZero) (maxL := 4) (ret := (some .boolean)) (by decide) rfl ?_
  intro p e s m below meth c C
  have hl := lv_entry ([.ref h, .int p1]) (n := 4) (Nat.le_of_ble_eq_true rfl)
  rw [lg_entry_eq]
  generalize (lg_sl ([.ref h, .int p1]) ++ List.replicate (4 - (lg_sl ([.ref h, .int p1])).length) Slot.unset).toArray = ls at hl ⊢
  have hl : lv_has ls 4 [(0, .ref h), (1, .int p1)] := hl
  have hS := C.2.2.2.2.2.2.2.2.2
  have key : ∀ n : Nat, (∀ (a_0 : Nat) (x_1 : Int32) (x_2 : Int32) (x_3 : Int32) (g : hm) (ls : Array Slot) (H : Heap) (locs : List Loc), I4 n a_0 x_1 x_2 x_3 g → lv_has ls 4 [(0, .ref a_0), (1, .int x_1), (2, .int x_2), (3, .int x_3)] → wS E.2.1 vwCl (wA f s.heap.size) s.heap g H locs → W p E.1 e ({ frames := 0, cells := 0, slots := 0, locals := 0 }) s m ([.ref h, .int p1] : List Value).toArray below meth c H locs 0 0 (MQ below (wQi f E.2.1 vwCl K s) ([.ref h, .int p1] : List Value).toArray s 0 0 (wA f s.heap.size)) (F0 m 4 ls [])) := by
    refine st_ind (fun n ih => ?_)
    intro a_0 x_1 x_2 x_3 g ls H locs hI hl hS
    exact R_X5_isZero_4 C a_0 x_1 x_2 x_3 g (h4 n a_0 x_1 x_2 x_3 g hI) hl hS (fun _ _ _ _ _ _ _ _ hI hl hS => by obtain ⟨k, hk, hI⟩ := hI; exact (ih k hk) _ _ _ _ _ _ _ _ hI hl hS)
  exact R_X5_isZero_0 C h p1 f h0 hl hS (fun _ _ _ _ _ _ _ _ hI hl hS => by obtain ⟨k, hI⟩ := hI; exact (key k) _ _ _ _ _ _ _ _ hI hl hS)
/-! ContinuedRatiosModel.compare(II)I -/
def S_X5_compare (E : cx) (h : Nat) (p1 : Int32) (p2 : Int32) (f : hm) (K : Int32 → hm → Prop) : Prop := MI E.1 E.2.1 vwCl (eT E) yX5_compare wsX5_compare ({ frames := 0, cells := 0, slots := 0, locals := 0 }) [.ref h, .int p1, .int p2] f K
theorem mm_X5_compare_0 : Cond.fieldLink RX5 7 "ContinuedRatiosModel" "big" "[I" ∈ wsX5_compare := by decide +kernel
theorem ii_X5_compare_X5 : ∀ w ∈ u_ws RX5 TX5 7, w ∈ wsX5_compare := by decide +kernel
def X_X5_compare_0 (E : cx) (h : Nat) (p1 : Int32) (p2 : Int32) (f : hm) (L3 : Nat → Int32 → Int32 → Int32 → hm → Prop) (K : Int32 → hm → Prop) : Prop :=
  L3 h p1 p2 (35 : Int32) f
def X_X5_compare_3 (E : cx) (a_0 : Nat) (x_1 : Int32) (x_2 : Int32) (x_3 : Int32) (f : hm) (L3 : Nat → Int32 → Int32 → Int32 → hm → Prop) (K : Int32 → hm → Prop) : Prop :=
  ((x_3 < 0 → K (0 : Int32) f) ∧ (¬ (x_3 < 0) → (∃ v2 : Nat, rdV f a_0 5 2 = some (.ref v2) ∧ (∃ v3 : Int32, rdA (eI E) f v2 (((36 : Int32) * x_1) + x_3) = some v3 ∧ (∃ v4 : Nat, rdV f a_0 5 2 = some (.ref v4) ∧ (∃ v5 : Int32, rdA (eI E) f v4 (((36 : Int32) * x_2) + x_3) = some v5 ∧ (∀ x6 : Int32, x6 = (v3 - v5) → ((x6 = 0 → (∀ x8 : Int32, x8 = x_3 + (-1) → L3 a_0 x_1 x_2 x8 f)) ∧ (¬ (x6 = 0) → ((0 ≤ x6 → K (1 : Int32) f) ∧ (¬ (0 ≤ x6) → K (-1 : Int32) f)))))))))))
set_option maxRecDepth 100000 in
set_option maxHeartbeats 4000000 in
theorem R_X5_compare_0 {E : cx} {p : Program} {e : Env} {s : State} {m : MethodId} {below : List Frame} {meth : Method} {c : Code} {f0 : hm} {zh : Nat} {zp1 : Int32} {zp2 : Int32} (C : wB E.2.1 vwCl (eT E) yX5_compare cX5_compare 5 (some .int) wsX5_compare [.ref zh, .int zp1, .int zp2] f0 p s m meth c) (h : Nat) (p1 : Int32) (p2 : Int32) (f : hm) {L3 : Nat → Int32 → Int32 → Int32 → hm → Prop} {K : Int32 → hm → Prop} (hv : X_X5_compare_0 E h p1 p2 f L3 K) {ls : Array Slot} {H : Heap} {locs : List Loc} (hl : lv_has ls 5 [(0, .ref h), (1, .int p1), (2, .int p2)]) (hS : wS E.2.1 vwCl (wA f0 s.heap.size) s.heap f H locs) (hL3 : ∀ (y_0 : Nat) (y_1 : Int32) (y_2 : Int32) (y_3 : Int32) (f : hm) (ls : Array Slot) (H : Heap) (locs : List Loc), L3 y_0 y_1 y_2 y_3 f → lv_has ls 5 [(0, .ref y_0), (1, .int y_1), (2, .int y_2), (3, .int y_3)] → wS E.2.1 vwCl (wA f0 s.heap.size) s.heap f H locs → W p E.1 e ({ frames := 0, cells := 0, slots := 0, locals := 0 }) s m ([.ref zh, .int zp1, .int zp2] : List Value).toArray below meth c H locs 0 0 (MQ below (wQi f0 E.2.1 vwCl K s) ([.ref zh, .int zp1, .int zp2] : List Value).toArray s 0 0 (wA f0 s.heap.size)) (F0 m 3 ls [])) : W p E.1 e ({ frames := 0, cells := 0, slots := 0, locals := 0 }) s m ([.ref zh, .int zp1, .int zp2] : List Value).toArray below meth c H locs 0 0 (MQ below (wQi f0 E.2.1 vwCl K s) ([.ref zh, .int zp1, .int zp2] : List Value).toArray s 0 0 (wA f0 s.heap.size)) (F0 m 0 ls []) := by
  obtain ⟨hx, hb, hml, hown, hts, hr, hlk, hnm, hK, -⟩ := C
  unfold X_X5_compare_0 at hv
  refine lv_bipush (v := 35) hx hb dX5_compare_0 (by decide) ?_
  refine lv_istore_n (lv' := [(3, .int (35 : Int32)), (0, .ref h), (1, .int p1), (2, .int p2)]) hx hb dX5_compare_2 rfl hl (by decide) rfl (fun ls hl => ?_)
  exact hL3 _ _ _ _ _ _ _ _ hv (lv_sub hl [1, 2, 3, 0] rfl) hS
set_option maxRecDepth 100000 in
set_option maxHeartbeats 4000000 in
theorem R_X5_compare_3 {E : cx} {p : Program} {e : Env} {s : State} {m : MethodId} {below : List Frame} {meth : Method} {c : Code} {f0 : hm} {zh : Nat} {zp1 : Int32} {zp2 : Int32} (C : wB E.2.1 vwCl (eT E) yX5_compare cX5_compare 5 (some .int) wsX5_compare [.ref zh, .int zp1, .int zp2] f0 p s m meth c) (a_0 : Nat) (x_1 : Int32) (x_2 : Int32) (x_3 : Int32) (f : hm) {L3 : Nat → Int32 → Int32 → Int32 → hm → Prop} {K : Int32 → hm → Prop} (hv : X_X5_compare_3 E a_0 x_1 x_2 x_3 f L3 K) {ls : Array Slot} {H : Heap} {locs : List Loc} (hl : lv_has ls 5 [(0, .ref a_0), (1, .int x_1), (2, .int x_2), (3, .int x_3)]) (hS : wS E.2.1 vwCl (wA f0 s.heap.size) s.heap f H locs) (hL3 : ∀ (y_0 : Nat) (y_1 : Int32) (y_2 : Int32) (y_3 : Int32) (f : hm) (ls : Array Slot) (H : Heap) (locs : List Loc), L3 y_0 y_1 y_2 y_3 f → lv_has ls 5 [(0, .ref y_0), (1, .int y_1), (2, .int y_2), (3, .int y_3)] → wS E.2.1 vwCl (wA f0 s.heap.size) s.heap f H locs → W p E.1 e ({ frames := 0, cells := 0, slots := 0, locals := 0 }) s m ([.ref zh, .int zp1, .int zp2] : List Value).toArray below meth c H locs 0 0 (MQ below (wQi f0 E.2.1 vwCl K s) ([.ref zh, .int zp1, .int zp2] : List Value).toArray s 0 0 (wA f0 s.heap.size)) (F0 m 3 ls [])) : W p E.1 e ({ frames := 0, cells := 0, slots := 0, locals := 0 }) s m ([.ref zh, .int zp1, .int zp2] : List Value).toArray below meth c H locs 0 0 (MQ below (wQi f0 E.2.1 vwCl K s) ([.ref zh, .int zp1, .int zp2] : List Value).toArray s 0 0 (wA f0 s.heap.size)) (F0 m 3 ls []) := by
  obtain ⟨hx, hb, hml, hown, hts, hr, hlk, hnm, hK, -⟩ := C
  unfold X_X5_compare_3 at hv
  refine lv_iload_n hx hb dX5_compare_3 rfl (lv_at hl 3 rfl) ?_
  refine lv_if_lt (tgt := 54) hx hb dX5_compare_4 (by decide) (fun c1 => ?_) (fun c1 => ?_)
  · have hv := hv.1 c1
    refine lv_iconst (v := 0) hx hb dX5_compare_54 (by decide) ?_
    exact fw_iret hx hb hr hlk hS hv dX5_compare_55
  · have hv := hv.2 c1
    refine lv_aload_n hx hb dX5_compare_7 rfl (lv_at hl 0 rfl) ?_
    obtain ⟨v2, ev2, hv⟩ := hv
    refine fw_get hx hb hts ii_X5_compare_X5 hown hK hS 2 ev2 rfl (by decide) mm_X5_compare_0 rfl dX5_compare_8 ?_
    refine lv_bipush (v := 36) hx hb dX5_compare_11 (by decide) ?_
    refine lv_iload_n hx hb dX5_compare_13 rfl (lv_at hl 1 rfl) ?_
    refine lv_imul hx hb dX5_compare_14 ?_
    refine lv_iload_n hx hb dX5_compare_15 rfl (lv_at hl 3 rfl) ?_
    refine lv_iadd hx hb dX5_compare_16 ?_
    obtain ⟨v3, ev3, hv⟩ := hv
    refine fw_ald hx hb hK hS 0 rfl ev3 dX5_compare_17 ?_
    refine lv_aload_n hx hb dX5_compare_18 rfl (lv_at hl 0 rfl) ?_
    obtain ⟨v4, ev4, hv⟩ := hv
    refine fw_get hx hb hts ii_X5_compare_X5 hown hK hS 2 ev4 rfl (by decide) mm_X5_compare_0 rfl dX5_compare_19 ?_
    refine lv_bipush (v := 36) hx hb dX5_compare_22 (by decide) ?_
    refine lv_iload_n hx hb dX5_compare_24 rfl (lv_at hl 2 rfl) ?_
    refine lv_imul hx hb dX5_compare_25 ?_
    refine lv_iload_n hx hb dX5_compare_26 rfl (lv_at hl 3 rfl) ?_
    refine lv_iadd hx hb dX5_compare_27 ?_
    obtain ⟨v5, ev5, hv⟩ := hv
    refine fw_ald hx hb hK hS 0 rfl ev5 dX5_compare_28 ?_
    refine lv_isub hx hb dX5_compare_29 ?_
    refine lv_topi (fun x6 ex6 => ?_)
    have hv := hv x6 ex6
    refine lv_istore (lv' := [(4, .int x6), (0, .ref a_0), (1, .int x_1), (2, .int x_2), (3, .int x_3)]) hx hb dX5_compare_30 hl (by decide) rfl (fun ls hl => ?_)
    refine lv_iload hx hb dX5_compare_32 (lv_at hl 0 rfl) ?_
    refine lv_if_eq (tgt := 48) hx hb dX5_compare_34 (by decide) (fun c7 => ?_) (fun c7 => ?_)
    · have hv := hv.1 c7
      obtain ⟨x8, ex8⟩ : ∃ y : Int32, y = x_3 + (-1) := ⟨_, rfl⟩
      have hv := hv x8 ex8
      refine lv_iinc (v := x8) (lv' := [(3, .int x8), (4, .int x6), (0, .ref a_0), (1, .int x_1), (2, .int x_2)]) hx hb dX5_compare_48 hl (k := 4) rfl (by rw [ex8]; rfl) (by decide) rfl (fun ls hl => ?_)
      refine lv_goto (tgt := 3) hx hb dX5_compare_51 (by decide) ?_
      exact hL3 _ _ _ _ _ _ _ _ hv (lv_sub hl [2, 3, 4, 0] rfl) hS
    · have hv := hv.2 c7
      refine lv_iload hx hb dX5_compare_37 (lv_at hl 0 rfl) ?_
      refine lv_if_ge (tgt := 46) hx hb dX5_compare_39 (by decide) (fun c9 => ?_) (fun c9 => ?_)
      · have hv := hv.1 c9
        refine lv_iconst (v := 1) hx hb dX5_compare_46 (by decide) ?_
        exact fw_iret hx hb hr hlk hS hv dX5_compare_47
      · have hv := hv.2 c9
        refine lv_iconst (v := (-1)) hx hb dX5_compare_42 (by decide) ?_
        refine lv_goto (tgt := 47) hx hb dX5_compare_43 (by decide) ?_
        exact fw_iret hx hb hr hlk hS hv dX5_compare_47
set_option maxRecDepth 100000 in
set_option maxHeartbeats 4000000 in
theorem T_X5_compare {E : cx} {h : Nat} {p1 : Int32} {p2 : Int32} {f : hm} {K : Int32 → hm → Prop} (I3 : Nat → Nat → Int32 → Int32 → Int32 → hm → Prop) (h0 : X_X5_compare_0 E h p1 p2 f (fun (y_0 : Nat) (y_1 : Int32) (y_2 : Int32) (y_3 : Int32) (f : hm) => ∃ k : Nat, I3 k y_0 y_1 y_2 y_3 f) K) (h3 : ∀ (n : Nat) (a_0 : Nat) (x_1 : Int32) (x_2 : Int32) (x_3 : Int32) (f : hm), I3 n a_0 x_1 x_2 x_3 f → X_X5_compare_3 E a_0 x_1 x_2 x_3 f (fun (y_0 : Nat) (y_1 : Int32) (y_2 : Int32) (y_3 : Int32) (f : hm) => ∃ k : Nat, k < n ∧ I3 k y_0 y_1 y_2 y_3 f) K) : S_X5_compare E h p1 p2 f K := by
  refine MI_of (cc := cX5_compare) (maxL := 5) (ret := (some .int)) (by decide) rfl ?_
  intro p e s m below meth c C
  have hl := lv_entry ([.ref h, .int p1, .int p2]) (n := 5) (Nat.le_of_ble_eq_true rfl)
  rw [lg_entry_eq]
  generalize (lg_sl ([.ref h, .int p1, .int p2]) ++ List.replicate (5 - (lg_sl ([.ref h, .int p1, .int p2])).length) Slot.unset).toArray = ls at hl ⊢
  have hl : lv_has ls 5 [(0, .ref h), (1, .int p1), (2, .int p2)] := hl
  have hS := C.2.2.2.2.2.2.2.2.2
  have key : ∀ n : Nat, (∀ (a_0 : Nat) (x_1 : Int32) (x_2 : Int32) (x_3 : Int32) (g : hm) (ls : Array Slot) (H : Heap) (locs : List Loc), I3 n a_0 x_1 x_2 x_3 g → lv_has ls 5 [(0, .ref a_0), (1, .int x_1), (2, .int x_2), (3, .int x_3)] → wS E.2.1 vwCl (wA f s.heap.size) s.heap g H locs → W p E.1 e ({ frames := 0, cells := 0, slots := 0, locals := 0 }) s m ([.ref h, .int p1, .int p2] : List Value).toArray below meth c H locs 0 0 (MQ below (wQi f E.2.1 vwCl K s) ([.ref h, .int p1, .int p2] : List Value).toArray s 0 0 (wA f s.heap.size)) (F0 m 3 ls [])) := by
    refine st_ind (fun n ih => ?_)
    intro a_0 x_1 x_2 x_3 g ls H locs hI hl hS
    exact R_X5_compare_3 C a_0 x_1 x_2 x_3 g (h3 n a_0 x_1 x_2 x_3 g hI) hl hS (fun _ _ _ _ _ _ _ _ hI hl hS => by obtain ⟨k, hk, hI⟩ := hI; exact (ih k hk) _ _ _ _ _ _ _ _ hI hl hS)
  exact R_X5_compare_0 C h p1 p2 f h0 hl hS (fun _ _ _ _ _ _ _ _ hI hl hS => by obtain ⟨k, hI⟩ := hI; exact (key k) _ _ _ _ _ _ _ _ hI hl hS)
/-! ContinuedRatiosModel.plus(II)V -/
def S_X5_plus (E : cx) (h : Nat) (p1 : Int32) (p2 : Int32) (f : hm) (K : hm → Prop) : Prop := MV E.1 E.2.1 vwCl (eT E) yX5_plus wsX5_plus ({ frames := 0, cells := 0, slots := 0, locals := 0 }) [.ref h, .int p1, .int p2] f K
theorem mm_X5_plus_0 : Cond.fieldLink RX5 7 "ContinuedRatiosModel" "big" "[I" ∈ wsX5_plus := by decide +kernel
theorem mm_X5_plus_1 : Cond.constant RX5 29 (65535) ∈ wsX5_plus := by decide +kernel
theorem ii_X5_plus_X5 : ∀ w ∈ u_ws RX5 TX5 7, w ∈ wsX5_plus := by decide +kernel
def X_X5_plus_0 (E : cx) (h : Nat) (p1 : Int32) (p2 : Int32) (f : hm) (L5 : Nat → Int32 → Int32 → Int32 → Int32 → hm → Prop) (K : hm → Prop) : Prop :=
  L5 h p1 p2 (0 : Int32) (0 : Int32) f
def X_X5_plus_5 (E : cx) (a_0 : Nat) (x_1 : Int32) (x_2 : Int32) (x_3 : Int32) (x_4 : Int32) (f : hm) (L5 : Nat → Int32 → Int32 → Int32 → Int32 → hm → Prop) (K : hm → Prop) : Prop :=
  (((36 : Int32) ≤ x_4 → K f) ∧ (¬ ((36 : Int32) ≤ x_4) → (∃ v2 : Nat, rdV f a_0 5 2 = some (.ref v2) ∧ (∃ v3 : Int32, rdA (eI E) f v2 (((36 : Int32) * x_1) + x_4) = some v3 ∧ (∃ v4 : Nat, rdV f a_0 5 2 = some (.ref v4) ∧ (∃ v5 : Int32, rdA (eI E) f v4 (((36 : Int32) * x_2) + x_4) = some v5 ∧ (∀ x6 : Int32, x6 = ((v3 + v5) + x_3) → (∃ v7 : Nat, rdV f a_0 5 2 = some (.ref v7) ∧ (∃ f8 : hm, wrA (eI E) f v7 (((36 : Int32) * x_1) + x_4) (x6 &&& (65535 : Int32)) = some f8 ∧ (∀ x9 : Int32, x9 = (x6 >>> ((16 : Int32) &&& 31)) → (∀ x10 : Int32, x10 = x_4 + (1) → L5 a_0 x_1 x_2 x9 x10 f8)))))))))))
set_option maxRecDepth 100000 in
set_option maxHeartbeats 4000000 in
theorem R_X5_plus_0 {E : cx} {p : Program} {e : Env} {s : State} {m : MethodId} {below : List Frame} {meth : Method} {c : Code} {f0 : hm} {zh : Nat} {zp1 : Int32} {zp2 : Int32} (C : wB E.2.1 vwCl (eT E) yX5_plus cX5_plus 6 none wsX5_plus [.ref zh, .int zp1, .int zp2] f0 p s m meth c) (h : Nat) (p1 : Int32) (p2 : Int32) (f : hm) {L5 : Nat → Int32 → Int32 → Int32 → Int32 → hm → Prop} {K : hm → Prop} (hv : X_X5_plus_0 E h p1 p2 f L5 K) {ls : Array Slot} {H : Heap} {locs : List Loc} (hl : lv_has ls 6 [(0, .ref h), (1, .int p1), (2, .int p2)]) (hS : wS E.2.1 vwCl (wA f0 s.heap.size) s.heap f H locs) (hL5 : ∀ (y_0 : Nat) (y_1 : Int32) (y_2 : Int32) (y_3 : Int32) (y_4 : Int32) (f : hm) (ls : Array Slot) (H : Heap) (locs : List Loc), L5 y_0 y_1 y_2 y_3 y_4 f → lv_has ls 6 [(0, .ref y_0), (1, .int y_1), (2, .int y_2), (3, .int y_3), (4, .int y_4)] → wS E.2.1 vwCl (wA f0 s.heap.size) s.heap f H locs → W p E.1 e ({ frames := 0, cells := 0, slots := 0, locals := 0 }) s m ([.ref zh, .int zp1, .int zp2] : List Value).toArray below meth c H locs 0 0 (MQ below (wQv f0 E.2.1 vwCl K s) ([.ref zh, .int zp1, .int zp2] : List Value).toArray s 0 0 (wA f0 s.heap.size)) (F0 m 5 ls [])) : W p E.1 e ({ frames := 0, cells := 0, slots := 0, locals := 0 }) s m ([.ref zh, .int zp1, .int zp2] : List Value).toArray below meth c H locs 0 0 (MQ below (wQv f0 E.2.1 vwCl K s) ([.ref zh, .int zp1, .int zp2] : List Value).toArray s 0 0 (wA f0 s.heap.size)) (F0 m 0 ls []) := by
  obtain ⟨hx, hb, hml, hown, hts, hr, hlk, hnm, hK, -⟩ := C
  unfold X_X5_plus_0 at hv
  refine lv_iconst (v := 0) hx hb dX5_plus_0 (by decide) ?_
  refine lv_istore_n (lv' := [(3, .int (0 : Int32)), (0, .ref h), (1, .int p1), (2, .int p2)]) hx hb dX5_plus_1 rfl hl (by decide) rfl (fun ls hl => ?_)
  refine lv_iconst (v := 0) hx hb dX5_plus_2 (by decide) ?_
  refine lv_istore (lv' := [(4, .int (0 : Int32)), (3, .int (0 : Int32)), (0, .ref h), (1, .int p1), (2, .int p2)]) hx hb dX5_plus_3 hl (by decide) rfl (fun ls hl => ?_)
  exact hL5 _ _ _ _ _ _ _ _ _ hv (lv_sub hl [2, 3, 4, 1, 0] rfl) hS
set_option maxRecDepth 100000 in
set_option maxHeartbeats 4000000 in
theorem R_X5_plus_5 {E : cx} {p : Program} {e : Env} {s : State} {m : MethodId} {below : List Frame} {meth : Method} {c : Code} {f0 : hm} {zh : Nat} {zp1 : Int32} {zp2 : Int32} (C : wB E.2.1 vwCl (eT E) yX5_plus cX5_plus 6 none wsX5_plus [.ref zh, .int zp1, .int zp2] f0 p s m meth c) (a_0 : Nat) (x_1 : Int32) (x_2 : Int32) (x_3 : Int32) (x_4 : Int32) (f : hm) {L5 : Nat → Int32 → Int32 → Int32 → Int32 → hm → Prop} {K : hm → Prop} (hv : X_X5_plus_5 E a_0 x_1 x_2 x_3 x_4 f L5 K) {ls : Array Slot} {H : Heap} {locs : List Loc} (hl : lv_has ls 6 [(0, .ref a_0), (1, .int x_1), (2, .int x_2), (3, .int x_3), (4, .int x_4)]) (hS : wS E.2.1 vwCl (wA f0 s.heap.size) s.heap f H locs) (hL5 : ∀ (y_0 : Nat) (y_1 : Int32) (y_2 : Int32) (y_3 : Int32) (y_4 : Int32) (f : hm) (ls : Array Slot) (H : Heap) (locs : List Loc), L5 y_0 y_1 y_2 y_3 y_4 f → lv_has ls 6 [(0, .ref y_0), (1, .int y_1), (2, .int y_2), (3, .int y_3), (4, .int y_4)] → wS E.2.1 vwCl (wA f0 s.heap.size) s.heap f H locs → W p E.1 e ({ frames := 0, cells := 0, slots := 0, locals := 0 }) s m ([.ref zh, .int zp1, .int zp2] : List Value).toArray below meth c H locs 0 0 (MQ below (wQv f0 E.2.1 vwCl K s) ([.ref zh, .int zp1, .int zp2] : List Value).toArray s 0 0 (wA f0 s.heap.size)) (F0 m 5 ls [])) : W p E.1 e ({ frames := 0, cells := 0, slots := 0, locals := 0 }) s m ([.ref zh, .int zp1, .int zp2] : List Value).toArray below meth c H locs 0 0 (MQ below (wQv f0 E.2.1 vwCl K s) ([.ref zh, .int zp1, .int zp2] : List Value).toArray s 0 0 (wA f0 s.heap.size)) (F0 m 5 ls []) := by
  obtain ⟨hx, hb, hml, hown, hts, hr, hlk, hnm, hK, -⟩ := C
  unfold X_X5_plus_5 at hv
  refine lv_iload hx hb dX5_plus_5 (lv_at hl 4 rfl) ?_
  refine lv_bipush (v := 36) hx hb dX5_plus_7 (by decide) ?_
  refine lv_icmp_ge (tgt := 70) hx hb dX5_plus_9 (by decide) (fun c1 => ?_) (fun c1 => ?_)
  · have hv := hv.1 c1
    exact fw_vret hx hb hr hlk hS hv dX5_plus_70
  · have hv := hv.2 c1
    refine lv_aload_n hx hb dX5_plus_12 rfl (lv_at hl 0 rfl) ?_
    obtain ⟨v2, ev2, hv⟩ := hv
    refine fw_get hx hb hts ii_X5_plus_X5 hown hK hS 2 ev2 rfl (by decide) mm_X5_plus_0 rfl dX5_plus_13 ?_
    refine lv_bipush (v := 36) hx hb dX5_plus_16 (by decide) ?_
    refine lv_iload_n hx hb dX5_plus_18 rfl (lv_at hl 1 rfl) ?_
    refine lv_imul hx hb dX5_plus_19 ?_
    refine lv_iload hx hb dX5_plus_20 (lv_at hl 4 rfl) ?_
    refine lv_iadd hx hb dX5_plus_22 ?_
    obtain ⟨v3, ev3, hv⟩ := hv
    refine fw_ald hx hb hK hS 0 rfl ev3 dX5_plus_23 ?_
    refine lv_aload_n hx hb dX5_plus_24 rfl (lv_at hl 0 rfl) ?_
    obtain ⟨v4, ev4, hv⟩ := hv
    refine fw_get hx hb hts ii_X5_plus_X5 hown hK hS 2 ev4 rfl (by decide) mm_X5_plus_0 rfl dX5_plus_25 ?_
    refine lv_bipush (v := 36) hx hb dX5_plus_28 (by decide) ?_
    refine lv_iload_n hx hb dX5_plus_30 rfl (lv_at hl 2 rfl) ?_
    refine lv_imul hx hb dX5_plus_31 ?_
    refine lv_iload hx hb dX5_plus_32 (lv_at hl 4 rfl) ?_
    refine lv_iadd hx hb dX5_plus_34 ?_
    obtain ⟨v5, ev5, hv⟩ := hv
    refine fw_ald hx hb hK hS 0 rfl ev5 dX5_plus_35 ?_
    refine lv_iadd hx hb dX5_plus_36 ?_
    refine lv_iload_n hx hb dX5_plus_37 rfl (lv_at hl 3 rfl) ?_
    refine lv_iadd hx hb dX5_plus_38 ?_
    refine lv_topi (fun x6 ex6 => ?_)
    have hv := hv x6 ex6
    refine lv_istore (lv' := [(5, .int x6), (0, .ref a_0), (1, .int x_1), (2, .int x_2), (3, .int x_3), (4, .int x_4)]) hx hb dX5_plus_39 hl (by decide) rfl (fun ls hl => ?_)
    refine lv_aload_n hx hb dX5_plus_41 rfl (lv_at hl 1 rfl) ?_
    obtain ⟨v7, ev7, hv⟩ := hv
    refine fw_get hx hb hts ii_X5_plus_X5 hown hK hS 2 ev7 rfl (by decide) mm_X5_plus_0 rfl dX5_plus_42 ?_
    refine lv_bipush (v := 36) hx hb dX5_plus_45 (by decide) ?_
    refine lv_iload_n hx hb dX5_plus_47 rfl (lv_at hl 2 rfl) ?_
    refine lv_imul hx hb dX5_plus_48 ?_
    refine lv_iload hx hb dX5_plus_49 (lv_at hl 5 rfl) ?_
    refine lv_iadd hx hb dX5_plus_51 ?_
    refine lv_iload hx hb dX5_plus_52 (lv_at hl 0 rfl) ?_
    refine lv_ldc (v := (65535)) hx hb hown (hts _ mm_X5_plus_1) dX5_plus_54 ?_
    refine lv_iand hx hb dX5_plus_56 ?_
    obtain ⟨f8, ef8, hv⟩ := hv
    refine fw_ast hx hb hK hS 0 rfl ef8 dX5_plus_57 (fun H locs hS => ?_)
    refine lv_iload hx hb dX5_plus_58 (lv_at hl 0 rfl) ?_
    refine lv_bipush (v := 16) hx hb dX5_plus_60 (by decide) ?_
    refine lv_ishr hx hb dX5_plus_62 ?_
    refine lv_topi (fun x9 ex9 => ?_)
    have hv := hv x9 ex9
    refine lv_istore_n (lv' := [(3, .int x9), (5, .int x6), (0, .ref a_0), (1, .int x_1), (2, .int x_2), (4, .int x_4)]) hx hb dX5_plus_63 rfl hl (by decide) rfl (fun ls hl => ?_)
    obtain ⟨x10, ex10⟩ : ∃ y : Int32, y = x_4 + (1) := ⟨_, rfl⟩
    have hv := hv x10 ex10
    refine lv_iinc (v := x10) (lv' := [(4, .int x10), (3, .int x9), (5, .int x6), (0, .ref a_0), (1, .int x_1), (2, .int x_2)]) hx hb dX5_plus_64 hl (k := 5) rfl (by rw [ex10]; rfl) (by decide) rfl (fun ls hl => ?_)
    refine lv_goto (tgt := 5) hx hb dX5_plus_67 (by decide) ?_
    exact hL5 _ _ _ _ _ _ _ _ _ hv (lv_sub hl [3, 4, 5, 1, 0] rfl) hS
set_option maxRecDepth 100000 in
set_option maxHeartbeats 4000000 in
theorem T_X5_plus {E : cx} {h : Nat} {p1 : Int32} {p2 : Int32} {f : hm} {K : hm → Prop} (I5 : Nat → Nat → Int32 → Int32 → Int32 → Int32 → hm → Prop) (h0 : X_X5_plus_0 E h p1 p2 f (fun (y_0 : Nat) (y_1 : Int32) (y_2 : Int32) (y_3 : Int32) (y_4 : Int32) (f : hm) => ∃ k : Nat, I5 k y_0 y_1 y_2 y_3 y_4 f) K) (h5 : ∀ (n : Nat) (a_0 : Nat) (x_1 : Int32) (x_2 : Int32) (x_3 : Int32) (x_4 : Int32) (f : hm), I5 n a_0 x_1 x_2 x_3 x_4 f → X_X5_plus_5 E a_0 x_1 x_2 x_3 x_4 f (fun (y_0 : Nat) (y_1 : Int32) (y_2 : Int32) (y_3 : Int32) (y_4 : Int32) (f : hm) => ∃ k : Nat, k < n ∧ I5 k y_0 y_1 y_2 y_3 y_4 f) K) : S_X5_plus E h p1 p2 f K := by
  refine MV_of (cc := cX5_plus) (maxL := 6) (ret := none) (by decide) rfl ?_
  intro p e s m below meth c C
  have hl := lv_entry ([.ref h, .int p1, .int p2]) (n := 6) (Nat.le_of_ble_eq_true rfl)
  rw [lg_entry_eq]
  generalize (lg_sl ([.ref h, .int p1, .int p2]) ++ List.replicate (6 - (lg_sl ([.ref h, .int p1, .int p2])).length) Slot.unset).toArray = ls at hl ⊢
  have hl : lv_has ls 6 [(0, .ref h), (1, .int p1), (2, .int p2)] := hl
  have hS := C.2.2.2.2.2.2.2.2.2
  have key : ∀ n : Nat, (∀ (a_0 : Nat) (x_1 : Int32) (x_2 : Int32) (x_3 : Int32) (x_4 : Int32) (g : hm) (ls : Array Slot) (H : Heap) (locs : List Loc), I5 n a_0 x_1 x_2 x_3 x_4 g → lv_has ls 6 [(0, .ref a_0), (1, .int x_1), (2, .int x_2), (3, .int x_3), (4, .int x_4)] → wS E.2.1 vwCl (wA f s.heap.size) s.heap g H locs → W p E.1 e ({ frames := 0, cells := 0, slots := 0, locals := 0 }) s m ([.ref h, .int p1, .int p2] : List Value).toArray below meth c H locs 0 0 (MQ below (wQv f E.2.1 vwCl K s) ([.ref h, .int p1, .int p2] : List Value).toArray s 0 0 (wA f s.heap.size)) (F0 m 5 ls [])) := by
    refine st_ind (fun n ih => ?_)
    intro a_0 x_1 x_2 x_3 x_4 g ls H locs hI hl hS
    exact R_X5_plus_5 C a_0 x_1 x_2 x_3 x_4 g (h5 n a_0 x_1 x_2 x_3 x_4 g hI) hl hS (fun _ _ _ _ _ _ _ _ _ hI hl hS => by obtain ⟨k, hk, hI⟩ := hI; exact (ih k hk) _ _ _ _ _ _ _ _ _ hI hl hS)
  exact R_X5_plus_0 C h p1 p2 f h0 hl hS (fun _ _ _ _ _ _ _ _ _ hI hl hS => by obtain ⟨k, hI⟩ := hI; exact (key k) _ _ _ _ _ _ _ _ _ hI hl hS)
/-! ContinuedRatiosModel.lessen(II)V -/
def S_X5_lessen (E : cx) (h : Nat) (p1 : Int32) (p2 : Int32) (f : hm) (K : hm → Prop) : Prop := MV E.1 E.2.1 vwCl (eT E) yX5_lessen wsX5_lessen ({ frames := 0, cells := 0, slots := 0, locals := 0 }) [.ref h, .int p1, .int p2] f K
theorem mm_X5_lessen_0 : Cond.fieldLink RX5 7 "ContinuedRatiosModel" "big" "[I" ∈ wsX5_lessen := by decide +kernel
theorem mm_X5_lessen_1 : Cond.constant RX5 29 (65535) ∈ wsX5_lessen := by decide +kernel
theorem ii_X5_lessen_X5 : ∀ w ∈ u_ws RX5 TX5 7, w ∈ wsX5_lessen := by decide +kernel
def X_X5_lessen_0 (E : cx) (h : Nat) (p1 : Int32) (p2 : Int32) (f : hm) (L5 : Nat → Int32 → Int32 → Int32 → Int32 → hm → Prop) (K : hm → Prop) : Prop :=
  L5 h p1 p2 (0 : Int32) (0 : Int32) f
def X_X5_lessen_5 (E : cx) (a_0 : Nat) (x_1 : Int32) (x_2 : Int32) (x_3 : Int32) (x_4 : Int32) (f : hm) (L5 : Nat → Int32 → Int32 → Int32 → Int32 → hm → Prop) (K : hm → Prop) : Prop :=
  (((36 : Int32) ≤ x_4 → K f) ∧ (¬ ((36 : Int32) ≤ x_4) → (∃ v2 : Nat, rdV f a_0 5 2 = some (.ref v2) ∧ (∃ v3 : Int32, rdA (eI E) f v2 (((36 : Int32) * x_1) + x_4) = some v3 ∧ (∃ v4 : Nat, rdV f a_0 5 2 = some (.ref v4) ∧ (∃ v5 : Int32, rdA (eI E) f v4 (((36 : Int32) * x_2) + x_4) = some v5 ∧ (∀ x6 : Int32, x6 = ((v3 - v5) - x_3) → (∃ v7 : Nat, rdV f a_0 5 2 = some (.ref v7) ∧ (∃ f8 : hm, wrA (eI E) f v7 (((36 : Int32) * x_1) + x_4) (x6 &&& (65535 : Int32)) = some f8 ∧ ((0 ≤ x6 → (∀ x10 : Int32, x10 = x_4 + (1) → L5 a_0 x_1 x_2 (0 : Int32) x10 f8)) ∧ (¬ (0 ≤ x6) → (∀ x11 : Int32, x11 = x_4 + (1) → L5 a_0 x_1 x_2 (1 : Int32) x11 f8))))))))))))
set_option maxRecDepth 100000 in
set_option maxHeartbeats 4000000 in
theorem R_X5_lessen_0 {E : cx} {p : Program} {e : Env} {s : State} {m : MethodId} {below : List Frame} {meth : Method} {c : Code} {f0 : hm} {zh : Nat} {zp1 : Int32} {zp2 : Int32} (C : wB E.2.1 vwCl (eT E) yX5_lessen cX5_lessen 6 none wsX5_lessen [.ref zh, .int zp1, .int zp2] f0 p s m meth c) (h : Nat) (p1 : Int32) (p2 : Int32) (f : hm) {L5 : Nat → Int32 → Int32 → Int32 → Int32 → hm → Prop} {K : hm → Prop} (hv : X_X5_lessen_0 E h p1 p2 f L5 K) {ls : Array Slot} {H : Heap} {locs : List Loc} (hl : lv_has ls 6 [(0, .ref h), (1, .int p1), (2, .int p2)]) (hS : wS E.2.1 vwCl (wA f0 s.heap.size) s.heap f H locs) (hL5 : ∀ (y_0 : Nat) (y_1 : Int32) (y_2 : Int32) (y_3 : Int32) (y_4 : Int32) (f : hm) (ls : Array Slot) (H : Heap) (locs : List Loc), L5 y_0 y_1 y_2 y_3 y_4 f → lv_has ls 6 [(0, .ref y_0), (1, .int y_1), (2, .int y_2), (3, .int y_3), (4, .int y_4)] → wS E.2.1 vwCl (wA f0 s.heap.size) s.heap f H locs → W p E.1 e ({ frames := 0, cells := 0, slots := 0, locals := 0 }) s m ([.ref zh, .int zp1, .int zp2] : List Value).toArray below meth c H locs 0 0 (MQ below (wQv f0 E.2.1 vwCl K s) ([.ref zh, .int zp1, .int zp2] : List Value).toArray s 0 0 (wA f0 s.heap.size)) (F0 m 5 ls [])) : W p E.1 e ({ frames := 0, cells := 0, slots := 0, locals := 0 }) s m ([.ref zh, .int zp1, .int zp2] : List Value).toArray below meth c H locs 0 0 (MQ below (wQv f0 E.2.1 vwCl K s) ([.ref zh, .int zp1, .int zp2] : List Value).toArray s 0 0 (wA f0 s.heap.size)) (F0 m 0 ls []) := by
  obtain ⟨hx, hb, hml, hown, hts, hr, hlk, hnm, hK, -⟩ := C
  unfold X_X5_lessen_0 at hv
  refine lv_iconst (v := 0) hx hb dX5_lessen_0 (by decide) ?_
  refine lv_istore_n (lv' := [(3, .int (0 : Int32)), (0, .ref h), (1, .int p1), (2, .int p2)]) hx hb dX5_lessen_1 rfl hl (by decide) rfl (fun ls hl => ?_)
  refine lv_iconst (v := 0) hx hb dX5_lessen_2 (by decide) ?_
  refine lv_istore (lv' := [(4, .int (0 : Int32)), (3, .int (0 : Int32)), (0, .ref h), (1, .int p1), (2, .int p2)]) hx hb dX5_lessen_3 hl (by decide) rfl (fun ls hl => ?_)
  exact hL5 _ _ _ _ _ _ _ _ _ hv (lv_sub hl [2, 3, 4, 1, 0] rfl) hS
set_option maxRecDepth 100000 in
set_option maxHeartbeats 4000000 in
theorem R_X5_lessen_5 {E : cx} {p : Program} {e : Env} {s : State} {m : MethodId} {below : List Frame} {meth : Method} {c : Code} {f0 : hm} {zh : Nat} {zp1 : Int32} {zp2 : Int32} (C : wB E.2.1 vwCl (eT E) yX5_lessen cX5_lessen 6 none wsX5_lessen [.ref zh, .int zp1, .int zp2] f0 p s m meth c) (a_0 : Nat) (x_1 : Int32) (x_2 : Int32) (x_3 : Int32) (x_4 : Int32) (f : hm) {L5 : Nat → Int32 → Int32 → Int32 → Int32 → hm → Prop} {K : hm → Prop} (hv : X_X5_lessen_5 E a_0 x_1 x_2 x_3 x_4 f L5 K) {ls : Array Slot} {H : Heap} {locs : List Loc} (hl : lv_has ls 6 [(0, .ref a_0), (1, .int x_1), (2, .int x_2), (3, .int x_3), (4, .int x_4)]) (hS : wS E.2.1 vwCl (wA f0 s.heap.size) s.heap f H locs) (hL5 : ∀ (y_0 : Nat) (y_1 : Int32) (y_2 : Int32) (y_3 : Int32) (y_4 : Int32) (f : hm) (ls : Array Slot) (H : Heap) (locs : List Loc), L5 y_0 y_1 y_2 y_3 y_4 f → lv_has ls 6 [(0, .ref y_0), (1, .int y_1), (2, .int y_2), (3, .int y_3), (4, .int y_4)] → wS E.2.1 vwCl (wA f0 s.heap.size) s.heap f H locs → W p E.1 e ({ frames := 0, cells := 0, slots := 0, locals := 0 }) s m ([.ref zh, .int zp1, .int zp2] : List Value).toArray below meth c H locs 0 0 (MQ below (wQv f0 E.2.1 vwCl K s) ([.ref zh, .int zp1, .int zp2] : List Value).toArray s 0 0 (wA f0 s.heap.size)) (F0 m 5 ls [])) : W p E.1 e ({ frames := 0, cells := 0, slots := 0, locals := 0 }) s m ([.ref zh, .int zp1, .int zp2] : List Value).toArray below meth c H locs 0 0 (MQ below (wQv f0 E.2.1 vwCl K s) ([.ref zh, .int zp1, .int zp2] : List Value).toArray s 0 0 (wA f0 s.heap.size)) (F0 m 5 ls []) := by
  obtain ⟨hx, hb, hml, hown, hts, hr, hlk, hnm, hK, -⟩ := C
  unfold X_X5_lessen_5 at hv
  refine lv_iload hx hb dX5_lessen_5 (lv_at hl 4 rfl) ?_
  refine lv_bipush (v := 36) hx hb dX5_lessen_7 (by decide) ?_
  refine lv_icmp_ge (tgt := 75) hx hb dX5_lessen_9 (by decide) (fun c1 => ?_) (fun c1 => ?_)
  · have hv := hv.1 c1
    exact fw_vret hx hb hr hlk hS hv dX5_lessen_75
  · have hv := hv.2 c1
    refine lv_aload_n hx hb dX5_lessen_12 rfl (lv_at hl 0 rfl) ?_
    obtain ⟨v2, ev2, hv⟩ := hv
    refine fw_get hx hb hts ii_X5_lessen_X5 hown hK hS 2 ev2 rfl (by decide) mm_X5_lessen_0 rfl dX5_lessen_13 ?_
    refine lv_bipush (v := 36) hx hb dX5_lessen_16 (by decide) ?_
    refine lv_iload_n hx hb dX5_lessen_18 rfl (lv_at hl 1 rfl) ?_
    refine lv_imul hx hb dX5_lessen_19 ?_
    refine lv_iload hx hb dX5_lessen_20 (lv_at hl 4 rfl) ?_
    refine lv_iadd hx hb dX5_lessen_22 ?_
    obtain ⟨v3, ev3, hv⟩ := hv
    refine fw_ald hx hb hK hS 0 rfl ev3 dX5_lessen_23 ?_
    refine lv_aload_n hx hb dX5_lessen_24 rfl (lv_at hl 0 rfl) ?_
    obtain ⟨v4, ev4, hv⟩ := hv
    refine fw_get hx hb hts ii_X5_lessen_X5 hown hK hS 2 ev4 rfl (by decide) mm_X5_lessen_0 rfl dX5_lessen_25 ?_
    refine lv_bipush (v := 36) hx hb dX5_lessen_28 (by decide) ?_
    refine lv_iload_n hx hb dX5_lessen_30 rfl (lv_at hl 2 rfl) ?_
    refine lv_imul hx hb dX5_lessen_31 ?_
    refine lv_iload hx hb dX5_lessen_32 (lv_at hl 4 rfl) ?_
    refine lv_iadd hx hb dX5_lessen_34 ?_
    obtain ⟨v5, ev5, hv⟩ := hv
    refine fw_ald hx hb hK hS 0 rfl ev5 dX5_lessen_35 ?_
    refine lv_isub hx hb dX5_lessen_36 ?_
    refine lv_iload_n hx hb dX5_lessen_37 rfl (lv_at hl 3 rfl) ?_
    refine lv_isub hx hb dX5_lessen_38 ?_
    refine lv_topi (fun x6 ex6 => ?_)
    have hv := hv x6 ex6
    refine lv_istore (lv' := [(5, .int x6), (0, .ref a_0), (1, .int x_1), (2, .int x_2), (3, .int x_3), (4, .int x_4)]) hx hb dX5_lessen_39 hl (by decide) rfl (fun ls hl => ?_)
    refine lv_aload_n hx hb dX5_lessen_41 rfl (lv_at hl 1 rfl) ?_
    obtain ⟨v7, ev7, hv⟩ := hv
    refine fw_get hx hb hts ii_X5_lessen_X5 hown hK hS 2 ev7 rfl (by decide) mm_X5_lessen_0 rfl dX5_lessen_42 ?_
    refine lv_bipush (v := 36) hx hb dX5_lessen_45 (by decide) ?_
    refine lv_iload_n hx hb dX5_lessen_47 rfl (lv_at hl 2 rfl) ?_
    refine lv_imul hx hb dX5_lessen_48 ?_
    refine lv_iload hx hb dX5_lessen_49 (lv_at hl 5 rfl) ?_
    refine lv_iadd hx hb dX5_lessen_51 ?_
    refine lv_iload hx hb dX5_lessen_52 (lv_at hl 0 rfl) ?_
    refine lv_ldc (v := (65535)) hx hb hown (hts _ mm_X5_lessen_1) dX5_lessen_54 ?_
    refine lv_iand hx hb dX5_lessen_56 ?_
    obtain ⟨f8, ef8, hv⟩ := hv
    refine fw_ast hx hb hK hS 0 rfl ef8 dX5_lessen_57 (fun H locs hS => ?_)
    refine lv_iload hx hb dX5_lessen_58 (lv_at hl 0 rfl) ?_
    refine lv_if_ge (tgt := 67) hx hb dX5_lessen_60 (by decide) (fun c9 => ?_) (fun c9 => ?_)
    · have hv := hv.1 c9
      refine lv_iconst (v := 0) hx hb dX5_lessen_67 (by decide) ?_
      refine lv_istore_n (lv' := [(3, .int (0 : Int32)), (5, .int x6), (0, .ref a_0), (1, .int x_1), (2, .int x_2), (4, .int x_4)]) hx hb dX5_lessen_68 rfl hl (by decide) rfl (fun ls hl => ?_)
      obtain ⟨x10, ex10⟩ : ∃ y : Int32, y = x_4 + (1) := ⟨_, rfl⟩
      have hv := hv x10 ex10
      refine lv_iinc (v := x10) (lv' := [(4, .int x10), (3, .int (0 : Int32)), (5, .int x6), (0, .ref a_0), (1, .int x_1), (2, .int x_2)]) hx hb dX5_lessen_69 hl (k := 5) rfl (by rw [ex10]; rfl) (by decide) rfl (fun ls hl => ?_)
      refine lv_goto (tgt := 5) hx hb dX5_lessen_72 (by decide) ?_
      exact hL5 _ _ _ _ _ _ _ _ _ hv (lv_sub hl [3, 4, 5, 1, 0] rfl) hS
    · have hv := hv.2 c9
      refine lv_iconst (v := 1) hx hb dX5_lessen_63 (by decide) ?_
      refine lv_goto (tgt := 68) hx hb dX5_lessen_64 (by decide) ?_
      refine lv_istore_n (lv' := [(3, .int (1 : Int32)), (5, .int x6), (0, .ref a_0), (1, .int x_1), (2, .int x_2), (4, .int x_4)]) hx hb dX5_lessen_68 rfl hl (by decide) rfl (fun ls hl => ?_)
      obtain ⟨x11, ex11⟩ : ∃ y : Int32, y = x_4 + (1) := ⟨_, rfl⟩
      have hv := hv x11 ex11
      refine lv_iinc (v := x11) (lv' := [(4, .int x11), (3, .int (1 : Int32)), (5, .int x6), (0, .ref a_0), (1, .int x_1), (2, .int x_2)]) hx hb dX5_lessen_69 hl (k := 5) rfl (by rw [ex11]; rfl) (by decide) rfl (fun ls hl => ?_)
      refine lv_goto (tgt := 5) hx hb dX5_lessen_72 (by decide) ?_
      exact hL5 _ _ _ _ _ _ _ _ _ hv (lv_sub hl [3, 4, 5, 1, 0] rfl) hS
set_option maxRecDepth 100000 in
set_option maxHeartbeats 4000000 in
theorem T_X5_lessen {E : cx} {h : Nat} {p1 : Int32} {p2 : Int32} {f : hm} {K : hm → Prop} (I5 : Nat → Nat → Int32 → Int32 → Int32 → Int32 → hm → Prop) (h0 : X_X5_lessen_0 E h p1 p2 f (fun (y_0 : Nat) (y_1 : Int32) (y_2 : Int32) (y_3 : Int32) (y_4 : Int32) (f : hm) => ∃ k : Nat, I5 k y_0 y_1 y_2 y_3 y_4 f) K) (h5 : ∀ (n : Nat) (a_0 : Nat) (x_1 : Int32) (x_2 : Int32) (x_3 : Int32) (x_4 : Int32) (f : hm), I5 n a_0 x_1 x_2 x_3 x_4 f → X_X5_lessen_5 E a_0 x_1 x_2 x_3 x_4 f (fun (y_0 : Nat) (y_1 : Int32) (y_2 : Int32) (y_3 : Int32) (y_4 : Int32) (f : hm) => ∃ k : Nat, k < n ∧ I5 k y_0 y_1 y_2 y_3 y_4 f) K) : S_X5_lessen E h p1 p2 f K := by
  refine MV_of (cc := cX5_lessen) (maxL := 6) (ret := none) (by decide) rfl ?_
  intro p e s m below meth c C
  have hl := lv_entry ([.ref h, .int p1, .int p2]) (n := 6) (Nat.le_of_ble_eq_true rfl)
  rw [lg_entry_eq]
  generalize (lg_sl ([.ref h, .int p1, .int p2]) ++ List.replicate (6 - (lg_sl ([.ref h, .int p1, .int p2])).length) Slot.unset).toArray = ls at hl ⊢
  have hl : lv_has ls 6 [(0, .ref h), (1, .int p1), (2, .int p2)] := hl
  have hS := C.2.2.2.2.2.2.2.2.2
  have key : ∀ n : Nat, (∀ (a_0 : Nat) (x_1 : Int32) (x_2 : Int32) (x_3 : Int32) (x_4 : Int32) (g : hm) (ls : Array Slot) (H : Heap) (locs : List Loc), I5 n a_0 x_1 x_2 x_3 x_4 g → lv_has ls 6 [(0, .ref a_0), (1, .int x_1), (2, .int x_2), (3, .int x_3), (4, .int x_4)] → wS E.2.1 vwCl (wA f s.heap.size) s.heap g H locs → W p E.1 e ({ frames := 0, cells := 0, slots := 0, locals := 0 }) s m ([.ref h, .int p1, .int p2] : List Value).toArray below meth c H locs 0 0 (MQ below (wQv f E.2.1 vwCl K s) ([.ref h, .int p1, .int p2] : List Value).toArray s 0 0 (wA f s.heap.size)) (F0 m 5 ls [])) := by
    refine st_ind (fun n ih => ?_)
    intro a_0 x_1 x_2 x_3 x_4 g ls H locs hI hl hS
    exact R_X5_lessen_5 C a_0 x_1 x_2 x_3 x_4 g (h5 n a_0 x_1 x_2 x_3 x_4 g hI) hl hS (fun _ _ _ _ _ _ _ _ _ hI hl hS => by obtain ⟨k, hk, hI⟩ := hI; exact (ih k hk) _ _ _ _ _ _ _ _ _ hI hl hS)
  exact R_X5_lessen_0 C h p1 p2 f h0 hl hS (fun _ _ _ _ _ _ _ _ _ hI hl hS => by obtain ⟨k, hI⟩ := hI; exact (key k) _ _ _ _ _ _ _ _ _ hI hl hS)
/-! ContinuedRatiosModel.grow(IJ)V -/
def S_X5_grow (E : cx) (h : Nat) (p1 : Int32) (p2 : Int64) (f : hm) (K : hm → Prop) : Prop := MV E.1 E.2.1 vwCl (eT E) yX5_grow wsX5_grow ({ frames := 0, cells := 0, slots := 0, locals := 0 }) [.ref h, .int p1, .long p2] f K
theorem mm_X5_grow_0 : Cond.fieldLink RX5 7 "ContinuedRatiosModel" "big" "[I" ∈ wsX5_grow := by decide +kernel
theorem mm_X5_grow_1 : Cond.constantLong RX5 27 (65535) ∈ wsX5_grow := by decide +kernel
theorem ii_X5_grow_X5 : ∀ w ∈ u_ws RX5 TX5 7, w ∈ wsX5_grow := by decide +kernel
def X_X5_grow_0 (E : cx) (h : Nat) (p1 : Int32) (p2 : Int64) (f : hm) (L6 : Nat → Int32 → Int64 → Int64 → Int32 → hm → Prop) (K : hm → Prop) : Prop :=
  L6 h p1 p2 (0 : Int64) (0 : Int32) f
def X_X5_grow_6 (E : cx) (a_0 : Nat) (x_1 : Int32) (x_2 : Int64) (x_4 : Int64) (x_6 : Int32) (f : hm) (L6 : Nat → Int32 → Int64 → Int64 → Int32 → hm → Prop) (K : hm → Prop) : Prop :=
  (((36 : Int32) ≤ x_6 → K f) ∧ (¬ ((36 : Int32) ≤ x_6) → (∃ v2 : Nat, rdV f a_0 5 2 = some (.ref v2) ∧ (∃ v3 : Int32, rdA (eI E) f v2 (((36 : Int32) * x_1) + x_6) = some v3 ∧ (∀ x4 : Int64, x4 = ((v3.toInt64 * x_2) + x_4) → (∃ v5 : Nat, rdV f a_0 5 2 = some (.ref v5) ∧ (∃ f6 : hm, wrA (eI E) f v5 (((36 : Int32) * x_1) + x_6) ((x4 &&& (65535 : Int64)).toInt32) = some f6 ∧ (∀ x7 : Int64, x7 = (j_lshr x4 (16 : Int32)) → (∀ x8 : Int32, x8 = x_6 + (1) → L6 a_0 x_1 x_2 x7 x8 f6)))))))))
set_option maxRecDepth 100000 in
set_option maxHeartbeats 4000000 in
theorem R_X5_grow_0 {E : cx} {p : Program} {e : Env} {s : State} {m : MethodId} {below : List Frame} {meth : Method} {c : Code} {f0 : hm} {zh : Nat} {zp1 : Int32} {zp2 : Int64} (C : wB E.2.1 vwCl (eT E) yX5_grow cX5_grow 9 none wsX5_grow [.ref zh, .int zp1, .long zp2] f0 p s m meth c) (h : Nat) (p1 : Int32) (p2 : Int64) (f : hm) {L6 : Nat → Int32 → Int64 → Int64 → Int32 → hm → Prop} {K : hm → Prop} (hv : X_X5_grow_0 E h p1 p2 f L6 K) {ls : Array Slot} {H : Heap} {locs : List Loc} (hl : lv_has ls 9 [(0, .ref h), (1, .int p1), (2, .long p2)]) (hS : wS E.2.1 vwCl (wA f0 s.heap.size) s.heap f H locs) (hL6 : ∀ (y_0 : Nat) (y_1 : Int32) (y_2 : Int64) (y_4 : Int64) (y_6 : Int32) (f : hm) (ls : Array Slot) (H : Heap) (locs : List Loc), L6 y_0 y_1 y_2 y_4 y_6 f → lv_has ls 9 [(0, .ref y_0), (1, .int y_1), (2, .long y_2), (4, .long y_4), (6, .int y_6)] → wS E.2.1 vwCl (wA f0 s.heap.size) s.heap f H locs → W p E.1 e ({ frames := 0, cells := 0, slots := 0, locals := 0 }) s m ([.ref zh, .int zp1, .long zp2] : List Value).toArray below meth c H locs 0 0 (MQ below (wQv f0 E.2.1 vwCl K s) ([.ref zh, .int zp1, .long zp2] : List Value).toArray s 0 0 (wA f0 s.heap.size)) (F0 m 6 ls [])) : W p E.1 e ({ frames := 0, cells := 0, slots := 0, locals := 0 }) s m ([.ref zh, .int zp1, .long zp2] : List Value).toArray below meth c H locs 0 0 (MQ below (wQv f0 E.2.1 vwCl K s) ([.ref zh, .int zp1, .long zp2] : List Value).toArray s 0 0 (wA f0 s.heap.size)) (F0 m 0 ls []) := by
  obtain ⟨hx, hb, hml, hown, hts, hr, hlk, hnm, hK, -⟩ := C
  unfold X_X5_grow_0 at hv
  refine lv_lconst (v := 0) hx hb dX5_grow_0 (by decide) ?_
  refine lv_lstore (lv' := [(4, .long (0 : Int64)), (0, .ref h), (1, .int p1), (2, .long p2)]) hx hb dX5_grow_1 hl (by decide) rfl (fun ls hl => ?_)
  refine lv_iconst (v := 0) hx hb dX5_grow_3 (by decide) ?_
  refine lv_istore (lv' := [(6, .int (0 : Int32)), (4, .long (0 : Int64)), (0, .ref h), (1, .int p1), (2, .long p2)]) hx hb dX5_grow_4 hl (by decide) rfl (fun ls hl => ?_)
  exact hL6 _ _ _ _ _ _ _ _ _ hv (lv_sub hl [2, 3, 4, 1, 0] rfl) hS
set_option maxRecDepth 100000 in
set_option maxHeartbeats 4000000 in
theorem R_X5_grow_6 {E : cx} {p : Program} {e : Env} {s : State} {m : MethodId} {below : List Frame} {meth : Method} {c : Code} {f0 : hm} {zh : Nat} {zp1 : Int32} {zp2 : Int64} (C : wB E.2.1 vwCl (eT E) yX5_grow cX5_grow 9 none wsX5_grow [.ref zh, .int zp1, .long zp2] f0 p s m meth c) (a_0 : Nat) (x_1 : Int32) (x_2 : Int64) (x_4 : Int64) (x_6 : Int32) (f : hm) {L6 : Nat → Int32 → Int64 → Int64 → Int32 → hm → Prop} {K : hm → Prop} (hv : X_X5_grow_6 E a_0 x_1 x_2 x_4 x_6 f L6 K) {ls : Array Slot} {H : Heap} {locs : List Loc} (hl : lv_has ls 9 [(0, .ref a_0), (1, .int x_1), (2, .long x_2), (4, .long x_4), (6, .int x_6)]) (hS : wS E.2.1 vwCl (wA f0 s.heap.size) s.heap f H locs) (hL6 : ∀ (y_0 : Nat) (y_1 : Int32) (y_2 : Int64) (y_4 : Int64) (y_6 : Int32) (f : hm) (ls : Array Slot) (H : Heap) (locs : List Loc), L6 y_0 y_1 y_2 y_4 y_6 f → lv_has ls 9 [(0, .ref y_0), (1, .int y_1), (2, .long y_2), (4, .long y_4), (6, .int y_6)] → wS E.2.1 vwCl (wA f0 s.heap.size) s.heap f H locs → W p E.1 e ({ frames := 0, cells := 0, slots := 0, locals := 0 }) s m ([.ref zh, .int zp1, .long zp2] : List Value).toArray below meth c H locs 0 0 (MQ below (wQv f0 E.2.1 vwCl K s) ([.ref zh, .int zp1, .long zp2] : List Value).toArray s 0 0 (wA f0 s.heap.size)) (F0 m 6 ls [])) : W p E.1 e ({ frames := 0, cells := 0, slots := 0, locals := 0 }) s m ([.ref zh, .int zp1, .long zp2] : List Value).toArray below meth c H locs 0 0 (MQ below (wQv f0 E.2.1 vwCl K s) ([.ref zh, .int zp1, .long zp2] : List Value).toArray s 0 0 (wA f0 s.heap.size)) (F0 m 6 ls []) := by
  obtain ⟨hx, hb, hml, hown, hts, hr, hlk, hnm, hK, -⟩ := C
  unfold X_X5_grow_6 at hv
  refine lv_iload hx hb dX5_grow_6 (lv_at hl 4 rfl) ?_
  refine lv_bipush (v := 36) hx hb dX5_grow_8 (by decide) ?_
  refine lv_icmp_ge (tgt := 65) hx hb dX5_grow_10 (by decide) (fun c1 => ?_) (fun c1 => ?_)
  · have hv := hv.1 c1
    exact fw_vret hx hb hr hlk hS hv dX5_grow_65
  · have hv := hv.2 c1
    refine lv_aload_n hx hb dX5_grow_13 rfl (lv_at hl 0 rfl) ?_
    obtain ⟨v2, ev2, hv⟩ := hv
    refine fw_get hx hb hts ii_X5_grow_X5 hown hK hS 2 ev2 rfl (by decide) mm_X5_grow_0 rfl dX5_grow_14 ?_
    refine lv_bipush (v := 36) hx hb dX5_grow_17 (by decide) ?_
    refine lv_iload_n hx hb dX5_grow_19 rfl (lv_at hl 1 rfl) ?_
    refine lv_imul hx hb dX5_grow_20 ?_
    refine lv_iload hx hb dX5_grow_21 (lv_at hl 4 rfl) ?_
    refine lv_iadd hx hb dX5_grow_23 ?_
    obtain ⟨v3, ev3, hv⟩ := hv
    refine fw_ald hx hb hK hS 0 rfl ev3 dX5_grow_24 ?_
    refine lv_i2l hx hb dX5_grow_25 rfl ?_
    refine lv_lload_n hx hb dX5_grow_26 rfl (lv_at hl 2 rfl) ?_
    refine lv_lmul hx hb dX5_grow_27 ?_
    refine lv_lload hx hb dX5_grow_28 (lv_at hl 3 rfl) ?_
    refine lv_ladd hx hb dX5_grow_30 ?_
    refine lv_topl (fun x4 ex4 => ?_)
    have hv := hv x4 ex4
    refine lv_lstore (lv' := [(7, .long x4), (0, .ref a_0), (1, .int x_1), (2, .long x_2), (4, .long x_4), (6, .int x_6)]) hx hb dX5_grow_31 hl (by decide) rfl (fun ls hl => ?_)
    refine lv_aload_n hx hb dX5_grow_33 rfl (lv_at hl 1 rfl) ?_
    obtain ⟨v5, ev5, hv⟩ := hv
    refine fw_get hx hb hts ii_X5_grow_X5 hown hK hS 2 ev5 rfl (by decide) mm_X5_grow_0 rfl dX5_grow_34 ?_
    refine lv_bipush (v := 36) hx hb dX5_grow_37 (by decide) ?_
    refine lv_iload_n hx hb dX5_grow_39 rfl (lv_at hl 2 rfl) ?_
    refine lv_imul hx hb dX5_grow_40 ?_
    refine lv_iload hx hb dX5_grow_41 (lv_at hl 5 rfl) ?_
    refine lv_iadd hx hb dX5_grow_43 ?_
    refine lv_lload hx hb dX5_grow_44 (lv_at hl 0 rfl) ?_
    refine lv_ldc2 (v := (65535)) hx hb hown (hts _ mm_X5_grow_1) dX5_grow_46 ?_
    refine lv_land hx hb dX5_grow_49 ?_
    refine lv_l2i hx hb dX5_grow_50 rfl ?_
    obtain ⟨f6, ef6, hv⟩ := hv
    refine fw_ast hx hb hK hS 0 rfl ef6 dX5_grow_51 (fun H locs hS => ?_)
    refine lv_lload hx hb dX5_grow_52 (lv_at hl 0 rfl) ?_
    refine lv_bipush (v := 16) hx hb dX5_grow_54 (by decide) ?_
    refine lv_lshr (v := j_lshr x4 (16 : Int32)) hx hb dX5_grow_56 rfl ?_
    refine lv_topl (fun x7 ex7 => ?_)
    have hv := hv x7 ex7
    refine lv_lstore (lv' := [(4, .long x7), (7, .long x4), (0, .ref a_0), (1, .int x_1), (2, .long x_2), (6, .int x_6)]) hx hb dX5_grow_57 hl (by decide) rfl (fun ls hl => ?_)
    obtain ⟨x8, ex8⟩ : ∃ y : Int32, y = x_6 + (1) := ⟨_, rfl⟩
    have hv := hv x8 ex8
    refine lv_iinc (v := x8) (lv' := [(6, .int x8), (4, .long x7), (7, .long x4), (0, .ref a_0), (1, .int x_1), (2, .long x_2)]) hx hb dX5_grow_59 hl (k := 5) rfl (by rw [ex8]; rfl) (by decide) rfl (fun ls hl => ?_)
    refine lv_goto (tgt := 6) hx hb dX5_grow_62 (by decide) ?_
    exact hL6 _ _ _ _ _ _ _ _ _ hv (lv_sub hl [3, 4, 5, 1, 0] rfl) hS
set_option maxRecDepth 100000 in
set_option maxHeartbeats 4000000 in
theorem T_X5_grow {E : cx} {h : Nat} {p1 : Int32} {p2 : Int64} {f : hm} {K : hm → Prop} (I6 : Nat → Nat → Int32 → Int64 → Int64 → Int32 → hm → Prop) (h0 : X_X5_grow_0 E h p1 p2 f (fun (y_0 : Nat) (y_1 : Int32) (y_2 : Int64) (y_4 : Int64) (y_6 : Int32) (f : hm) => ∃ k : Nat, I6 k y_0 y_1 y_2 y_4 y_6 f) K) (h6 : ∀ (n : Nat) (a_0 : Nat) (x_1 : Int32) (x_2 : Int64) (x_4 : Int64) (x_6 : Int32) (f : hm), I6 n a_0 x_1 x_2 x_4 x_6 f → X_X5_grow_6 E a_0 x_1 x_2 x_4 x_6 f (fun (y_0 : Nat) (y_1 : Int32) (y_2 : Int64) (y_4 : Int64) (y_6 : Int32) (f : hm) => ∃ k : Nat, k < n ∧ I6 k y_0 y_1 y_2 y_4 y_6 f) K) : S_X5_grow E h p1 p2 f K := by
  refine MV_of (cc := cX5_grow) (maxL := 9) (ret := none) (by decide) rfl ?_
  intro p e s m below meth c C
  have hl := lv_entry ([.ref h, .int p1, .long p2]) (n := 9) (Nat.le_of_ble_eq_true rfl)
  rw [lg_entry_eq]
  generalize (lg_sl ([.ref h, .int p1, .long p2]) ++ List.replicate (9 - (lg_sl ([.ref h, .int p1, .long p2])).length) Slot.unset).toArray = ls at hl ⊢
  have hl : lv_has ls 9 [(0, .ref h), (1, .int p1), (2, .long p2)] := hl
  have hS := C.2.2.2.2.2.2.2.2.2
  have key : ∀ n : Nat, (∀ (a_0 : Nat) (x_1 : Int32) (x_2 : Int64) (x_4 : Int64) (x_6 : Int32) (g : hm) (ls : Array Slot) (H : Heap) (locs : List Loc), I6 n a_0 x_1 x_2 x_4 x_6 g → lv_has ls 9 [(0, .ref a_0), (1, .int x_1), (2, .long x_2), (4, .long x_4), (6, .int x_6)] → wS E.2.1 vwCl (wA f s.heap.size) s.heap g H locs → W p E.1 e ({ frames := 0, cells := 0, slots := 0, locals := 0 }) s m ([.ref h, .int p1, .long p2] : List Value).toArray below meth c H locs 0 0 (MQ below (wQv f E.2.1 vwCl K s) ([.ref h, .int p1, .long p2] : List Value).toArray s 0 0 (wA f s.heap.size)) (F0 m 6 ls [])) := by
    refine st_ind (fun n ih => ?_)
    intro a_0 x_1 x_2 x_4 x_6 g ls H locs hI hl hS
    exact R_X5_grow_6 C a_0 x_1 x_2 x_4 x_6 g (h6 n a_0 x_1 x_2 x_4 x_6 g hI) hl hS (fun _ _ _ _ _ _ _ _ _ hI hl hS => by obtain ⟨k, hk, hI⟩ := hI; exact (ih k hk) _ _ _ _ _ _ _ _ _ hI hl hS)
  exact R_X5_grow_0 C h p1 p2 f h0 hl hS (fun _ _ _ _ _ _ _ _ _ hI hl hS => by obtain ⟨k, hI⟩ := hI; exact (key k) _ _ _ _ _ _ _ _ _ hI hl hS)
/-! ContinuedRatiosModel.halve(I)V -/
def S_X5_halve (E : cx) (h : Nat) (p1 : Int32) (f : hm) (K : hm → Prop) : Prop := MV E.1 E.2.1 vwCl (eT E) yX5_halve wsX5_halve ({ frames := 0, cells := 0, slots := 0, locals := 0 }) [.ref h, .int p1] f K
theorem mm_X5_halve_0 : Cond.fieldLink RX5 7 "ContinuedRatiosModel" "big" "[I" ∈ wsX5_halve := by decide +kernel
theorem ii_X5_halve_X5 : ∀ w ∈ u_ws RX5 TX5 7, w ∈ wsX5_halve := by decide +kernel
def X_X5_halve_0 (E : cx) (h : Nat) (p1 : Int32) (f : hm) (L2 : Nat → Int32 → Int32 → hm → Prop) (K : hm → Prop) : Prop :=
  L2 h p1 (0 : Int32) f
def X_X5_halve_2 (E : cx) (a_0 : Nat) (x_1 : Int32) (x_2 : Int32) (f : hm) (L2 : Nat → Int32 → Int32 → hm → Prop) (K : hm → Prop) : Prop :=
  (((36 : Int32) ≤ x_2 → K f) ∧ (¬ ((36 : Int32) ≤ x_2) → (((36 : Int32) ≤ (x_2 + (1 : Int32)) → (∃ v3 : Nat, rdV f a_0 5 2 = some (.ref v3) ∧ (∃ v4 : Nat, rdV f a_0 5 2 = some (.ref v4) ∧ (∃ v5 : Int32, rdA (eI E) f v4 (((36 : Int32) * x_1) + x_2) = some v5 ∧ (∃ f6 : hm, wrA (eI E) f v3 (((36 : Int32) * x_1) + x_2) ((v5 >>> ((1 : Int32) &&& 31)) ||| ((0 : Int32) <<< ((15 : Int32) &&& 31))) = some f6 ∧ (∀ x7 : Int32, x7 = x_2 + (1) → L2 a_0 x_1 x7 f6)))))) ∧ (¬ ((36 : Int32) ≤ (x_2 + (1 : Int32))) → (∃ v8 : Nat, rdV f a_0 5 2 = some (.ref v8) ∧ (∃ v9 : Int32, rdA (eI E) f v8 ((((36 : Int32) * x_1) + x_2) + (1 : Int32)) = some v9 ∧ (∀ x10 : Int32, x10 = (v9 &&& (1 : Int32)) → (∃ v11 : Nat, rdV f a_0 5 2 = some (.ref v11) ∧ (∃ v12 : Nat, rdV f a_0 5 2 = some (.ref v12) ∧ (∃ v13 : Int32, rdA (eI E) f v12 (((36 : Int32) * x_1) + x_2) = some v13 ∧ (∃ f14 : hm, wrA (eI E) f v11 (((36 : Int32) * x_1) + x_2) ((v13 >>> ((1 : Int32) &&& 31)) ||| (x10 <<< ((15 : Int32) &&& 31))) = some f14 ∧ (∀ x15 : Int32, x15 = x_2 + (1) → L2 a_0 x_1 x15 f14))))))))))))
set_option maxRecDepth 100000 in
set_option maxHeartbeats 4000000 in
theorem R_X5_halve_0 {E : cx} {p : Program} {e : Env} {s : State} {m : MethodId} {below : List Frame} {meth : Method} {c : Code} {f0 : hm} {zh : Nat} {zp1 : Int32} (C : wB E.2.1 vwCl (eT E) yX5_halve cX5_halve 4 none wsX5_halve [.ref zh, .int zp1] f0 p s m meth c) (h : Nat) (p1 : Int32) (f : hm) {L2 : Nat → Int32 → Int32 → hm → Prop} {K : hm → Prop} (hv : X_X5_halve_0 E h p1 f L2 K) {ls : Array Slot} {H : Heap} {locs : List Loc} (hl : lv_has ls 4 [(0, .ref h), (1, .int p1)]) (hS : wS E.2.1 vwCl (wA f0 s.heap.size) s.heap f H locs) (hL2 : ∀ (y_0 : Nat) (y_1 : Int32) (y_2 : Int32) (f : hm) (ls : Array Slot) (H : Heap) (locs : List Loc), L2 y_0 y_1 y_2 f → lv_has ls 4 [(0, .ref y_0), (1, .int y_1), (2, .int y_2)] → wS E.2.1 vwCl (wA f0 s.heap.size) s.heap f H locs → W p E.1 e ({ frames := 0, cells := 0, slots := 0, locals := 0 }) s m ([.ref zh, .int zp1] : List Value).toArray below meth c H locs 0 0 (MQ below (wQv f0 E.2.1 vwCl K s) ([.ref zh, .int zp1] : List Value).toArray s 0 0 (wA f0 s.heap.size)) (F0 m 2 ls [])) : W p E.1 e ({ frames := 0, cells := 0, slots := 0, locals := 0 }) s m ([.ref zh, .int zp1] : List Value).toArray below meth c H locs 0 0 (MQ below (wQv f0 E.2.1 vwCl K s) ([.ref zh, .int zp1] : List Value).toArray s 0 0 (wA f0 s.heap.size)) (F0 m 0 ls []) := by
  obtain ⟨hx, hb, hml, hown, hts, hr, hlk, hnm, hK, -⟩ := C
  unfold X_X5_halve_0 at hv
  refine lv_iconst (v := 0) hx hb dX5_halve_0 (by decide) ?_
  refine lv_istore_n (lv' := [(2, .int (0 : Int32)), (0, .ref h), (1, .int p1)]) hx hb dX5_halve_1 rfl hl (by decide) rfl (fun ls hl => ?_)
  exact hL2 _ _ _ _ _ _ _ hv (lv_sub hl [1, 2, 0] rfl) hS
set_option maxRecDepth 100000 in
set_option maxHeartbeats 4000000 in
theorem R_X5_halve_2 {E : cx} {p : Program} {e : Env} {s : State} {m : MethodId} {below : List Frame} {meth : Method} {c : Code} {f0 : hm} {zh : Nat} {zp1 : Int32} (C : wB E.2.1 vwCl (eT E) yX5_halve cX5_halve 4 none wsX5_halve [.ref zh, .int zp1] f0 p s m meth c) (a_0 : Nat) (x_1 : Int32) (x_2 : Int32) (f : hm) {L2 : Nat → Int32 → Int32 → hm → Prop} {K : hm → Prop} (hv : X_X5_halve_2 E a_0 x_1 x_2 f L2 K) {ls : Array Slot} {H : Heap} {locs : List Loc} (hl : lv_has ls 4 [(0, .ref a_0), (1, .int x_1), (2, .int x_2)]) (hS : wS E.2.1 vwCl (wA f0 s.heap.size) s.heap f H locs) (hL2 : ∀ (y_0 : Nat) (y_1 : Int32) (y_2 : Int32) (f : hm) (ls : Array Slot) (H : Heap) (locs : List Loc), L2 y_0 y_1 y_2 f → lv_has ls 4 [(0, .ref y_0), (1, .int y_1), (2, .int y_2)] → wS E.2.1 vwCl (wA f0 s.heap.size) s.heap f H locs → W p E.1 e ({ frames := 0, cells := 0, slots := 0, locals := 0 }) s m ([.ref zh, .int zp1] : List Value).toArray below meth c H locs 0 0 (MQ below (wQv f0 E.2.1 vwCl K s) ([.ref zh, .int zp1] : List Value).toArray s 0 0 (wA f0 s.heap.size)) (F0 m 2 ls [])) : W p E.1 e ({ frames := 0, cells := 0, slots := 0, locals := 0 }) s m ([.ref zh, .int zp1] : List Value).toArray below meth c H locs 0 0 (MQ below (wQv f0 E.2.1 vwCl K s) ([.ref zh, .int zp1] : List Value).toArray s 0 0 (wA f0 s.heap.size)) (F0 m 2 ls []) := by
  obtain ⟨hx, hb, hml, hown, hts, hr, hlk, hnm, hK, -⟩ := C
  unfold X_X5_halve_2 at hv
  refine lv_iload_n hx hb dX5_halve_2 rfl (lv_at hl 2 rfl) ?_
  refine lv_bipush (v := 36) hx hb dX5_halve_3 (by decide) ?_
  refine lv_icmp_ge (tgt := 71) hx hb dX5_halve_5 (by decide) (fun c1 => ?_) (fun c1 => ?_)
  · have hv := hv.1 c1
    exact fw_vret hx hb hr hlk hS hv dX5_halve_71
  · have hv := hv.2 c1
    refine lv_iload_n hx hb dX5_halve_8 rfl (lv_at hl 2 rfl) ?_
    refine lv_iconst (v := 1) hx hb dX5_halve_9 (by decide) ?_
    refine lv_iadd hx hb dX5_halve_10 ?_
    refine lv_bipush (v := 36) hx hb dX5_halve_11 (by decide) ?_
    refine lv_icmp_ge (tgt := 34) hx hb dX5_halve_13 (by decide) (fun c2 => ?_) (fun c2 => ?_)
    · have hv := hv.1 c2
      refine lv_iconst (v := 0) hx hb dX5_halve_34 (by decide) ?_
      refine lv_istore_n (lv' := [(3, .int (0 : Int32)), (0, .ref a_0), (1, .int x_1), (2, .int x_2)]) hx hb dX5_halve_35 rfl hl (by decide) rfl (fun ls hl => ?_)
      refine lv_aload_n hx hb dX5_halve_36 rfl (lv_at hl 1 rfl) ?_
      obtain ⟨v3, ev3, hv⟩ := hv
      refine fw_get hx hb hts ii_X5_halve_X5 hown hK hS 2 ev3 rfl (by decide) mm_X5_halve_0 rfl dX5_halve_37 ?_
      refine lv_bipush (v := 36) hx hb dX5_halve_40 (by decide) ?_
      refine lv_iload_n hx hb dX5_halve_42 rfl (lv_at hl 2 rfl) ?_
      refine lv_imul hx hb dX5_halve_43 ?_
      refine lv_iload_n hx hb dX5_halve_44 rfl (lv_at hl 3 rfl) ?_
      refine lv_iadd hx hb dX5_halve_45 ?_
      refine lv_aload_n hx hb dX5_halve_46 rfl (lv_at hl 1 rfl) ?_
      obtain ⟨v4, ev4, hv⟩ := hv
      refine fw_get hx hb hts ii_X5_halve_X5 hown hK hS 2 ev4 rfl (by decide) mm_X5_halve_0 rfl dX5_halve_47 ?_
      refine lv_bipush (v := 36) hx hb dX5_halve_50 (by decide) ?_
      refine lv_iload_n hx hb dX5_halve_52 rfl (lv_at hl 2 rfl) ?_
      refine lv_imul hx hb dX5_halve_53 ?_
      refine lv_iload_n hx hb dX5_halve_54 rfl (lv_at hl 3 rfl) ?_
      refine lv_iadd hx hb dX5_halve_55 ?_
      obtain ⟨v5, ev5, hv⟩ := hv
      refine fw_ald hx hb hK hS 0 rfl ev5 dX5_halve_56 ?_
      refine lv_iconst (v := 1) hx hb dX5_halve_57 (by decide) ?_
      refine lv_ishr hx hb dX5_halve_58 ?_
      refine lv_iload_n hx hb dX5_halve_59 rfl (lv_at hl 0 rfl) ?_
      refine lv_bipush (v := 15) hx hb dX5_halve_60 (by decide) ?_
      refine lv_ishl hx hb dX5_halve_62 ?_
      refine lv_ior hx hb dX5_halve_63 ?_
      obtain ⟨f6, ef6, hv⟩ := hv
      refine fw_ast hx hb hK hS 0 rfl ef6 dX5_halve_64 (fun H locs hS => ?_)
      obtain ⟨x7, ex7⟩ : ∃ y : Int32, y = x_2 + (1) := ⟨_, rfl⟩
      have hv := hv x7 ex7
      refine lv_iinc (v := x7) (lv' := [(2, .int x7), (3, .int (0 : Int32)), (0, .ref a_0), (1, .int x_1)]) hx hb dX5_halve_65 hl (k := 3) rfl (by rw [ex7]; rfl) (by decide) rfl (fun ls hl => ?_)
      refine lv_goto (tgt := 2) hx hb dX5_halve_68 (by decide) ?_
      exact hL2 _ _ _ _ _ _ _ hv (lv_sub hl [2, 3, 0] rfl) hS
    · have hv := hv.2 c2
      refine lv_aload_n hx hb dX5_halve_16 rfl (lv_at hl 0 rfl) ?_
      obtain ⟨v8, ev8, hv⟩ := hv
      refine fw_get hx hb hts ii_X5_halve_X5 hown hK hS 2 ev8 rfl (by decide) mm_X5_halve_0 rfl dX5_halve_17 ?_
      refine lv_bipush (v := 36) hx hb dX5_halve_20 (by decide) ?_
      refine lv_iload_n hx hb dX5_halve_22 rfl (lv_at hl 1 rfl) ?_
      refine lv_imul hx hb dX5_halve_23 ?_
      refine lv_iload_n hx hb dX5_halve_24 rfl (lv_at hl 2 rfl) ?_
      refine lv_iadd hx hb dX5_halve_25 ?_
      refine lv_iconst (v := 1) hx hb dX5_halve_26 (by decide) ?_
      refine lv_iadd hx hb dX5_halve_27 ?_
      obtain ⟨v9, ev9, hv⟩ := hv
      refine fw_ald hx hb hK hS 0 rfl ev9 dX5_halve_28 ?_
      refine lv_iconst (v := 1) hx hb dX5_halve_29 (by decide) ?_
      refine lv_iand hx hb dX5_halve_30 ?_
      refine lv_goto (tgt := 35) hx hb dX5_halve_31 (by decide) ?_
      refine lv_topi (fun x10 ex10 => ?_)
      have hv := hv x10 ex10
      refine lv_istore_n (lv' := [(3, .int x10), (0, .ref a_0), (1, .int x_1), (2, .int x_2)]) hx hb dX5_halve_35 rfl hl (by decide) rfl (fun ls hl => ?_)
      refine lv_aload_n hx hb dX5_halve_36 rfl (lv_at hl 1 rfl) ?_
      obtain ⟨v11, ev11, hv⟩ := hv
      refine fw_get hx hb hts ii_X5_halve_X5 hown hK hS 2 ev11 rfl (by decide) mm_X5_halve_0 rfl dX5_halve_37 ?_
      refine lv_bipush (v := 36) hx hb dX5_halve_40 (by decide) ?_
      refine lv_iload_n hx hb dX5_halve_42 rfl (lv_at hl 2 rfl) ?_
      refine lv_imul hx hb dX5_halve_43 ?_
      refine lv_iload_n hx hb dX5_halve_44 rfl (lv_at hl 3 rfl) ?_
      refine lv_iadd hx hb dX5_halve_45 ?_
      refine lv_aload_n hx hb dX5_halve_46 rfl (lv_at hl 1 rfl) ?_
      obtain ⟨v12, ev12, hv⟩ := hv
      refine fw_get hx hb hts ii_X5_halve_X5 hown hK hS 2 ev12 rfl (by decide) mm_X5_halve_0 rfl dX5_halve_47 ?_
      refine lv_bipush (v := 36) hx hb dX5_halve_50 (by decide) ?_
      refine lv_iload_n hx hb dX5_halve_52 rfl (lv_at hl 2 rfl) ?_
      refine lv_imul hx hb dX5_halve_53 ?_
      refine lv_iload_n hx hb dX5_halve_54 rfl (lv_at hl 3 rfl) ?_
      refine lv_iadd hx hb dX5_halve_55 ?_
      obtain ⟨v13, ev13, hv⟩ := hv
      refine fw_ald hx hb hK hS 0 rfl ev13 dX5_halve_56 ?_
      refine lv_iconst (v := 1) hx hb dX5_halve_57 (by decide) ?_
      refine lv_ishr hx hb dX5_halve_58 ?_
      refine lv_iload_n hx hb dX5_halve_59 rfl (lv_at hl 0 rfl) ?_
      refine lv_bipush (v := 15) hx hb dX5_halve_60 (by decide) ?_
      refine lv_ishl hx hb dX5_halve_62 ?_
      refine lv_ior hx hb dX5_halve_63 ?_
      obtain ⟨f14, ef14, hv⟩ := hv
      refine fw_ast hx hb hK hS 0 rfl ef14 dX5_halve_64 (fun H locs hS => ?_)
      obtain ⟨x15, ex15⟩ : ∃ y : Int32, y = x_2 + (1) := ⟨_, rfl⟩
      have hv := hv x15 ex15
      refine lv_iinc (v := x15) (lv' := [(2, .int x15), (3, .int x10), (0, .ref a_0), (1, .int x_1)]) hx hb dX5_halve_65 hl (k := 3) rfl (by rw [ex15]; rfl) (by decide) rfl (fun ls hl => ?_)
      refine lv_goto (tgt := 2) hx hb dX5_halve_68 (by decide) ?_
      exact hL2 _ _ _ _ _ _ _ hv (lv_sub hl [2, 3, 0] rfl) hS
set_option maxRecDepth 100000 in
set_option maxHeartbeats 4000000 in
theorem T_X5_halve {E : cx} {h : Nat} {p1 : Int32} {f : hm} {K : hm → Prop} (I2 : Nat → Nat → Int32 → Int32 → hm → Prop) (h0 : X_X5_halve_0 E h p1 f (fun (y_0 : Nat) (y_1 : Int32) (y_2 : Int32) (f : hm) => ∃ k : Nat, I2 k y_0 y_1 y_2 f) K) (h2 : ∀ (n : Nat) (a_0 : Nat) (x_1 : Int32) (x_2 : Int32) (f : hm), I2 n a_0 x_1 x_2 f → X_X5_halve_2 E a_0 x_1 x_2 f (fun (y_0 : Nat) (y_1 : Int32) (y_2 : Int32) (f : hm) => ∃ k : Nat, k < n ∧ I2 k y_0 y_1 y_2 f) K) : S_X5_halve E h p1 f K := by
  refine MV_of (cc := cX5_halve) (maxL := 4) (ret := none) (by decide) rfl ?_
  intro p e s m below meth c C
  have hl := lv_entry ([.ref h, .int p1]) (n := 4) (Nat.le_of_ble_eq_true rfl)
  rw [lg_entry_eq]
  generalize (lg_sl ([.ref h, .int p1]) ++ List.replicate (4 - (lg_sl ([.ref h, .int p1])).length) Slot.unset).toArray = ls at hl ⊢
  have hl : lv_has ls 4 [(0, .ref h), (1, .int p1)] := hl
  have hS := C.2.2.2.2.2.2.2.2.2
  have key : ∀ n : Nat, (∀ (a_0 : Nat) (x_1 : Int32) (x_2 : Int32) (g : hm) (ls : Array Slot) (H : Heap) (locs : List Loc), I2 n a_0 x_1 x_2 g → lv_has ls 4 [(0, .ref a_0), (1, .int x_1), (2, .int x_2)] → wS E.2.1 vwCl (wA f s.heap.size) s.heap g H locs → W p E.1 e ({ frames := 0, cells := 0, slots := 0, locals := 0 }) s m ([.ref h, .int p1] : List Value).toArray below meth c H locs 0 0 (MQ below (wQv f E.2.1 vwCl K s) ([.ref h, .int p1] : List Value).toArray s 0 0 (wA f s.heap.size)) (F0 m 2 ls [])) := by
    refine st_ind (fun n ih => ?_)
    intro a_0 x_1 x_2 g ls H locs hI hl hS
    exact R_X5_halve_2 C a_0 x_1 x_2 g (h2 n a_0 x_1 x_2 g hI) hl hS (fun _ _ _ _ _ _ _ hI hl hS => by obtain ⟨k, hk, hI⟩ := hI; exact (ih k hk) _ _ _ _ _ _ _ hI hl hS)
  exact R_X5_halve_0 C h p1 f h0 hl hS (fun _ _ _ _ _ _ _ hI hl hS => by obtain ⟨k, hI⟩ := hI; exact (key k) _ _ _ _ _ _ _ hI hl hS)
/-! ContinuedRatiosModel.isEven(I)Z -/
def S_X5_isEven (E : cx) (h : Nat) (p1 : Int32) (f : hm) (K : Int32 → hm → Prop) : Prop := MI E.1 E.2.1 vwCl (eT E) yX5_isEven wsX5_isEven ({ frames := 0, cells := 0, slots := 0, locals := 0 }) [.ref h, .int p1] f K
theorem mm_X5_isEven_0 : Cond.fieldLink RX5 7 "ContinuedRatiosModel" "big" "[I" ∈ wsX5_isEven := by decide +kernel
theorem ii_X5_isEven_X5 : ∀ w ∈ u_ws RX5 TX5 7, w ∈ wsX5_isEven := by decide +kernel
def X_X5_isEven_0 (E : cx) (h : Nat) (p1 : Int32) (f : hm)  (K : Int32 → hm → Prop) : Prop :=
  (∃ v1 : Nat, rdV f h 5 2 = some (.ref v1) ∧ (∃ v2 : Int32, rdA (eI E) f v1 ((36 : Int32) * p1) = some v2 ∧ ((¬ (v2 &&& (1 : Int32)) = 0 → (narrow .boolean (.int (0 : Int32)) = .int (0 : Int32) ∧ K (0 : Int32) f)) ∧ ((v2 &&& (1 : Int32)) = 0 → (narrow .boolean (.int (1 : Int32)) = .int (1 : Int32) ∧ K (1 : Int32) f)))))
set_option maxRecDepth 100000 in
set_option maxHeartbeats 4000000 in
theorem R_X5_isEven_0 {E : cx} {p : Program} {e : Env} {s : State} {m : MethodId} {below : List Frame} {meth : Method} {c : Code} {f0 : hm} {zh : Nat} {zp1 : Int32} (C : wB E.2.1 vwCl (eT E) yX5_isEven cX5_isEven 2 (some .boolean) wsX5_isEven [.ref zh, .int zp1] f0 p s m meth c) (h : Nat) (p1 : Int32) (f : hm)  {K : Int32 → hm → Prop} (hv : X_X5_isEven_0 E h p1 f  K) {ls : Array Slot} {H : Heap} {locs : List Loc} (hl : lv_has ls 2 [(0, .ref h), (1, .int p1)]) (hS : wS E.2.1 vwCl (wA f0 s.heap.size) s.heap f H locs)  : W p E.1 e ({ frames := 0, cells := 0, slots := 0, locals := 0 }) s m ([.ref zh, .int zp1] : List Value).toArray below meth c H locs 0 0 (MQ below (wQi f0 E.2.1 vwCl K s) ([.ref zh, .int zp1] : List Value).toArray s 0 0 (wA f0 s.heap.size)) (F0 m 0 ls []) := by
  obtain ⟨hx, hb, hml, hown, hts, hr, hlk, hnm, hK, -⟩ := C
  unfold X_X5_isEven_0 at hv
  refine lv_aload_n hx hb dX5_isEven_0 rfl (lv_at hl 0 rfl) ?_
  obtain ⟨v1, ev1, hv⟩ := hv
  refine fw_get hx hb hts ii_X5_isEven_X5 hown hK hS 2 ev1 rfl (by decide) mm_X5_isEven_0 rfl dX5_isEven_1 ?_
  refine lv_bipush (v := 36) hx hb dX5_isEven_4 (by decide) ?_
  refine lv_iload_n hx hb dX5_isEven_6 rfl (lv_at hl 1 rfl) ?_
  refine lv_imul hx hb dX5_isEven_7 ?_
  obtain ⟨v2, ev2, hv⟩ := hv
  refine fw_ald hx hb hK hS 0 rfl ev2 dX5_isEven_8 ?_
  refine lv_iconst (v := 1) hx hb dX5_isEven_9 (by decide) ?_
  refine lv_iand hx hb dX5_isEven_10 ?_
  refine lv_if_ne (tgt := 18) hx hb dX5_isEven_11 (by decide) (fun c3 => ?_) (fun c3 => ?_)
  · have hv := hv.1 c3
    refine lv_iconst (v := 0) hx hb dX5_isEven_18 (by decide) ?_
    exact fw_zret hx hb hr hlk hS hv dX5_isEven_19
  · have hv := hv.2 c3
    refine lv_iconst (v := 1) hx hb dX5_isEven_14 (by decide) ?_
    refine lv_goto (tgt := 19) hx hb dX5_isEven_15 (by decide) ?_
    exact fw_zret hx hb hr hlk hS hv dX5_isEven_19
set_option maxRecDepth 100000 in
set_option maxHeartbeats 4000000 in
theorem T_X5_isEven {E : cx} {h : Nat} {p1 : Int32} {f : hm} {K : Int32 → hm → Prop}  (h0 : X_X5_isEven_0 E h p1 f  K) : S_X5_isEven E h p1 f K := by
  refine MI_of (cc := cX5_isEven) (maxL := 2) (ret := (some .boolean)) (by decide) rfl ?_
  intro p e s m below meth c C
  have hl := lv_entry ([.ref h, .int p1]) (n := 2) (Nat.le_of_ble_eq_true rfl)
  rw [lg_entry_eq]
  generalize (lg_sl ([.ref h, .int p1]) ++ List.replicate (2 - (lg_sl ([.ref h, .int p1])).length) Slot.unset).toArray = ls at hl ⊢
  have hl : lv_has ls 2 [(0, .ref h), (1, .int p1)] := hl
  have hS := C.2.2.2.2.2.2.2.2.2
  exact R_X5_isEven_0 C h p1 f h0 hl hS
/-! ContinuedRatiosModel.bitsOf(I)I -/
def S_X5_bitsOf (E : cx) (h : Nat) (p1 : Int32) (f : hm) (K : Int32 → hm → Prop) : Prop := MI E.1 E.2.1 vwCl (eT E) yX5_bitsOf wsX5_bitsOf ({ frames := 0, cells := 0, slots := 0, locals := 0 }) [.ref h, .int p1] f K
theorem mm_X5_bitsOf_0 : Cond.fieldLink RX5 7 "ContinuedRatiosModel" "big" "[I" ∈ wsX5_bitsOf := by decide +kernel
theorem ii_X5_bitsOf_X5 : ∀ w ∈ u_ws RX5 TX5 7, w ∈ wsX5_bitsOf := by decide +kernel
def X_X5_bitsOf_0 (E : cx) (h : Nat) (p1 : Int32) (f : hm) (L3 : Nat → Int32 → Int32 → hm → Prop) (K : Int32 → hm → Prop) : Prop :=
  L3 h p1 (35 : Int32) f
def X_X5_bitsOf_3 (E : cx) (a_0 : Nat) (x_1 : Int32) (x_2 : Int32) (f : hm) (L3 : Nat → Int32 → Int32 → hm → Prop) (L34 : Nat → Int32 → Int32 → Int32 → hm → Prop) (K : Int32 → hm → Prop) : Prop :=
  ((x_2 < 0 → (∀ x2 : Int32, x2 = ((16 : Int32) * (x_2 + (1 : Int32))) → L34 a_0 x_1 x_2 x2 f)) ∧ (¬ (x_2 < 0) → (∃ v3 : Nat, rdV f a_0 5 2 = some (.ref v3) ∧ (∃ v4 : Int32, rdA (eI E) f v3 (((36 : Int32) * x_1) + x_2) = some v4 ∧ ((¬ v4 = 0 → (∀ x6 : Int32, x6 = ((16 : Int32) * (x_2 + (1 : Int32))) → L34 a_0 x_1 x_2 x6 f)) ∧ (v4 = 0 → (∀ x7 : Int32, x7 = x_2 + (-1) → L3 a_0 x_1 x7 f)))))))
def X_X5_bitsOf_34 (E : cx) (a_0 : Nat) (x_1 : Int32) (x_2 : Int32) (x_3 : Int32) (f : hm) (L34 : Nat → Int32 → Int32 → Int32 → hm → Prop) (K : Int32 → hm → Prop) : Prop :=
  ((x_2 < 0 → K x_3 f) ∧ (¬ (x_2 < 0) → (∃ v2 : Nat, rdV f a_0 5 2 = some (.ref v2) ∧ (∃ v3 : Int32, rdA (eI E) f v2 (((36 : Int32) * x_1) + x_2) = some v3 ∧ ((¬ ((v3 >>> (((x_3 - (1 : Int32)) - ((16 : Int32) * x_2)) &&& 31)) &&& (1 : Int32)) = 0 → K x_3 f) ∧ (((v3 >>> (((x_3 - (1 : Int32)) - ((16 : Int32) * x_2)) &&& 31)) &&& (1 : Int32)) = 0 → (∀ x5 : Int32, x5 = x_3 + (-1) → L34 a_0 x_1 x_2 x5 f)))))))
set_option maxRecDepth 100000 in
set_option maxHeartbeats 4000000 in
theorem R_X5_bitsOf_0 {E : cx} {p : Program} {e : Env} {s : State} {m : MethodId} {below : List Frame} {meth : Method} {c : Code} {f0 : hm} {zh : Nat} {zp1 : Int32} (C : wB E.2.1 vwCl (eT E) yX5_bitsOf cX5_bitsOf 4 (some .int) wsX5_bitsOf [.ref zh, .int zp1] f0 p s m meth c) (h : Nat) (p1 : Int32) (f : hm) {L3 : Nat → Int32 → Int32 → hm → Prop} {K : Int32 → hm → Prop} (hv : X_X5_bitsOf_0 E h p1 f L3 K) {ls : Array Slot} {H : Heap} {locs : List Loc} (hl : lv_has ls 4 [(0, .ref h), (1, .int p1)]) (hS : wS E.2.1 vwCl (wA f0 s.heap.size) s.heap f H locs) (hL3 : ∀ (y_0 : Nat) (y_1 : Int32) (y_2 : Int32) (f : hm) (ls : Array Slot) (H : Heap) (locs : List Loc), L3 y_0 y_1 y_2 f → lv_has ls 4 [(0, .ref y_0), (1, .int y_1), (2, .int y_2)] → wS E.2.1 vwCl (wA f0 s.heap.size) s.heap f H locs → W p E.1 e ({ frames := 0, cells := 0, slots := 0, locals := 0 }) s m ([.ref zh, .int zp1] : List Value).toArray below meth c H locs 0 0 (MQ below (wQi f0 E.2.1 vwCl K s) ([.ref zh, .int zp1] : List Value).toArray s 0 0 (wA f0 s.heap.size)) (F0 m 3 ls [])) : W p E.1 e ({ frames := 0, cells := 0, slots := 0, locals := 0 }) s m ([.ref zh, .int zp1] : List Value).toArray below meth c H locs 0 0 (MQ below (wQi f0 E.2.1 vwCl K s) ([.ref zh, .int zp1] : List Value).toArray s 0 0 (wA f0 s.heap.size)) (F0 m 0 ls []) := by
  obtain ⟨hx, hb, hml, hown, hts, hr, hlk, hnm, hK, -⟩ := C
  unfold X_X5_bitsOf_0 at hv
  refine lv_bipush (v := 35) hx hb dX5_bitsOf_0 (by decide) ?_
  refine lv_istore_n (lv' := [(2, .int (35 : Int32)), (0, .ref h), (1, .int p1)]) hx hb dX5_bitsOf_2 rfl hl (by decide) rfl (fun ls hl => ?_)
  exact hL3 _ _ _ _ _ _ _ hv (lv_sub hl [1, 2, 0] rfl) hS
set_option maxRecDepth 100000 in
set_option maxHeartbeats 4000000 in
theorem R_X5_bitsOf_3 {E : cx} {p : Program} {e : Env} {s : State} {m : MethodId} {below : List Frame} {meth : Method} {c : Code} {f0 : hm} {zh : Nat} {zp1 : Int32} (C : wB E.2.1 vwCl (eT E) yX5_bitsOf cX5_bitsOf 4 (some .int) wsX5_bitsOf [.ref zh, .int zp1] f0 p s m meth c) (a_0 : Nat) (x_1 : Int32) (x_2 : Int32) (f : hm) {L3 : Nat → Int32 → Int32 → hm → Prop} {L34 : Nat → Int32 → Int32 → Int32 → hm → Prop} {K : Int32 → hm → Prop} (hv : X_X5_bitsOf_3 E a_0 x_1 x_2 f L3 L34 K) {ls : Array Slot} {H : Heap} {locs : List Loc} (hl : lv_has ls 4 [(0, .ref a_0), (1, .int x_1), (2, .int x_2)]) (hS : wS E.2.1 vwCl (wA f0 s.heap.size) s.heap f H locs) (hL3 : ∀ (y_0 : Nat) (y_1 : Int32) (y_2 : Int32) (f : hm) (ls : Array Slot) (H : Heap) (locs : List Loc), L3 y_0 y_1 y_2 f → lv_has ls 4 [(0, .ref y_0), (1, .int y_1), (2, .int y_2)] → wS E.2.1 vwCl (wA f0 s.heap.size) s.heap f H locs → W p E.1 e ({ frames := 0, cells := 0, slots := 0, locals := 0 }) s m ([.ref zh, .int zp1] : List Value).toArray below meth c H locs 0 0 (MQ below (wQi f0 E.2.1 vwCl K s) ([.ref zh, .int zp1] : List Value).toArray s 0 0 (wA f0 s.heap.size)) (F0 m 3 ls [])) (hL34 : ∀ (y_0 : Nat) (y_1 : Int32) (y_2 : Int32) (y_3 : Int32) (f : hm) (ls : Array Slot) (H : Heap) (locs : List Loc), L34 y_0 y_1 y_2 y_3 f → lv_has ls 4 [(0, .ref y_0), (1, .int y_1), (2, .int y_2), (3, .int y_3)] → wS E.2.1 vwCl (wA f0 s.heap.size) s.heap f H locs → W p E.1 e ({ frames := 0, cells := 0, slots := 0, locals := 0 }) s m ([.ref zh, .int zp1] : List Value).toArray below meth c H locs 0 0 (MQ below (wQi f0 E.2.1 vwCl K s) ([.ref zh, .int zp1] : List Value).toArray s 0 0 (wA f0 s.heap.size)) (F0 m 34 ls [])) : W p E.1 e ({ frames := 0, cells := 0, slots := 0, locals := 0 }) s m ([.ref zh, .int zp1] : List Value).toArray below meth c H locs 0 0 (MQ below (wQi f0 E.2.1 vwCl K s) ([.ref zh, .int zp1] : List Value).toArray s 0 0 (wA f0 s.heap.size)) (F0 m 3 ls []) := by
  obtain ⟨hx, hb, hml, hown, hts, hr, hlk, hnm, hK, -⟩ := C
  unfold X_X5_bitsOf_3 at hv
  refine lv_iload_n hx hb dX5_bitsOf_3 rfl (lv_at hl 2 rfl) ?_
  refine lv_if_lt (tgt := 27) hx hb dX5_bitsOf_4 (by decide) (fun c1 => ?_) (fun c1 => ?_)
  · have hv := hv.1 c1
    refine lv_bipush (v := 16) hx hb dX5_bitsOf_27 (by decide) ?_
    refine lv_iload_n hx hb dX5_bitsOf_29 rfl (lv_at hl 2 rfl) ?_
    refine lv_iconst (v := 1) hx hb dX5_bitsOf_30 (by decide) ?_
    refine lv_iadd hx hb dX5_bitsOf_31 ?_
    refine lv_imul hx hb dX5_bitsOf_32 ?_
    refine lv_topi (fun x2 ex2 => ?_)
    have hv := hv x2 ex2
    refine lv_istore_n (lv' := [(3, .int x2), (0, .ref a_0), (1, .int x_1), (2, .int x_2)]) hx hb dX5_bitsOf_33 rfl hl (by decide) rfl (fun ls hl => ?_)
    exact hL34 _ _ _ _ _ _ _ _ hv (lv_sub hl [1, 2, 3, 0] rfl) hS
  · have hv := hv.2 c1
    refine lv_aload_n hx hb dX5_bitsOf_7 rfl (lv_at hl 0 rfl) ?_
    obtain ⟨v3, ev3, hv⟩ := hv
    refine fw_get hx hb hts ii_X5_bitsOf_X5 hown hK hS 2 ev3 rfl (by decide) mm_X5_bitsOf_0 rfl dX5_bitsOf_8 ?_
    refine lv_bipush (v := 36) hx hb dX5_bitsOf_11 (by decide) ?_
    refine lv_iload_n hx hb dX5_bitsOf_13 rfl (lv_at hl 1 rfl) ?_
    refine lv_imul hx hb dX5_bitsOf_14 ?_
    refine lv_iload_n hx hb dX5_bitsOf_15 rfl (lv_at hl 2 rfl) ?_
    refine lv_iadd hx hb dX5_bitsOf_16 ?_
    obtain ⟨v4, ev4, hv⟩ := hv
    refine fw_ald hx hb hK hS 0 rfl ev4 dX5_bitsOf_17 ?_
    refine lv_if_ne (tgt := 27) hx hb dX5_bitsOf_18 (by decide) (fun c5 => ?_) (fun c5 => ?_)
    · have hv := hv.1 c5
      refine lv_bipush (v := 16) hx hb dX5_bitsOf_27 (by decide) ?_
      refine lv_iload_n hx hb dX5_bitsOf_29 rfl (lv_at hl 2 rfl) ?_
      refine lv_iconst (v := 1) hx hb dX5_bitsOf_30 (by decide) ?_
      refine lv_iadd hx hb dX5_bitsOf_31 ?_
      refine lv_imul hx hb dX5_bitsOf_32 ?_
      refine lv_topi (fun x6 ex6 => ?_)
      have hv := hv x6 ex6
      refine lv_istore_n (lv' := [(3, .int x6), (0, .ref a_0), (1, .int x_1), (2, .int x_2)]) hx hb dX5_bitsOf_33 rfl hl (by decide) rfl (fun ls hl => ?_)
      exact hL34 _ _ _ _ _ _ _ _ hv (lv_sub hl [1, 2, 3, 0] rfl) hS
    · have hv := hv.2 c5
      obtain ⟨x7, ex7⟩ : ∃ y : Int32, y = x_2 + (-1) := ⟨_, rfl⟩
      have hv := hv x7 ex7
      refine lv_iinc (v := x7) (lv' := [(2, .int x7), (0, .ref a_0), (1, .int x_1)]) hx hb dX5_bitsOf_21 hl (k := 2) rfl (by rw [ex7]; rfl) (by decide) rfl (fun ls hl => ?_)
      refine lv_goto (tgt := 3) hx hb dX5_bitsOf_24 (by decide) ?_
      exact hL3 _ _ _ _ _ _ _ hv (lv_sub hl [1, 2, 0] rfl) hS
set_option maxRecDepth 100000 in
set_option maxHeartbeats 4000000 in
theorem R_X5_bitsOf_34 {E : cx} {p : Program} {e : Env} {s : State} {m : MethodId} {below : List Frame} {meth : Method} {c : Code} {f0 : hm} {zh : Nat} {zp1 : Int32} (C : wB E.2.1 vwCl (eT E) yX5_bitsOf cX5_bitsOf 4 (some .int) wsX5_bitsOf [.ref zh, .int zp1] f0 p s m meth c) (a_0 : Nat) (x_1 : Int32) (x_2 : Int32) (x_3 : Int32) (f : hm) {L34 : Nat → Int32 → Int32 → Int32 → hm → Prop} {K : Int32 → hm → Prop} (hv : X_X5_bitsOf_34 E a_0 x_1 x_2 x_3 f L34 K) {ls : Array Slot} {H : Heap} {locs : List Loc} (hl : lv_has ls 4 [(0, .ref a_0), (1, .int x_1), (2, .int x_2), (3, .int x_3)]) (hS : wS E.2.1 vwCl (wA f0 s.heap.size) s.heap f H locs) (hL34 : ∀ (y_0 : Nat) (y_1 : Int32) (y_2 : Int32) (y_3 : Int32) (f : hm) (ls : Array Slot) (H : Heap) (locs : List Loc), L34 y_0 y_1 y_2 y_3 f → lv_has ls 4 [(0, .ref y_0), (1, .int y_1), (2, .int y_2), (3, .int y_3)] → wS E.2.1 vwCl (wA f0 s.heap.size) s.heap f H locs → W p E.1 e ({ frames := 0, cells := 0, slots := 0, locals := 0 }) s m ([.ref zh, .int zp1] : List Value).toArray below meth c H locs 0 0 (MQ below (wQi f0 E.2.1 vwCl K s) ([.ref zh, .int zp1] : List Value).toArray s 0 0 (wA f0 s.heap.size)) (F0 m 34 ls [])) : W p E.1 e ({ frames := 0, cells := 0, slots := 0, locals := 0 }) s m ([.ref zh, .int zp1] : List Value).toArray below meth c H locs 0 0 (MQ below (wQi f0 E.2.1 vwCl K s) ([.ref zh, .int zp1] : List Value).toArray s 0 0 (wA f0 s.heap.size)) (F0 m 34 ls []) := by
  obtain ⟨hx, hb, hml, hown, hts, hr, hlk, hnm, hK, -⟩ := C
  unfold X_X5_bitsOf_34 at hv
  refine lv_iload_n hx hb dX5_bitsOf_34 rfl (lv_at hl 2 rfl) ?_
  refine lv_if_lt (tgt := 69) hx hb dX5_bitsOf_35 (by decide) (fun c1 => ?_) (fun c1 => ?_)
  · have hv := hv.1 c1
    refine lv_iload_n hx hb dX5_bitsOf_69 rfl (lv_at hl 3 rfl) ?_
    exact fw_iret hx hb hr hlk hS hv dX5_bitsOf_70
  · have hv := hv.2 c1
    refine lv_aload_n hx hb dX5_bitsOf_38 rfl (lv_at hl 0 rfl) ?_
    obtain ⟨v2, ev2, hv⟩ := hv
    refine fw_get hx hb hts ii_X5_bitsOf_X5 hown hK hS 2 ev2 rfl (by decide) mm_X5_bitsOf_0 rfl dX5_bitsOf_39 ?_
    refine lv_bipush (v := 36) hx hb dX5_bitsOf_42 (by decide) ?_
    refine lv_iload_n hx hb dX5_bitsOf_44 rfl (lv_at hl 1 rfl) ?_
    refine lv_imul hx hb dX5_bitsOf_45 ?_
    refine lv_iload_n hx hb dX5_bitsOf_46 rfl (lv_at hl 2 rfl) ?_
    refine lv_iadd hx hb dX5_bitsOf_47 ?_
    obtain ⟨v3, ev3, hv⟩ := hv
    refine fw_ald hx hb hK hS 0 rfl ev3 dX5_bitsOf_48 ?_
    refine lv_iload_n hx hb dX5_bitsOf_49 rfl (lv_at hl 3 rfl) ?_
    refine lv_iconst (v := 1) hx hb dX5_bitsOf_50 (by decide) ?_
    refine lv_isub hx hb dX5_bitsOf_51 ?_
    refine lv_bipush (v := 16) hx hb dX5_bitsOf_52 (by decide) ?_
    refine lv_iload_n hx hb dX5_bitsOf_54 rfl (lv_at hl 2 rfl) ?_
    refine lv_imul hx hb dX5_bitsOf_55 ?_
    refine lv_isub hx hb dX5_bitsOf_56 ?_
    refine lv_ishr hx hb dX5_bitsOf_57 ?_
    refine lv_iconst (v := 1) hx hb dX5_bitsOf_58 (by decide) ?_
    refine lv_iand hx hb dX5_bitsOf_59 ?_
    refine lv_if_ne (tgt := 69) hx hb dX5_bitsOf_60 (by decide) (fun c4 => ?_) (fun c4 => ?_)
    · have hv := hv.1 c4
      refine lv_iload_n hx hb dX5_bitsOf_69 rfl (lv_at hl 3 rfl) ?_
      exact fw_iret hx hb hr hlk hS hv dX5_bitsOf_70
    · have hv := hv.2 c4
      obtain ⟨x5, ex5⟩ : ∃ y : Int32, y = x_3 + (-1) := ⟨_, rfl⟩
      have hv := hv x5 ex5
      refine lv_iinc (v := x5) (lv' := [(3, .int x5), (0, .ref a_0), (1, .int x_1), (2, .int x_2)]) hx hb dX5_bitsOf_63 hl (k := 3) rfl (by rw [ex5]; rfl) (by decide) rfl (fun ls hl => ?_)
      refine lv_goto (tgt := 34) hx hb dX5_bitsOf_66 (by decide) ?_
      exact hL34 _ _ _ _ _ _ _ _ hv (lv_sub hl [1, 2, 3, 0] rfl) hS
set_option maxRecDepth 100000 in
set_option maxHeartbeats 4000000 in
theorem T_X5_bitsOf {E : cx} {h : Nat} {p1 : Int32} {f : hm} {K : Int32 → hm → Prop} (I3 : Nat → Nat → Int32 → Int32 → hm → Prop) (I34 : Nat → Nat → Int32 → Int32 → Int32 → hm → Prop) (h0 : X_X5_bitsOf_0 E h p1 f (fun (y_0 : Nat) (y_1 : Int32) (y_2 : Int32) (f : hm) => ∃ k : Nat, I3 k y_0 y_1 y_2 f) K) (h3 : ∀ (n : Nat) (a_0 : Nat) (x_1 : Int32) (x_2 : Int32) (f : hm), I3 n a_0 x_1 x_2 f → X_X5_bitsOf_3 E a_0 x_1 x_2 f (fun (y_0 : Nat) (y_1 : Int32) (y_2 : Int32) (f : hm) => ∃ k : Nat, k < n ∧ I3 k y_0 y_1 y_2 f) (fun (y_0 : Nat) (y_1 : Int32) (y_2 : Int32) (y_3 : Int32) (f : hm) => ∃ k : Nat, k < n ∧ I34 k y_0 y_1 y_2 y_3 f) K) (h34 : ∀ (n : Nat) (a_0 : Nat) (x_1 : Int32) (x_2 : Int32) (x_3 : Int32) (f : hm), I34 n a_0 x_1 x_2 x_3 f → X_X5_bitsOf_34 E a_0 x_1 x_2 x_3 f (fun (y_0 : Nat) (y_1 : Int32) (y_2 : Int32) (y_3 : Int32) (f : hm) => ∃ k : Nat, k < n ∧ I34 k y_0 y_1 y_2 y_3 f) K) : S_X5_bitsOf E h p1 f K := by
  refine MI_of (cc := cX5_bitsOf) (maxL := 4) (ret := (some .int)) (by decide) rfl ?_
  intro p e s m below meth c C
  have hl := lv_entry ([.ref h, .int p1]) (n := 4) (Nat.le_of_ble_eq_true rfl)
  rw [lg_entry_eq]
  generalize (lg_sl ([.ref h, .int p1]) ++ List.replicate (4 - (lg_sl ([.ref h, .int p1])).length) Slot.unset).toArray = ls at hl ⊢
  have hl : lv_has ls 4 [(0, .ref h), (1, .int p1)] := hl
  have hS := C.2.2.2.2.2.2.2.2.2
  have key : ∀ n : Nat, (∀ (a_0 : Nat) (x_1 : Int32) (x_2 : Int32) (g : hm) (ls : Array Slot) (H : Heap) (locs : List Loc), I3 n a_0 x_1 x_2 g → lv_has ls 4 [(0, .ref a_0), (1, .int x_1), (2, .int x_2)] → wS E.2.1 vwCl (wA f s.heap.size) s.heap g H locs → W p E.1 e ({ frames := 0, cells := 0, slots := 0, locals := 0 }) s m ([.ref h, .int p1] : List Value).toArray below meth c H locs 0 0 (MQ below (wQi f E.2.1 vwCl K s) ([.ref h, .int p1] : List Value).toArray s 0 0 (wA f s.heap.size)) (F0 m 3 ls [])) ∧ (∀ (a_0 : Nat) (x_1 : Int32) (x_2 : Int32) (x_3 : Int32) (g : hm) (ls : Array Slot) (H : Heap) (locs : List Loc), I34 n a_0 x_1 x_2 x_3 g → lv_has ls 4 [(0, .ref a_0), (1, .int x_1), (2, .int x_2), (3, .int x_3)] → wS E.2.1 vwCl (wA f s.heap.size) s.heap g H locs → W p E.1 e ({ frames := 0, cells := 0, slots := 0, locals := 0 }) s m ([.ref h, .int p1] : List Value).toArray below meth c H locs 0 0 (MQ below (wQi f E.2.1 vwCl K s) ([.ref h, .int p1] : List Value).toArray s 0 0 (wA f s.heap.size)) (F0 m 34 ls [])) := by
    refine st_ind (fun n ih => ?_)
    refine ⟨?_, ?_⟩
    · intro a_0 x_1 x_2 g ls H locs hI hl hS
      exact R_X5_bitsOf_3 C a_0 x_1 x_2 g (h3 n a_0 x_1 x_2 g hI) hl hS (fun _ _ _ _ _ _ _ hI hl hS => by obtain ⟨k, hk, hI⟩ := hI; exact (ih k hk).1 _ _ _ _ _ _ _ hI hl hS) (fun _ _ _ _ _ _ _ _ hI hl hS => by obtain ⟨k, hk, hI⟩ := hI; exact (ih k hk).2 _ _ _ _ _ _ _ _ hI hl hS)
    · intro a_0 x_1 x_2 x_3 g ls H locs hI hl hS
      exact R_X5_bitsOf_34 C a_0 x_1 x_2 x_3 g (h34 n a_0 x_1 x_2 x_3 g hI) hl hS (fun _ _ _ _ _ _ _ _ hI hl hS => by obtain ⟨k, hk, hI⟩ := hI; exact (ih k hk).2 _ _ _ _ _ _ _ _ hI hl hS)
  exact R_X5_bitsOf_0 C h p1 f h0 hl hS (fun _ _ _ _ _ _ _ hI hl hS => by obtain ⟨k, hI⟩ := hI; exact (key k).1 _ _ _ _ _ _ _ hI hl hS)
