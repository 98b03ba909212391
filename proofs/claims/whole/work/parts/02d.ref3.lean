/-! By program (wip/whole/gen.py), out of the printed names: do not edit. -/
/-! ContinuedRatiosModel.set(III)I -/
def S_X5_set (E : cx) (h : Nat) (p1 : Int32) (p2 : Int32) (p3 : Int32) (f : hm) (K : Int32 → hm → Prop) : Prop := MI E.1 E.2.1 vwCl (eT E) yX5_set wsX5_set ({ frames := 4, cells := 0, slots := 0, locals := 92 }) [.ref h, .int p1, .int p2, .int p3] f K
theorem mm_X5_set_0 : Cond.fieldLink RX5 61 "ContinuedRatiosModel" "sign" "I" ∈ wsX5_set := by decide +kernel
theorem ii_X5_set_X5 : ∀ w ∈ u_ws RX5 TX5 7, w ∈ wsX5_set := by decide +kernel
def X_X5_set_0 (E : cx) (h : Nat) (p1 : Int32) (p2 : Int32) (p3 : Int32) (f : hm)  (K : Int32 → hm → Prop) : Prop :=
  (isO f h 5 ∧ S_X5_isRegister E h p1 f (fun (r3 : Int32) (f2 : hm) => ((¬ r3 = 0 → ((¬ p3 = 0 → ((0 ≤ (lg_cmp p2.toInt64 (0 : Int64)) → (isO f2 h 5 ∧ S_X5_put E h (16 : Int32) p2.toInt64 f2 (fun (f8 : hm) => ((0 ≤ (lg_cmp p3.toInt64 (0 : Int64)) → (isO f8 h 5 ∧ S_X5_put E h (17 : Int32) p3.toInt64 f8 (fun (f11 : hm) => ((¬ (lg_cmp p2.toInt64 (0 : Int64)) = 0 → ((0 ≤ (lg_cmp p2.toInt64 (0 : Int64)) → ((0 ≤ (lg_cmp p3.toInt64 (0 : Int64)) → ((¬ (0 : Int32) = (0 : Int32) → (∃ f16 : hm, wrV f11 h 5 4 (.int (-1 : Int32)) = some f16 ∧ (isO f16 h 5 ∧ S_X5_store E h p1 f16 (fun (r19 : Int32) (f18 : hm) => K r19 f18)))) ∧ ((0 : Int32) = (0 : Int32) → (∃ f20 : hm, wrV f11 h 5 4 (.int (1 : Int32)) = some f20 ∧ (isO f20 h 5 ∧ S_X5_store E h p1 f20 (fun (r23 : Int32) (f22 : hm) => K r23 f22)))))) ∧ (¬ (0 ≤ (lg_cmp p3.toInt64 (0 : Int64))) → ((¬ (0 : Int32) = (1 : Int32) → (∃ f25 : hm, wrV f11 h 5 4 (.int (-1 : Int32)) = some f25 ∧ (isO f25 h 5 ∧ S_X5_store E h p1 f25 (fun (r28 : Int32) (f27 : hm) => K r28 f27)))) ∧ ((0 : Int32) = (1 : Int32) → (∃ f29 : hm, wrV f11 h 5 4 (.int (1 : Int32)) = some f29 ∧ (isO f29 h 5 ∧ S_X5_store E h p1 f29 (fun (r32 : Int32) (f31 : hm) => K r32 f31)))))))) ∧ (¬ (0 ≤ (lg_cmp p2.toInt64 (0 : Int64))) → ((0 ≤ (lg_cmp p3.toInt64 (0 : Int64)) → ((¬ (1 : Int32) = (0 : Int32) → (∃ f35 : hm, wrV f11 h 5 4 (.int (-1 : Int32)) = some f35 ∧ (isO f35 h 5 ∧ S_X5_store E h p1 f35 (fun (r38 : Int32) (f37 : hm) => K r38 f37)))) ∧ ((1 : Int32) = (0 : Int32) → (∃ f39 : hm, wrV f11 h 5 4 (.int (1 : Int32)) = some f39 ∧ (isO f39 h 5 ∧ S_X5_store E h p1 f39 (fun (r42 : Int32) (f41 : hm) => K r42 f41)))))) ∧ (¬ (0 ≤ (lg_cmp p3.toInt64 (0 : Int64))) → ((¬ (1 : Int32) = (1 : Int32) → (∃ f44 : hm, wrV f11 h 5 4 (.int (-1 : Int32)) = some f44 ∧ (isO f44 h 5 ∧ S_X5_store E h p1 f44 (fun (r47 : Int32) (f46 : hm) => K r47 f46)))) ∧ ((1 : Int32) = (1 : Int32) → (∃ f48 : hm, wrV f11 h 5 4 (.int (1 : Int32)) = some f48 ∧ (isO f48 h 5 ∧ S_X5_store E h p1 f48 (fun (r51 : Int32) (f50 : hm) => K r51 f50)))))))))) ∧ ((lg_cmp p2.toInt64 (0 : Int64)) = 0 → (∃ f52 : hm, wrV f11 h 5 4 (.int (0 : Int32)) = some f52 ∧ (isO f52 h 5 ∧ S_X5_store E h p1 f52 (fun (r55 : Int32) (f54 : hm) => K r55 f54)))))))) ∧ (¬ (0 ≤ (lg_cmp p3.toInt64 (0 : Int64))) → (isO f8 h 5 ∧ S_X5_put E h (17 : Int32) (-p3.toInt64) f8 (fun (f57 : hm) => ((¬ (lg_cmp p2.toInt64 (0 : Int64)) = 0 → ((0 ≤ (lg_cmp p2.toInt64 (0 : Int64)) → ((0 ≤ (lg_cmp p3.toInt64 (0 : Int64)) → ((¬ (0 : Int32) = (0 : Int32) → (∃ f62 : hm, wrV f57 h 5 4 (.int (-1 : Int32)) = some f62 ∧ (isO f62 h 5 ∧ S_X5_store E h p1 f62 (fun (r65 : Int32) (f64 : hm) => K r65 f64)))) ∧ ((0 : Int32) = (0 : Int32) → (∃ f66 : hm, wrV f57 h 5 4 (.int (1 : Int32)) = some f66 ∧ (isO f66 h 5 ∧ S_X5_store E h p1 f66 (fun (r69 : Int32) (f68 : hm) => K r69 f68)))))) ∧ (¬ (0 ≤ (lg_cmp p3.toInt64 (0 : Int64))) → ((¬ (0 : Int32) = (1 : Int32) → (∃ f71 : hm, wrV f57 h 5 4 (.int (-1 : Int32)) = some f71 ∧ (isO f71 h 5 ∧ S_X5_store E h p1 f71 (fun (r74 : Int32) (f73 : hm) => K r74 f73)))) ∧ ((0 : Int32) = (1 : Int32) → (∃ f75 : hm, wrV f57 h 5 4 (.int (1 : Int32)) = some f75 ∧ (isO f75 h 5 ∧ S_X5_store E h p1 f75 (fun (r78 : Int32) (f77 : hm) => K r78 f77)))))))) ∧ (¬ (0 ≤ (lg_cmp p2.toInt64 (0 : Int64))) → ((0 ≤ (lg_cmp p3.toInt64 (0 : Int64)) → ((¬ (1 : Int32) = (0 : Int32) → (∃ f81 : hm, wrV f57 h 5 4 (.int (-1 : Int32)) = some f81 ∧ (isO f81 h 5 ∧ S_X5_store E h p1 f81 (fun (r84 : Int32) (f83 : hm) => K r84 f83)))) ∧ ((1 : Int32) = (0 : Int32) → (∃ f85 : hm, wrV f57 h 5 4 (.int (1 : Int32)) = some f85 ∧ (isO f85 h 5 ∧ S_X5_store E h p1 f85 (fun (r88 : Int32) (f87 : hm) => K r88 f87)))))) ∧ (¬ (0 ≤ (lg_cmp p3.toInt64 (0 : Int64))) → ((¬ (1 : Int32) = (1 : Int32) → (∃ f90 : hm, wrV f57 h 5 4 (.int (-1 : Int32)) = some f90 ∧ (isO f90 h 5 ∧ S_X5_store E h p1 f90 (fun (r93 : Int32) (f92 : hm) => K r93 f92)))) ∧ ((1 : Int32) = (1 : Int32) → (∃ f94 : hm, wrV f57 h 5 4 (.int (1 : Int32)) = some f94 ∧ (isO f94 h 5 ∧ S_X5_store E h p1 f94 (fun (r97 : Int32) (f96 : hm) => K r97 f96)))))))))) ∧ ((lg_cmp p2.toInt64 (0 : Int64)) = 0 → (∃ f98 : hm, wrV f57 h 5 4 (.int (0 : Int32)) = some f98 ∧ (isO f98 h 5 ∧ S_X5_store E h p1 f98 (fun (r101 : Int32) (f100 : hm) => K r101 f100)))))))))))) ∧ (¬ (0 ≤ (lg_cmp p2.toInt64 (0 : Int64))) → (isO f2 h 5 ∧ S_X5_put E h (16 : Int32) (-p2.toInt64) f2 (fun (f103 : hm) => ((0 ≤ (lg_cmp p3.toInt64 (0 : Int64)) → (isO f103 h 5 ∧ S_X5_put E h (17 : Int32) p3.toInt64 f103 (fun (f106 : hm) => ((¬ (lg_cmp p2.toInt64 (0 : Int64)) = 0 → ((0 ≤ (lg_cmp p2.toInt64 (0 : Int64)) → ((0 ≤ (lg_cmp p3.toInt64 (0 : Int64)) → ((¬ (0 : Int32) = (0 : Int32) → (∃ f111 : hm, wrV f106 h 5 4 (.int (-1 : Int32)) = some f111 ∧ (isO f111 h 5 ∧ S_X5_store E h p1 f111 (fun (r114 : Int32) (f113 : hm) => K r114 f113)))) ∧ ((0 : Int32) = (0 : Int32) → (∃ f115 : hm, wrV f106 h 5 4 (.int (1 : Int32)) = some f115 ∧ (isO f115 h 5 ∧ S_X5_store E h p1 f115 (fun (r118 : Int32) (f117 : hm) => K r118 f117)))))) ∧ (¬ (0 ≤ (lg_cmp p3.toInt64 (0 : Int64))) → ((¬ (0 : Int32) = (1 : Int32) → (∃ f120 : hm, wrV f106 h 5 4 (.int (-1 : Int32)) = some f120 ∧ (isO f120 h 5 ∧ S_X5_store E h p1 f120 (fun (r123 : Int32) (f122 : hm) => K r123 f122)))) ∧ ((0 : Int32) = (1 : Int32) → (∃ f124 : hm, wrV f106 h 5 4 (.int (1 : Int32)) = some f124 ∧ (isO f124 h 5 ∧ S_X5_store E h p1 f124 (fun (r127 : Int32) (f126 : hm) => K r127 f126)))))))) ∧ (¬ (0 ≤ (lg_cmp p2.toInt64 (0 : Int64))) → ((0 ≤ (lg_cmp p3.toInt64 (0 : Int64)) → ((¬ (1 : Int32) = (0 : Int32) → (∃ f130 : hm, wrV f106 h 5 4 (.int (-1 : Int32)) = some f130 ∧ (isO f130 h 5 ∧ S_X5_store E h p1 f130 (fun (r133 : Int32) (f132 : hm) => K r133 f132)))) ∧ ((1 : Int32) = (0 : Int32) → (∃ f134 : hm, wrV f106 h 5 4 (.int (1 : Int32)) = some f134 ∧ (isO f134 h 5 ∧ S_X5_store E h p1 f134 (fun (r137 : Int32) (f136 : hm) => K r137 f136)))))) ∧ (¬ (0 ≤ (lg_cmp p3.toInt64 (0 : Int64))) → ((¬ (1 : Int32) = (1 : Int32) → (∃ f139 : hm, wrV f106 h 5 4 (.int (-1 : Int32)) = some f139 ∧ (isO f139 h 5 ∧ S_X5_store E h p1 f139 (fun (r142 : Int32) (f141 : hm) => K r142 f141)))) ∧ ((1 : Int32) = (1 : Int32) → (∃ f143 : hm, wrV f106 h 5 4 (.int (1 : Int32)) = some f143 ∧ (isO f143 h 5 ∧ S_X5_store E h p1 f143 (fun (r146 : Int32) (f145 : hm) => K r146 f145)))))))))) ∧ ((lg_cmp p2.toInt64 (0 : Int64)) = 0 → (∃ f147 : hm, wrV f106 h 5 4 (.int (0 : Int32)) = some f147 ∧ (isO f147 h 5 ∧ S_X5_store E h p1 f147 (fun (r150 : Int32) (f149 : hm) => K r150 f149)))))))) ∧ (¬ (0 ≤ (lg_cmp p3.toInt64 (0 : Int64))) → (isO f103 h 5 ∧ S_X5_put E h (17 : Int32) (-p3.toInt64) f103 (fun (f152 : hm) => ((¬ (lg_cmp p2.toInt64 (0 : Int64)) = 0 → ((0 ≤ (lg_cmp p2.toInt64 (0 : Int64)) → ((0 ≤ (lg_cmp p3.toInt64 (0 : Int64)) → ((¬ (0 : Int32) = (0 : Int32) → (∃ f157 : hm, wrV f152 h 5 4 (.int (-1 : Int32)) = some f157 ∧ (isO f157 h 5 ∧ S_X5_store E h p1 f157 (fun (r160 : Int32) (f159 : hm) => K r160 f159)))) ∧ ((0 : Int32) = (0 : Int32) → (∃ f161 : hm, wrV f152 h 5 4 (.int (1 : Int32)) = some f161 ∧ (isO f161 h 5 ∧ S_X5_store E h p1 f161 (fun (r164 : Int32) (f163 : hm) => K r164 f163)))))) ∧ (¬ (0 ≤ (lg_cmp p3.toInt64 (0 : Int64))) → ((¬ (0 : Int32) = (1 : Int32) → (∃ f166 : hm, wrV f152 h 5 4 (.int (-1 : Int32)) = some f166 ∧ (isO f166 h 5 ∧ S_X5_store E h p1 f166 (fun (r169 : Int32) (f168 : hm) => K r169 f168)))) ∧ ((0 : Int32) = (1 : Int32) → (∃ f170 : hm, wrV f152 h 5 4 (.int (1 : Int32)) = some f170 ∧ (isO f170 h 5 ∧ S_X5_store E h p1 f170 (fun (r173 : Int32) (f172 : hm) => K r173 f172)))))))) ∧ (¬ (0 ≤ (lg_cmp p2.toInt64 (0 : Int64))) → ((0 ≤ (lg_cmp p3.toInt64 (0 : Int64)) → ((¬ (1 : Int32) = (0 : Int32) → (∃ f176 : hm, wrV f152 h 5 4 (.int (-1 : Int32)) = some f176 ∧ (isO f176 h 5 ∧ S_X5_store E h p1 f176 (fun (r179 : Int32) (f178 : hm) => K r179 f178)))) ∧ ((1 : Int32) = (0 : Int32) → (∃ f180 : hm, wrV f152 h 5 4 (.int (1 : Int32)) = some f180 ∧ (isO f180 h 5 ∧ S_X5_store E h p1 f180 (fun (r183 : Int32) (f182 : hm) => K r183 f182)))))) ∧ (¬ (0 ≤ (lg_cmp p3.toInt64 (0 : Int64))) → ((¬ (1 : Int32) = (1 : Int32) → (∃ f185 : hm, wrV f152 h 5 4 (.int (-1 : Int32)) = some f185 ∧ (isO f185 h 5 ∧ S_X5_store E h p1 f185 (fun (r188 : Int32) (f187 : hm) => K r188 f187)))) ∧ ((1 : Int32) = (1 : Int32) → (∃ f189 : hm, wrV f152 h 5 4 (.int (1 : Int32)) = some f189 ∧ (isO f189 h 5 ∧ S_X5_store E h p1 f189 (fun (r192 : Int32) (f191 : hm) => K r192 f191)))))))))) ∧ ((lg_cmp p2.toInt64 (0 : Int64)) = 0 → (∃ f193 : hm, wrV f152 h 5 4 (.int (0 : Int32)) = some f193 ∧ (isO f193 h 5 ∧ S_X5_store E h p1 f193 (fun (r196 : Int32) (f195 : hm) => K r196 f195)))))))))))))) ∧ (p3 = 0 → K (2 : Int32) f2))) ∧ (r3 = 0 → K (3 : Int32) f2))))
set_option maxRecDepth 100000 in
set_option maxHeartbeats 4000000 in
theorem R_X5_set_0 {E : cx} {p : Program} {e : Env} {s : State} {m : MethodId} {below : List Frame} {meth : Method} {c : Code} {f0 : hm} {zh : Nat} {zp1 : Int32} {zp2 : Int32} {zp3 : Int32} (C : wB E.2.1 vwCl (eT E) yX5_set cX5_set 8 (some .int) wsX5_set [.ref zh, .int zp1, .int zp2, .int zp3] f0 p s m meth c) (h : Nat) (p1 : Int32) (p2 : Int32) (p3 : Int32) (f : hm)  {K : Int32 → hm → Prop} (hv : X_X5_set_0 E h p1 p2 p3 f  K) {ls : Array Slot} {H : Heap} {locs : List Loc} (hl : lv_has ls 8 [(0, .ref h), (1, .int p1), (2, .int p2), (3, .int p3)]) (hS : wS E.2.1 vwCl (wA f0 s.heap.size) s.heap f H locs)  : W p E.1 e ({ frames := 4, cells := 0, slots := 0, locals := 92 }) s m ([.ref zh, .int zp1, .int zp2, .int zp3] : List Value).toArray below meth c H locs 0 0 (MQ below (wQi f0 E.2.1 vwCl K s) ([.ref zh, .int zp1, .int zp2, .int zp3] : List Value).toArray s 0 0 (wA f0 s.heap.size)) (F0 m 0 ls []) := by
  obtain ⟨hx, hb, hml, hown, hts, hr, hlk, hnm, hK, -⟩ := C
  unfold X_X5_set_0 at hv
  refine lv_aload_n hx hb dX5_set_0 rfl (lv_at hl 0 rfl) ?_
  refine lv_iload_n hx hb dX5_set_1 rfl (lv_at hl 1 rfl) ?_
  obtain ⟨ho1, hv⟩ := hv
  refine fw_callVi hx hb hml hown hts hK hS [.int p1] [] hv gX5_set_X5_isRegister rfl rfl rfl 1 (by decide +kernel) ⟨Nat.le_of_ble_eq_true rfl, Nat.le_of_ble_eq_true rfl⟩ rfl rfl ho1 rfl hl.1 rfl (Nat.le_of_ble_eq_true rfl) dX5_set_2 ⟨Nat.zero_le _, Nat.zero_le _⟩ (fun r3 f2 H locs hv hS => ?_)
  refine lv_if_ne (tgt := 10) hx hb dX5_set_5 (by decide) (fun c4 => ?_) (fun c4 => ?_)
  · have hv := hv.1 c4
    refine lv_iload_n hx hb dX5_set_10 rfl (lv_at hl 3 rfl) ?_
    refine lv_if_ne (tgt := 16) hx hb dX5_set_11 (by decide) (fun c5 => ?_) (fun c5 => ?_)
    · have hv := hv.1 c5
      refine lv_iload_n hx hb dX5_set_16 rfl (lv_at hl 2 rfl) ?_
      refine lv_i2l hx hb dX5_set_17 rfl ?_
      refine lv_lstore (lv' := [(4, .long p2.toInt64), (0, .ref h), (1, .int p1), (2, .int p2), (3, .int p3)]) hx hb dX5_set_18 hl (by decide) rfl (fun ls hl => ?_)
      refine lv_iload_n hx hb dX5_set_20 rfl (lv_at hl 4 rfl) ?_
      refine lv_i2l hx hb dX5_set_21 rfl ?_
      refine lv_lstore (lv' := [(6, .long p3.toInt64), (4, .long p2.toInt64), (0, .ref h), (1, .int p1), (2, .int p2), (3, .int p3)]) hx hb dX5_set_22 hl (by decide) rfl (fun ls hl => ?_)
      refine lv_aload_n hx hb dX5_set_24 rfl (lv_at hl 2 rfl) ?_
      refine lv_bipush (v := 16) hx hb dX5_set_25 (by decide) ?_
      refine lv_lload hx hb dX5_set_27 (lv_at hl 1 rfl) ?_
      refine lv_lconst (v := 0) hx hb dX5_set_29 (by decide) ?_
      refine W.lcmp hx hb dX5_set_30 ?_
      refine lv_if_ge (tgt := 40) hx hb dX5_set_31 (by decide) (fun c6 => ?_) (fun c6 => ?_)
      · have hv := hv.1 c6
        refine lv_lload hx hb dX5_set_40 (lv_at hl 1 rfl) ?_
        obtain ⟨ho7, hv⟩ := hv
        refine fw_callVv hx hb hml hown hts hK hS [.int (16 : Int32), .long p2.toInt64] [] hv gX5_set_X5_put rfl rfl rfl 2 (by decide +kernel) ⟨Nat.le_of_ble_eq_true rfl, Nat.le_of_ble_eq_true rfl⟩ rfl rfl ho7 rfl hl.1 rfl (Nat.le_of_ble_eq_true rfl) dX5_set_42 ⟨Nat.zero_le _, Nat.zero_le _⟩ (fun f8 H locs hv hS => ?_)
        refine lv_aload_n hx hb dX5_set_45 rfl (lv_at hl 2 rfl) ?_
        refine lv_bipush (v := 17) hx hb dX5_set_46 (by decide) ?_
        refine lv_lload hx hb dX5_set_48 (lv_at hl 0 rfl) ?_
        refine lv_lconst (v := 0) hx hb dX5_set_50 (by decide) ?_
        refine W.lcmp hx hb dX5_set_51 ?_
        refine lv_if_ge (tgt := 61) hx hb dX5_set_52 (by decide) (fun c9 => ?_) (fun c9 => ?_)
        · have hv := hv.1 c9
          refine lv_lload hx hb dX5_set_61 (lv_at hl 0 rfl) ?_
          obtain ⟨ho10, hv⟩ := hv
          refine fw_callVv hx hb hml hown hts hK hS [.int (17 : Int32), .long p3.toInt64] [] hv gX5_set_X5_put rfl rfl rfl 2 (by decide +kernel) ⟨Nat.le_of_ble_eq_true rfl, Nat.le_of_ble_eq_true rfl⟩ rfl rfl ho10 rfl hl.1 rfl (Nat.le_of_ble_eq_true rfl) dX5_set_63 ⟨Nat.zero_le _, Nat.zero_le _⟩ (fun f11 H locs hv hS => ?_)
          refine lv_aload_n hx hb dX5_set_66 rfl (lv_at hl 2 rfl) ?_
          refine lv_lload hx hb dX5_set_67 (lv_at hl 1 rfl) ?_
          refine lv_lconst (v := 0) hx hb dX5_set_69 (by decide) ?_
          refine W.lcmp hx hb dX5_set_70 ?_
          refine lv_if_ne (tgt := 78) hx hb dX5_set_71 (by decide) (fun c12 => ?_) (fun c12 => ?_)
          · have hv := hv.1 c12
            refine lv_lload hx hb dX5_set_78 (lv_at hl 1 rfl) ?_
            refine lv_lconst (v := 0) hx hb dX5_set_80 (by decide) ?_
            refine W.lcmp hx hb dX5_set_81 ?_
            refine lv_if_ge (tgt := 89) hx hb dX5_set_82 (by decide) (fun c13 => ?_) (fun c13 => ?_)
            · have hv := hv.1 c13
              refine lv_iconst (v := 0) hx hb dX5_set_89 (by decide) ?_
              refine lv_lload hx hb dX5_set_90 (lv_at hl 0 rfl) ?_
              refine lv_lconst (v := 0) hx hb dX5_set_92 (by decide) ?_
              refine W.lcmp hx hb dX5_set_93 ?_
              refine lv_if_ge (tgt := 101) hx hb dX5_set_94 (by decide) (fun c14 => ?_) (fun c14 => ?_)
              · have hv := hv.1 c14
                refine lv_iconst (v := 0) hx hb dX5_set_101 (by decide) ?_
                refine lv_icmp_ne (tgt := 109) hx hb dX5_set_102 (by decide) (fun c15 => ?_) (fun c15 => ?_)
                · have hv := hv.1 c15
                  refine lv_iconst (v := (-1)) hx hb dX5_set_109 (by decide) ?_
                  obtain ⟨f16, ef16, hv⟩ := hv
                  refine fw_put hx hb hts ii_X5_set_X5 tyX5 tyX5_ok nmX5 hown hK hS 4 ef16 rfl (by decide) mm_X5_set_0 rfl rfl rfl rfl dX5_set_110 (fun H locs hS => ?_)
                  refine lv_aload_n hx hb dX5_set_113 rfl (lv_at hl 2 rfl) ?_
                  refine lv_iload_n hx hb dX5_set_114 rfl (lv_at hl 3 rfl) ?_
                  obtain ⟨ho17, hv⟩ := hv
                  refine fw_callVi hx hb hml hown hts hK hS [.int p1] [] hv gX5_set_X5_store rfl rfl rfl 1 (by decide +kernel) ⟨Nat.le_of_ble_eq_true rfl, Nat.le_of_ble_eq_true rfl⟩ rfl rfl ho17 rfl hl.1 rfl (Nat.le_of_ble_eq_true rfl) dX5_set_115 ⟨Nat.zero_le _, Nat.zero_le _⟩ (fun r19 f18 H locs hv hS => ?_)
                  exact fw_iret hx hb hr hlk hS hv dX5_set_118
                · have hv := hv.2 c15
                  refine lv_iconst (v := 1) hx hb dX5_set_105 (by decide) ?_
                  refine lv_goto (tgt := 110) hx hb dX5_set_106 (by decide) ?_
                  obtain ⟨f20, ef20, hv⟩ := hv
                  refine fw_put hx hb hts ii_X5_set_X5 tyX5 tyX5_ok nmX5 hown hK hS 4 ef20 rfl (by decide) mm_X5_set_0 rfl rfl rfl rfl dX5_set_110 (fun H locs hS => ?_)
                  refine lv_aload_n hx hb dX5_set_113 rfl (lv_at hl 2 rfl) ?_
                  refine lv_iload_n hx hb dX5_set_114 rfl (lv_at hl 3 rfl) ?_
                  obtain ⟨ho21, hv⟩ := hv
                  refine fw_callVi hx hb hml hown hts hK hS [.int p1] [] hv gX5_set_X5_store rfl rfl rfl 1 (by decide +kernel) ⟨Nat.le_of_ble_eq_true rfl, Nat.le_of_ble_eq_true rfl⟩ rfl rfl ho21 rfl hl.1 rfl (Nat.le_of_ble_eq_true rfl) dX5_set_115 ⟨Nat.zero_le _, Nat.zero_le _⟩ (fun r23 f22 H locs hv hS => ?_)
                  exact fw_iret hx hb hr hlk hS hv dX5_set_118
              · have hv := hv.2 c14
                refine lv_iconst (v := 1) hx hb dX5_set_97 (by decide) ?_
                refine lv_goto (tgt := 102) hx hb dX5_set_98 (by decide) ?_
                refine lv_icmp_ne (tgt := 109) hx hb dX5_set_102 (by decide) (fun c24 => ?_) (fun c24 => ?_)
                · have hv := hv.1 c24
                  refine lv_iconst (v := (-1)) hx hb dX5_set_109 (by decide) ?_
                  obtain ⟨f25, ef25, hv⟩ := hv
                  refine fw_put hx hb hts ii_X5_set_X5 tyX5 tyX5_ok nmX5 hown hK hS 4 ef25 rfl (by decide) mm_X5_set_0 rfl rfl rfl rfl dX5_set_110 (fun H locs hS => ?_)
                  refine lv_aload_n hx hb dX5_set_113 rfl (lv_at hl 2 rfl) ?_
                  refine lv_iload_n hx hb dX5_set_114 rfl (lv_at hl 3 rfl) ?_
                  obtain ⟨ho26, hv⟩ := hv
                  refine fw_callVi hx hb hml hown hts hK hS [.int p1] [] hv gX5_set_X5_store rfl rfl rfl 1 (by decide +kernel) ⟨Nat.le_of_ble_eq_true rfl, Nat.le_of_ble_eq_true rfl⟩ rfl rfl ho26 rfl hl.1 rfl (Nat.le_of_ble_eq_true rfl) dX5_set_115 ⟨Nat.zero_le _, Nat.zero_le _⟩ (fun r28 f27 H locs hv hS => ?_)
                  exact fw_iret hx hb hr hlk hS hv dX5_set_118
                · have hv := hv.2 c24
                  refine lv_iconst (v := 1) hx hb dX5_set_105 (by decide) ?_
                  refine lv_goto (tgt := 110) hx hb dX5_set_106 (by decide) ?_
                  obtain ⟨f29, ef29, hv⟩ := hv
                  refine fw_put hx hb hts ii_X5_set_X5 tyX5 tyX5_ok nmX5 hown hK hS 4 ef29 rfl (by decide) mm_X5_set_0 rfl rfl rfl rfl dX5_set_110 (fun H locs hS => ?_)
                  refine lv_aload_n hx hb dX5_set_113 rfl (lv_at hl 2 rfl) ?_
                  refine lv_iload_n hx hb dX5_set_114 rfl (lv_at hl 3 rfl) ?_
                  obtain ⟨ho30, hv⟩ := hv
                  refine fw_callVi hx hb hml hown hts hK hS [.int p1] [] hv gX5_set_X5_store rfl rfl rfl 1 (by decide +kernel) ⟨Nat.le_of_ble_eq_true rfl, Nat.le_of_ble_eq_true rfl⟩ rfl rfl ho30 rfl hl.1 rfl (Nat.le_of_ble_eq_true rfl) dX5_set_115 ⟨Nat.zero_le _, Nat.zero_le _⟩ (fun r32 f31 H locs hv hS => ?_)
                  exact fw_iret hx hb hr hlk hS hv dX5_set_118
            · have hv := hv.2 c13
              refine lv_iconst (v := 1) hx hb dX5_set_85 (by decide) ?_
              refine lv_goto (tgt := 90) hx hb dX5_set_86 (by decide) ?_
              refine lv_lload hx hb dX5_set_90 (lv_at hl 0 rfl) ?_
              refine lv_lconst (v := 0) hx hb dX5_set_92 (by decide) ?_
              refine W.lcmp hx hb dX5_set_93 ?_
              refine lv_if_ge (tgt := 101) hx hb dX5_set_94 (by decide) (fun c33 => ?_) (fun c33 => ?_)
              · have hv := hv.1 c33
                refine lv_iconst (v := 0) hx hb dX5_set_101 (by decide) ?_
                refine lv_icmp_ne (tgt := 109) hx hb dX5_set_102 (by decide) (fun c34 => ?_) (fun c34 => ?_)
                · have hv := hv.1 c34
                  refine lv_iconst (v := (-1)) hx hb dX5_set_109 (by decide) ?_
                  obtain ⟨f35, ef35, hv⟩ := hv
                  refine fw_put hx hb hts ii_X5_set_X5 tyX5 tyX5_ok nmX5 hown hK hS 4 ef35 rfl (by decide) mm_X5_set_0 rfl rfl rfl rfl dX5_set_110 (fun H locs hS => ?_)
                  refine lv_aload_n hx hb dX5_set_113 rfl (lv_at hl 2 rfl) ?_
                  refine lv_iload_n hx hb dX5_set_114 rfl (lv_at hl 3 rfl) ?_
                  obtain ⟨ho36, hv⟩ := hv
                  refine fw_callVi hx hb hml hown hts hK hS [.int p1] [] hv gX5_set_X5_store rfl rfl rfl 1 (by decide +kernel) ⟨Nat.le_of_ble_eq_true rfl, Nat.le_of_ble_eq_true rfl⟩ rfl rfl ho36 rfl hl.1 rfl (Nat.le_of_ble_eq_true rfl) dX5_set_115 ⟨Nat.zero_le _, Nat.zero_le _⟩ (fun r38 f37 H locs hv hS => ?_)
                  exact fw_iret hx hb hr hlk hS hv dX5_set_118
                · have hv := hv.2 c34
                  refine lv_iconst (v := 1) hx hb dX5_set_105 (by decide) ?_
                  refine lv_goto (tgt := 110) hx hb dX5_set_106 (by decide) ?_
                  obtain ⟨f39, ef39, hv⟩ := hv
                  refine fw_put hx hb hts ii_X5_set_X5 tyX5 tyX5_ok nmX5 hown hK hS 4 ef39 rfl (by decide) mm_X5_set_0 rfl rfl rfl rfl dX5_set_110 (fun H locs hS => ?_)
                  refine lv_aload_n hx hb dX5_set_113 rfl (lv_at hl 2 rfl) ?_
                  refine lv_iload_n hx hb dX5_set_114 rfl (lv_at hl 3 rfl) ?_
                  obtain ⟨ho40, hv⟩ := hv
                  refine fw_callVi hx hb hml hown hts hK hS [.int p1] [] hv gX5_set_X5_store rfl rfl rfl 1 (by decide +kernel) ⟨Nat.le_of_ble_eq_true rfl, Nat.le_of_ble_eq_true rfl⟩ rfl rfl ho40 rfl hl.1 rfl (Nat.le_of_ble_eq_true rfl) dX5_set_115 ⟨Nat.zero_le _, Nat.zero_le _⟩ (fun r42 f41 H locs hv hS => ?_)
                  exact fw_iret hx hb hr hlk hS hv dX5_set_118
              · have hv := hv.2 c33
                refine lv_iconst (v := 1) hx hb dX5_set_97 (by decide) ?_
                refine lv_goto (tgt := 102) hx hb dX5_set_98 (by decide) ?_
                refine lv_icmp_ne (tgt := 109) hx hb dX5_set_102 (by decide) (fun c43 => ?_) (fun c43 => ?_)
                · have hv := hv.1 c43
                  refine lv_iconst (v := (-1)) hx hb dX5_set_109 (by decide) ?_
                  obtain ⟨f44, ef44, hv⟩ := hv
                  refine fw_put hx hb hts ii_X5_set_X5 tyX5 tyX5_ok nmX5 hown hK hS 4 ef44 rfl (by decide) mm_X5_set_0 rfl rfl rfl rfl dX5_set_110 (fun H locs hS => ?_)
                  refine lv_aload_n hx hb dX5_set_113 rfl (lv_at hl 2 rfl) ?_
                  refine lv_iload_n hx hb dX5_set_114 rfl (lv_at hl 3 rfl) ?_
                  obtain ⟨ho45, hv⟩ := hv
                  refine fw_callVi hx hb hml hown hts hK hS [.int p1] [] hv gX5_set_X5_store rfl rfl rfl 1 (by decide +kernel) ⟨Nat.le_of_ble_eq_true rfl, Nat.le_of_ble_eq_true rfl⟩ rfl rfl ho45 rfl hl.1 rfl (Nat.le_of_ble_eq_true rfl) dX5_set_115 ⟨Nat.zero_le _, Nat.zero_le _⟩ (fun r47 f46 H locs hv hS => ?_)
                  exact fw_iret hx hb hr hlk hS hv dX5_set_118
                · have hv := hv.2 c43
                  refine lv_iconst (v := 1) hx hb dX5_set_105 (by decide) ?_
                  refine lv_goto (tgt := 110) hx hb dX5_set_106 (by decide) ?_
                  obtain ⟨f48, ef48, hv⟩ := hv
                  refine fw_put hx hb hts ii_X5_set_X5 tyX5 tyX5_ok nmX5 hown hK hS 4 ef48 rfl (by decide) mm_X5_set_0 rfl rfl rfl rfl dX5_set_110 (fun H locs hS => ?_)
                  refine lv_aload_n hx hb dX5_set_113 rfl (lv_at hl 2 rfl) ?_
                  refine lv_iload_n hx hb dX5_set_114 rfl (lv_at hl 3 rfl) ?_
                  obtain ⟨ho49, hv⟩ := hv
                  refine fw_callVi hx hb hml hown hts hK hS [.int p1] [] hv gX5_set_X5_store rfl rfl rfl 1 (by decide +kernel) ⟨Nat.le_of_ble_eq_true rfl, Nat.le_of_ble_eq_true rfl⟩ rfl rfl ho49 rfl hl.1 rfl (Nat.le_of_ble_eq_true rfl) dX5_set_115 ⟨Nat.zero_le _, Nat.zero_le _⟩ (fun r51 f50 H locs hv hS => ?_)
                  exact fw_iret hx hb hr hlk hS hv dX5_set_118
          · have hv := hv.2 c12
            refine lv_iconst (v := 0) hx hb dX5_set_74 (by decide) ?_
            refine lv_goto (tgt := 110) hx hb dX5_set_75 (by decide) ?_
            obtain ⟨f52, ef52, hv⟩ := hv
            refine fw_put hx hb hts ii_X5_set_X5 tyX5 tyX5_ok nmX5 hown hK hS 4 ef52 rfl (by decide) mm_X5_set_0 rfl rfl rfl rfl dX5_set_110 (fun H locs hS => ?_)
            refine lv_aload_n hx hb dX5_set_113 rfl (lv_at hl 2 rfl) ?_
            refine lv_iload_n hx hb dX5_set_114 rfl (lv_at hl 3 rfl) ?_
            obtain ⟨ho53, hv⟩ := hv
            refine fw_callVi hx hb hml hown hts hK hS [.int p1] [] hv gX5_set_X5_store rfl rfl rfl 1 (by decide +kernel) ⟨Nat.le_of_ble_eq_true rfl, Nat.le_of_ble_eq_true rfl⟩ rfl rfl ho53 rfl hl.1 rfl (Nat.le_of_ble_eq_true rfl) dX5_set_115 ⟨Nat.zero_le _, Nat.zero_le _⟩ (fun r55 f54 H locs hv hS => ?_)
            exact fw_iret hx hb hr hlk hS hv dX5_set_118
        · have hv := hv.2 c9
          refine lv_lload hx hb dX5_set_55 (lv_at hl 0 rfl) ?_
          refine lv_lneg hx hb dX5_set_57 ?_
          refine lv_goto (tgt := 63) hx hb dX5_set_58 (by decide) ?_
          obtain ⟨ho56, hv⟩ := hv
          refine fw_callVv hx hb hml hown hts hK hS [.int (17 : Int32), .long (-p3.toInt64)] [] hv gX5_set_X5_put rfl rfl rfl 2 (by decide +kernel) ⟨Nat.le_of_ble_eq_true rfl, Nat.le_of_ble_eq_true rfl⟩ rfl rfl ho56 rfl hl.1 rfl (Nat.le_of_ble_eq_true rfl) dX5_set_63 ⟨Nat.zero_le _, Nat.zero_le _⟩ (fun f57 H locs hv hS => ?_)
          refine lv_aload_n hx hb dX5_set_66 rfl (lv_at hl 2 rfl) ?_
          refine lv_lload hx hb dX5_set_67 (lv_at hl 1 rfl) ?_
          refine lv_lconst (v := 0) hx hb dX5_set_69 (by decide) ?_
          refine W.lcmp hx hb dX5_set_70 ?_
          refine lv_if_ne (tgt := 78) hx hb dX5_set_71 (by decide) (fun c58 => ?_) (fun c58 => ?_)
          · have hv := hv.1 c58
            refine lv_lload hx hb dX5_set_78 (lv_at hl 1 rfl) ?_
            refine lv_lconst (v := 0) hx hb dX5_set_80 (by decide) ?_
            refine W.lcmp hx hb dX5_set_81 ?_
            refine lv_if_ge (tgt := 89) hx hb dX5_set_82 (by decide) (fun c59 => ?_) (fun c59 => ?_)
            · have hv := hv.1 c59
              refine lv_iconst (v := 0) hx hb dX5_set_89 (by decide) ?_
              refine lv_lload hx hb dX5_set_90 (lv_at hl 0 rfl) ?_
              refine lv_lconst (v := 0) hx hb dX5_set_92 (by decide) ?_
              refine W.lcmp hx hb dX5_set_93 ?_
              refine lv_if_ge (tgt := 101) hx hb dX5_set_94 (by decide) (fun c60 => ?_) (fun c60 => ?_)
              · have hv := hv.1 c60
                refine lv_iconst (v := 0) hx hb dX5_set_101 (by decide) ?_
                refine lv_icmp_ne (tgt := 109) hx hb dX5_set_102 (by decide) (fun c61 => ?_) (fun c61 => ?_)
                · have hv := hv.1 c61
                  refine lv_iconst (v := (-1)) hx hb dX5_set_109 (by decide) ?_
                  obtain ⟨f62, ef62, hv⟩ := hv
                  refine fw_put hx hb hts ii_X5_set_X5 tyX5 tyX5_ok nmX5 hown hK hS 4 ef62 rfl (by decide) mm_X5_set_0 rfl rfl rfl rfl dX5_set_110 (fun H locs hS => ?_)
                  refine lv_aload_n hx hb dX5_set_113 rfl (lv_at hl 2 rfl) ?_
                  refine lv_iload_n hx hb dX5_set_114 rfl (lv_at hl 3 rfl) ?_
                  obtain ⟨ho63, hv⟩ := hv
                  refine fw_callVi hx hb hml hown hts hK hS [.int p1] [] hv gX5_set_X5_store rfl rfl rfl 1 (by decide +kernel) ⟨Nat.le_of_ble_eq_true rfl, Nat.le_of_ble_eq_true rfl⟩ rfl rfl ho63 rfl hl.1 rfl (Nat.le_of_ble_eq_true rfl) dX5_set_115 ⟨Nat.zero_le _, Nat.zero_le _⟩ (fun r65 f64 H locs hv hS => ?_)
                  exact fw_iret hx hb hr hlk hS hv dX5_set_118
                · have hv := hv.2 c61
                  refine lv_iconst (v := 1) hx hb dX5_set_105 (by decide) ?_
                  refine lv_goto (tgt := 110) hx hb dX5_set_106 (by decide) ?_
                  obtain ⟨f66, ef66, hv⟩ := hv
                  refine fw_put hx hb hts ii_X5_set_X5 tyX5 tyX5_ok nmX5 hown hK hS 4 ef66 rfl (by decide) mm_X5_set_0 rfl rfl rfl rfl dX5_set_110 (fun H locs hS => ?_)
                  refine lv_aload_n hx hb dX5_set_113 rfl (lv_at hl 2 rfl) ?_
                  refine lv_iload_n hx hb dX5_set_114 rfl (lv_at hl 3 rfl) ?_
                  obtain ⟨ho67, hv⟩ := hv
                  refine fw_callVi hx hb hml hown hts hK hS [.int p1] [] hv gX5_set_X5_store rfl rfl rfl 1 (by decide +kernel) ⟨Nat.le_of_ble_eq_true rfl, Nat.le_of_ble_eq_true rfl⟩ rfl rfl ho67 rfl hl.1 rfl (Nat.le_of_ble_eq_true rfl) dX5_set_115 ⟨Nat.zero_le _, Nat.zero_le _⟩ (fun r69 f68 H locs hv hS => ?_)
                  exact fw_iret hx hb hr hlk hS hv dX5_set_118
              · have hv := hv.2 c60
                refine lv_iconst (v := 1) hx hb dX5_set_97 (by decide) ?_
                refine lv_goto (tgt := 102) hx hb dX5_set_98 (by decide) ?_
                refine lv_icmp_ne (tgt := 109) hx hb dX5_set_102 (by decide) (fun c70 => ?_) (fun c70 => ?_)
                · have hv := hv.1 c70
                  refine lv_iconst (v := (-1)) hx hb dX5_set_109 (by decide) ?_
                  obtain ⟨f71, ef71, hv⟩ := hv
                  refine fw_put hx hb hts ii_X5_set_X5 tyX5 tyX5_ok nmX5 hown hK hS 4 ef71 rfl (by decide) mm_X5_set_0 rfl rfl rfl rfl dX5_set_110 (fun H locs hS => ?_)
                  refine lv_aload_n hx hb dX5_set_113 rfl (lv_at hl 2 rfl) ?_
                  refine lv_iload_n hx hb dX5_set_114 rfl (lv_at hl 3 rfl) ?_
                  obtain ⟨ho72, hv⟩ := hv
                  refine fw_callVi hx hb hml hown hts hK hS [.int p1] [] hv gX5_set_X5_store rfl rfl rfl 1 (by decide +kernel) ⟨Nat.le_of_ble_eq_true rfl, Nat.le_of_ble_eq_true rfl⟩ rfl rfl ho72 rfl hl.1 rfl (Nat.le_of_ble_eq_true rfl) dX5_set_115 ⟨Nat.zero_le _, Nat.zero_le _⟩ (fun r74 f73 H locs hv hS => ?_)
                  exact fw_iret hx hb hr hlk hS hv dX5_set_118
                · have hv := hv.2 c70
                  refine lv_iconst (v := 1) hx hb dX5_set_105 (by decide) ?_
                  refine lv_goto (tgt := 110) hx hb dX5_set_106 (by decide) ?_
                  obtain ⟨f75, ef75, hv⟩ := hv
                  refine fw_put hx hb hts ii_X5_set_X5 tyX5 tyX5_ok nmX5 hown hK hS 4 ef75 rfl (by decide) mm_X5_set_0 rfl rfl rfl rfl dX5_set_110 (fun H locs hS => ?_)
                  refine lv_aload_n hx hb dX5_set_113 rfl (lv_at hl 2 rfl) ?_
                  refine lv_iload_n hx hb dX5_set_114 rfl (lv_at hl 3 rfl) ?_
                  obtain ⟨ho76, hv⟩ := hv
                  refine fw_callVi hx hb hml hown hts hK hS [.int p1] [] hv gX5_set_X5_store rfl rfl rfl 1 (by decide +kernel) ⟨Nat.le_of_ble_eq_true rfl, Nat.le_of_ble_eq_true rfl⟩ rfl rfl ho76 rfl hl.1 rfl (Nat.le_of_ble_eq_true rfl) dX5_set_115 ⟨Nat.zero_le _, Nat.zero_le _⟩ (fun r78 f77 H locs hv hS => ?_)
                  exact fw_iret hx hb hr hlk hS hv dX5_set_118
            · have hv := hv.2 c59
              refine lv_iconst (v := 1) hx hb dX5_set_85 (by decide) ?_
              refine lv_goto (tgt := 90) hx hb dX5_set_86 (by decide) ?_
              refine lv_lload hx hb dX5_set_90 (lv_at hl 0 rfl) ?_
              refine lv_lconst (v := 0) hx hb dX5_set_92 (by decide) ?_
              refine W.lcmp hx hb dX5_set_93 ?_
              refine lv_if_ge (tgt := 101) hx hb dX5_set_94 (by decide) (fun c79 => ?_) (fun c79 => ?_)
              · have hv := hv.1 c79
                refine lv_iconst (v := 0) hx hb dX5_set_101 (by decide) ?_
                refine lv_icmp_ne (tgt := 109) hx hb dX5_set_102 (by decide) (fun c80 => ?_) (fun c80 => ?_)
                · have hv := hv.1 c80
                  refine lv_iconst (v := (-1)) hx hb dX5_set_109 (by decide) ?_
                  obtain ⟨f81, ef81, hv⟩ := hv
                  refine fw_put hx hb hts ii_X5_set_X5 tyX5 tyX5_ok nmX5 hown hK hS 4 ef81 rfl (by decide) mm_X5_set_0 rfl rfl rfl rfl dX5_set_110 (fun H locs hS => ?_)
                  refine lv_aload_n hx hb dX5_set_113 rfl (lv_at hl 2 rfl) ?_
                  refine lv_iload_n hx hb dX5_set_114 rfl (lv_at hl 3 rfl) ?_
                  obtain ⟨ho82, hv⟩ := hv
                  refine fw_callVi hx hb hml hown hts hK hS [.int p1] [] hv gX5_set_X5_store rfl rfl rfl 1 (by decide +kernel) ⟨Nat.le_of_ble_eq_true rfl, Nat.le_of_ble_eq_true rfl⟩ rfl rfl ho82 rfl hl.1 rfl (Nat.le_of_ble_eq_true rfl) dX5_set_115 ⟨Nat.zero_le _, Nat.zero_le _⟩ (fun r84 f83 H locs hv hS => ?_)
                  exact fw_iret hx hb hr hlk hS hv dX5_set_118
                · have hv := hv.2 c80
                  refine lv_iconst (v := 1) hx hb dX5_set_105 (by decide) ?_
                  refine lv_goto (tgt := 110) hx hb dX5_set_106 (by decide) ?_
                  obtain ⟨f85, ef85, hv⟩ := hv
                  refine fw_put hx hb hts ii_X5_set_X5 tyX5 tyX5_ok nmX5 hown hK hS 4 ef85 rfl (by decide) mm_X5_set_0 rfl rfl rfl rfl dX5_set_110 (fun H locs hS => ?_)
                  refine lv_aload_n hx hb dX5_set_113 rfl (lv_at hl 2 rfl) ?_
                  refine lv_iload_n hx hb dX5_set_114 rfl (lv_at hl 3 rfl) ?_
                  obtain ⟨ho86, hv⟩ := hv
                  refine fw_callVi hx hb hml hown hts hK hS [.int p1] [] hv gX5_set_X5_store rfl rfl rfl 1 (by decide +kernel) ⟨Nat.le_of_ble_eq_true rfl, Nat.le_of_ble_eq_true rfl⟩ rfl rfl ho86 rfl hl.1 rfl (Nat.le_of_ble_eq_true rfl) dX5_set_115 ⟨Nat.zero_le _, Nat.zero_le _⟩ (fun r88 f87 H locs hv hS => ?_)
                  exact fw_iret hx hb hr hlk hS hv dX5_set_118
              · have hv := hv.2 c79
                refine lv_iconst (v := 1) hx hb dX5_set_97 (by decide) ?_
                refine lv_goto (tgt := 102) hx hb dX5_set_98 (by decide) ?_
                refine lv_icmp_ne (tgt := 109) hx hb dX5_set_102 (by decide) (fun c89 => ?_) (fun c89 => ?_)
                · have hv := hv.1 c89
                  refine lv_iconst (v := (-1)) hx hb dX5_set_109 (by decide) ?_
                  obtain ⟨f90, ef90, hv⟩ := hv
                  refine fw_put hx hb hts ii_X5_set_X5 tyX5 tyX5_ok nmX5 hown hK hS 4 ef90 rfl (by decide) mm_X5_set_0 rfl rfl rfl rfl dX5_set_110 (fun H locs hS => ?_)
                  refine lv_aload_n hx hb dX5_set_113 rfl (lv_at hl 2 rfl) ?_
                  refine lv_iload_n hx hb dX5_set_114 rfl (lv_at hl 3 rfl) ?_
                  obtain ⟨ho91, hv⟩ := hv
                  refine fw_callVi hx hb hml hown hts hK hS [.int p1] [] hv gX5_set_X5_store rfl rfl rfl 1 (by decide +kernel) ⟨Nat.le_of_ble_eq_true rfl, Nat.le_of_ble_eq_true rfl⟩ rfl rfl ho91 rfl hl.1 rfl (Nat.le_of_ble_eq_true rfl) dX5_set_115 ⟨Nat.zero_le _, Nat.zero_le _⟩ (fun r93 f92 H locs hv hS => ?_)
                  exact fw_iret hx hb hr hlk hS hv dX5_set_118
                · have hv := hv.2 c89
                  refine lv_iconst (v := 1) hx hb dX5_set_105 (by decide) ?_
                  refine lv_goto (tgt := 110) hx hb dX5_set_106 (by decide) ?_
                  obtain ⟨f94, ef94, hv⟩ := hv
                  refine fw_put hx hb hts ii_X5_set_X5 tyX5 tyX5_ok nmX5 hown hK hS 4 ef94 rfl (by decide) mm_X5_set_0 rfl rfl rfl rfl dX5_set_110 (fun H locs hS => ?_)
                  refine lv_aload_n hx hb dX5_set_113 rfl (lv_at hl 2 rfl) ?_
                  refine lv_iload_n hx hb dX5_set_114 rfl (lv_at hl 3 rfl) ?_
                  obtain ⟨ho95, hv⟩ := hv
                  refine fw_callVi hx hb hml hown hts hK hS [.int p1] [] hv gX5_set_X5_store rfl rfl rfl 1 (by decide +kernel) ⟨Nat.le_of_ble_eq_true rfl, Nat.le_of_ble_eq_true rfl⟩ rfl rfl ho95 rfl hl.1 rfl (Nat.le_of_ble_eq_true rfl) dX5_set_115 ⟨Nat.zero_le _, Nat.zero_le _⟩ (fun r97 f96 H locs hv hS => ?_)
                  exact fw_iret hx hb hr hlk hS hv dX5_set_118
          · have hv := hv.2 c58
            refine lv_iconst (v := 0) hx hb dX5_set_74 (by decide) ?_
            refine lv_goto (tgt := 110) hx hb dX5_set_75 (by decide) ?_
            obtain ⟨f98, ef98, hv⟩ := hv
            refine fw_put hx hb hts ii_X5_set_X5 tyX5 tyX5_ok nmX5 hown hK hS 4 ef98 rfl (by decide) mm_X5_set_0 rfl rfl rfl rfl dX5_set_110 (fun H locs hS => ?_)
            refine lv_aload_n hx hb dX5_set_113 rfl (lv_at hl 2 rfl) ?_
            refine lv_iload_n hx hb dX5_set_114 rfl (lv_at hl 3 rfl) ?_
            obtain ⟨ho99, hv⟩ := hv
            refine fw_callVi hx hb hml hown hts hK hS [.int p1] [] hv gX5_set_X5_store rfl rfl rfl 1 (by decide +kernel) ⟨Nat.le_of_ble_eq_true rfl, Nat.le_of_ble_eq_true rfl⟩ rfl rfl ho99 rfl hl.1 rfl (Nat.le_of_ble_eq_true rfl) dX5_set_115 ⟨Nat.zero_le _, Nat.zero_le _⟩ (fun r101 f100 H locs hv hS => ?_)
            exact fw_iret hx hb hr hlk hS hv dX5_set_118
      · have hv := hv.2 c6
        refine lv_lload hx hb dX5_set_34 (lv_at hl 1 rfl) ?_
        refine lv_lneg hx hb dX5_set_36 ?_
        refine lv_goto (tgt := 42) hx hb dX5_set_37 (by decide) ?_
        obtain ⟨ho102, hv⟩ := hv
        refine fw_callVv hx hb hml hown hts hK hS [.int (16 : Int32), .long (-p2.toInt64)] [] hv gX5_set_X5_put rfl rfl rfl 2 (by decide +kernel) ⟨Nat.le_of_ble_eq_true rfl, Nat.le_of_ble_eq_true rfl⟩ rfl rfl ho102 rfl hl.1 rfl (Nat.le_of_ble_eq_true rfl) dX5_set_42 ⟨Nat.zero_le _, Nat.zero_le _⟩ (fun f103 H locs hv hS => ?_)
        refine lv_aload_n hx hb dX5_set_45 rfl (lv_at hl 2 rfl) ?_
        refine lv_bipush (v := 17) hx hb dX5_set_46 (by decide) ?_
        refine lv_lload hx hb dX5_set_48 (lv_at hl 0 rfl) ?_
        refine lv_lconst (v := 0) hx hb dX5_set_50 (by decide) ?_
        refine W.lcmp hx hb dX5_set_51 ?_
        refine lv_if_ge (tgt := 61) hx hb dX5_set_52 (by decide) (fun c104 => ?_) (fun c104 => ?_)
        · have hv := hv.1 c104
          refine lv_lload hx hb dX5_set_61 (lv_at hl 0 rfl) ?_
          obtain ⟨ho105, hv⟩ := hv
          refine fw_callVv hx hb hml hown hts hK hS [.int (17 : Int32), .long p3.toInt64] [] hv gX5_set_X5_put rfl rfl rfl 2 (by decide +kernel) ⟨Nat.le_of_ble_eq_true rfl, Nat.le_of_ble_eq_true rfl⟩ rfl rfl ho105 rfl hl.1 rfl (Nat.le_of_ble_eq_true rfl) dX5_set_63 ⟨Nat.zero_le _, Nat.zero_le _⟩ (fun f106 H locs hv hS => ?_)
          refine lv_aload_n hx hb dX5_set_66 rfl (lv_at hl 2 rfl) ?_
          refine lv_lload hx hb dX5_set_67 (lv_at hl 1 rfl) ?_
          refine lv_lconst (v := 0) hx hb dX5_set_69 (by decide) ?_
          refine W.lcmp hx hb dX5_set_70 ?_
          refine lv_if_ne (tgt := 78) hx hb dX5_set_71 (by decide) (fun c107 => ?_) (fun c107 => ?_)
          · have hv := hv.1 c107
            refine lv_lload hx hb dX5_set_78 (lv_at hl 1 rfl) ?_
            refine lv_lconst (v := 0) hx hb dX5_set_80 (by decide) ?_
            refine W.lcmp hx hb dX5_set_81 ?_
            refine lv_if_ge (tgt := 89) hx hb dX5_set_82 (by decide) (fun c108 => ?_) (fun c108 => ?_)
            · have hv := hv.1 c108
              refine lv_iconst (v := 0) hx hb dX5_set_89 (by decide) ?_
              refine lv_lload hx hb dX5_set_90 (lv_at hl 0 rfl) ?_
              refine lv_lconst (v := 0) hx hb dX5_set_92 (by decide) ?_
              refine W.lcmp hx hb dX5_set_93 ?_
              refine lv_if_ge (tgt := 101) hx hb dX5_set_94 (by decide) (fun c109 => ?_) (fun c109 => ?_)
              · have hv := hv.1 c109
                refine lv_iconst (v := 0) hx hb dX5_set_101 (by decide) ?_
                refine lv_icmp_ne (tgt := 109) hx hb dX5_set_102 (by decide) (fun c110 => ?_) (fun c110 => ?_)
                · have hv := hv.1 c110
                  refine lv_iconst (v := (-1)) hx hb dX5_set_109 (by decide) ?_
                  obtain ⟨f111, ef111, hv⟩ := hv
                  refine fw_put hx hb hts ii_X5_set_X5 tyX5 tyX5_ok nmX5 hown hK hS 4 ef111 rfl (by decide) mm_X5_set_0 rfl rfl rfl rfl dX5_set_110 (fun H locs hS => ?_)
                  refine lv_aload_n hx hb dX5_set_113 rfl (lv_at hl 2 rfl) ?_
                  refine lv_iload_n hx hb dX5_set_114 rfl (lv_at hl 3 rfl) ?_
                  obtain ⟨ho112, hv⟩ := hv
                  refine fw_callVi hx hb hml hown hts hK hS [.int p1] [] hv gX5_set_X5_store rfl rfl rfl 1 (by decide +kernel) ⟨Nat.le_of_ble_eq_true rfl, Nat.le_of_ble_eq_true rfl⟩ rfl rfl ho112 rfl hl.1 rfl (Nat.le_of_ble_eq_true rfl) dX5_set_115 ⟨Nat.zero_le _, Nat.zero_le _⟩ (fun r114 f113 H locs hv hS => ?_)
                  exact fw_iret hx hb hr hlk hS hv dX5_set_118
                · have hv := hv.2 c110
                  refine lv_iconst (v := 1) hx hb dX5_set_105 (by decide) ?_
                  refine lv_goto (tgt := 110) hx hb dX5_set_106 (by decide) ?_
                  obtain ⟨f115, ef115, hv⟩ := hv
                  refine fw_put hx hb hts ii_X5_set_X5 tyX5 tyX5_ok nmX5 hown hK hS 4 ef115 rfl (by decide) mm_X5_set_0 rfl rfl rfl rfl dX5_set_110 (fun H locs hS => ?_)
                  refine lv_aload_n hx hb dX5_set_113 rfl (lv_at hl 2 rfl) ?_
                  refine lv_iload_n hx hb dX5_set_114 rfl (lv_at hl 3 rfl) ?_
                  obtain ⟨ho116, hv⟩ := hv
                  refine fw_callVi hx hb hml hown hts hK hS [.int p1] [] hv gX5_set_X5_store rfl rfl rfl 1 (by decide +kernel) ⟨Nat.le_of_ble_eq_true rfl, Nat.le_of_ble_eq_true rfl⟩ rfl rfl ho116 rfl hl.1 rfl (Nat.le_of_ble_eq_true rfl) dX5_set_115 ⟨Nat.zero_le _, Nat.zero_le _⟩ (fun r118 f117 H locs hv hS => ?_)
                  exact fw_iret hx hb hr hlk hS hv dX5_set_118
              · have hv := hv.2 c109
                refine lv_iconst (v := 1) hx hb dX5_set_97 (by decide) ?_
                refine lv_goto (tgt := 102) hx hb dX5_set_98 (by decide) ?_
                refine lv_icmp_ne (tgt := 109) hx hb dX5_set_102 (by decide) (fun c119 => ?_) (fun c119 => ?_)
                · have hv := hv.1 c119
                  refine lv_iconst (v := (-1)) hx hb dX5_set_109 (by decide) ?_
                  obtain ⟨f120, ef120, hv⟩ := hv
                  refine fw_put hx hb hts ii_X5_set_X5 tyX5 tyX5_ok nmX5 hown hK hS 4 ef120 rfl (by decide) mm_X5_set_0 rfl rfl rfl rfl dX5_set_110 (fun H locs hS => ?_)
                  refine lv_aload_n hx hb dX5_set_113 rfl (lv_at hl 2 rfl) ?_
                  refine lv_iload_n hx hb dX5_set_114 rfl (lv_at hl 3 rfl) ?_
                  obtain ⟨ho121, hv⟩ := hv
                  refine fw_callVi hx hb hml hown hts hK hS [.int p1] [] hv gX5_set_X5_store rfl rfl rfl 1 (by decide +kernel) ⟨Nat.le_of_ble_eq_true rfl, Nat.le_of_ble_eq_true rfl⟩ rfl rfl ho121 rfl hl.1 rfl (Nat.le_of_ble_eq_true rfl) dX5_set_115 ⟨Nat.zero_le _, Nat.zero_le _⟩ (fun r123 f122 H locs hv hS => ?_)
                  exact fw_iret hx hb hr hlk hS hv dX5_set_118
                · have hv := hv.2 c119
                  refine lv_iconst (v := 1) hx hb dX5_set_105 (by decide) ?_
                  refine lv_goto (tgt := 110) hx hb dX5_set_106 (by decide) ?_
                  obtain ⟨f124, ef124, hv⟩ := hv
                  refine fw_put hx hb hts ii_X5_set_X5 tyX5 tyX5_ok nmX5 hown hK hS 4 ef124 rfl (by decide) mm_X5_set_0 rfl rfl rfl rfl dX5_set_110 (fun H locs hS => ?_)
                  refine lv_aload_n hx hb dX5_set_113 rfl (lv_at hl 2 rfl) ?_
                  refine lv_iload_n hx hb dX5_set_114 rfl (lv_at hl 3 rfl) ?_
                  obtain ⟨ho125, hv⟩ := hv
                  refine fw_callVi hx hb hml hown hts hK hS [.int p1] [] hv gX5_set_X5_store rfl rfl rfl 1 (by decide +kernel) ⟨Nat.le_of_ble_eq_true rfl, Nat.le_of_ble_eq_true rfl⟩ rfl rfl ho125 rfl hl.1 rfl (Nat.le_of_ble_eq_true rfl) dX5_set_115 ⟨Nat.zero_le _, Nat.zero_le _⟩ (fun r127 f126 H locs hv hS => ?_)
                  exact fw_iret hx hb hr hlk hS hv dX5_set_118
            · have hv := hv.2 c108
              refine lv_iconst (v := 1) hx hb dX5_set_85 (by decide) ?_
              refine lv_goto (tgt := 90) hx hb dX5_set_86 (by decide) ?_
              refine lv_lload hx hb dX5_set_90 (lv_at hl 0 rfl) ?_
              refine lv_lconst (v := 0) hx hb dX5_set_92 (by decide) ?_
              refine W.lcmp hx hb dX5_set_93 ?_
              refine lv_if_ge (tgt := 101) hx hb dX5_set_94 (by decide) (fun c128 => ?_) (fun c128 => ?_)
              · have hv := hv.1 c128
                refine lv_iconst (v := 0) hx hb dX5_set_101 (by decide) ?_
                refine lv_icmp_ne (tgt := 109) hx hb dX5_set_102 (by decide) (fun c129 => ?_) (fun c129 => ?_)
                · have hv := hv.1 c129
                  refine lv_iconst (v := (-1)) hx hb dX5_set_109 (by decide) ?_
                  obtain ⟨f130, ef130, hv⟩ := hv
                  refine fw_put hx hb hts ii_X5_set_X5 tyX5 tyX5_ok nmX5 hown hK hS 4 ef130 rfl (by decide) mm_X5_set_0 rfl rfl rfl rfl dX5_set_110 (fun H locs hS => ?_)
                  refine lv_aload_n hx hb dX5_set_113 rfl (lv_at hl 2 rfl) ?_
                  refine lv_iload_n hx hb dX5_set_114 rfl (lv_at hl 3 rfl) ?_
                  obtain ⟨ho131, hv⟩ := hv
                  refine fw_callVi hx hb hml hown hts hK hS [.int p1] [] hv gX5_set_X5_store rfl rfl rfl 1 (by decide +kernel) ⟨Nat.le_of_ble_eq_true rfl, Nat.le_of_ble_eq_true rfl⟩ rfl rfl ho131 rfl hl.1 rfl (Nat.le_of_ble_eq_true rfl) dX5_set_115 ⟨Nat.zero_le _, Nat.zero_le _⟩ (fun r133 f132 H locs hv hS => ?_)
                  exact fw_iret hx hb hr hlk hS hv dX5_set_118
                · have hv := hv.2 c129
                  refine lv_iconst (v := 1) hx hb dX5_set_105 (by decide) ?_
                  refine lv_goto (tgt := 110) hx hb dX5_set_106 (by decide) ?_
                  obtain ⟨f134, ef134, hv⟩ := hv
                  refine fw_put hx hb hts ii_X5_set_X5 tyX5 tyX5_ok nmX5 hown hK hS 4 ef134 rfl (by decide) mm_X5_set_0 rfl rfl rfl rfl dX5_set_110 (fun H locs hS => ?_)
                  refine lv_aload_n hx hb dX5_set_113 rfl (lv_at hl 2 rfl) ?_
                  refine lv_iload_n hx hb dX5_set_114 rfl (lv_at hl 3 rfl) ?_
                  obtain ⟨ho135, hv⟩ := hv
                  refine fw_callVi hx hb hml hown hts hK hS [.int p1] [] hv gX5_set_X5_store rfl rfl rfl 1 (by decide +kernel) ⟨Nat.le_of_ble_eq_true rfl, Nat.le_of_ble_eq_true rfl⟩ rfl rfl ho135 rfl hl.1 rfl (Nat.le_of_ble_eq_true rfl) dX5_set_115 ⟨Nat.zero_le _, Nat.zero_le _⟩ (fun r137 f136 H locs hv hS => ?_)
                  exact fw_iret hx hb hr hlk hS hv dX5_set_118
              · have hv := hv.2 c128
                refine lv_iconst (v := 1) hx hb dX5_set_97 (by decide) ?_
                refine lv_goto (tgt := 102) hx hb dX5_set_98 (by decide) ?_
                refine lv_icmp_ne (tgt := 109) hx hb dX5_set_102 (by decide) (fun c138 => ?_) (fun c138 => ?_)
                · have hv := hv.1 c138
                  refine lv_iconst (v := (-1)) hx hb dX5_set_109 (by decide) ?_
                  obtain ⟨f139, ef139, hv⟩ := hv
                  refine fw_put hx hb hts ii_X5_set_X5 tyX5 tyX5_ok nmX5 hown hK hS 4 ef139 rfl (by decide) mm_X5_set_0 rfl rfl rfl rfl dX5_set_110 (fun H locs hS => ?_)
                  refine lv_aload_n hx hb dX5_set_113 rfl (lv_at hl 2 rfl) ?_
                  refine lv_iload_n hx hb dX5_set_114 rfl (lv_at hl 3 rfl) ?_
                  obtain ⟨ho140, hv⟩ := hv
                  refine fw_callVi hx hb hml hown hts hK hS [.int p1] [] hv gX5_set_X5_store rfl rfl rfl 1 (by decide +kernel) ⟨Nat.le_of_ble_eq_true rfl, Nat.le_of_ble_eq_true rfl⟩ rfl rfl ho140 rfl hl.1 rfl (Nat.le_of_ble_eq_true rfl) dX5_set_115 ⟨Nat.zero_le _, Nat.zero_le _⟩ (fun r142 f141 H locs hv hS => ?_)
                  exact fw_iret hx hb hr hlk hS hv dX5_set_118
                · have hv := hv.2 c138
                  refine lv_iconst (v := 1) hx hb dX5_set_105 (by decide) ?_
                  refine lv_goto (tgt := 110) hx hb dX5_set_106 (by decide) ?_
                  obtain ⟨f143, ef143, hv⟩ := hv
                  refine fw_put hx hb hts ii_X5_set_X5 tyX5 tyX5_ok nmX5 hown hK hS 4 ef143 rfl (by decide) mm_X5_set_0 rfl rfl rfl rfl dX5_set_110 (fun H locs hS => ?_)
                  refine lv_aload_n hx hb dX5_set_113 rfl (lv_at hl 2 rfl) ?_
                  refine lv_iload_n hx hb dX5_set_114 rfl (lv_at hl 3 rfl) ?_
                  obtain ⟨ho144, hv⟩ := hv
                  refine fw_callVi hx hb hml hown hts hK hS [.int p1] [] hv gX5_set_X5_store rfl rfl rfl 1 (by decide +kernel) ⟨Nat.le_of_ble_eq_true rfl, Nat.le_of_ble_eq_true rfl⟩ rfl rfl ho144 rfl hl.1 rfl (Nat.le_of_ble_eq_true rfl) dX5_set_115 ⟨Nat.zero_le _, Nat.zero_le _⟩ (fun r146 f145 H locs hv hS => ?_)
                  exact fw_iret hx hb hr hlk hS hv dX5_set_118
          · have hv := hv.2 c107
            refine lv_iconst (v := 0) hx hb dX5_set_74 (by decide) ?_
            refine lv_goto (tgt := 110) hx hb dX5_set_75 (by decide) ?_
            obtain ⟨f147, ef147, hv⟩ := hv
            refine fw_put hx hb hts ii_X5_set_X5 tyX5 tyX5_ok nmX5 hown hK hS 4 ef147 rfl (by decide) mm_X5_set_0 rfl rfl rfl rfl dX5_set_110 (fun H locs hS => ?_)
            refine lv_aload_n hx hb dX5_set_113 rfl (lv_at hl 2 rfl) ?_
            refine lv_iload_n hx hb dX5_set_114 rfl (lv_at hl 3 rfl) ?_
            obtain ⟨ho148, hv⟩ := hv
            refine fw_callVi hx hb hml hown hts hK hS [.int p1] [] hv gX5_set_X5_store rfl rfl rfl 1 (by decide +kernel) ⟨Nat.le_of_ble_eq_true rfl, Nat.le_of_ble_eq_true rfl⟩ rfl rfl ho148 rfl hl.1 rfl (Nat.le_of_ble_eq_true rfl) dX5_set_115 ⟨Nat.zero_le _, Nat.zero_le _⟩ (fun r150 f149 H locs hv hS => ?_)
            exact fw_iret hx hb hr hlk hS hv dX5_set_118
        · have hv := hv.2 c104
          refine lv_lload hx hb dX5_set_55 (lv_at hl 0 rfl) ?_
          refine lv_lneg hx hb dX5_set_57 ?_
          refine lv_goto (tgt := 63) hx hb dX5_set_58 (by decide) ?_
          obtain ⟨ho151, hv⟩ := hv
          refine fw_callVv hx hb hml hown hts hK hS [.int (17 : Int32), .long (-p3.toInt64)] [] hv gX5_set_X5_put rfl rfl rfl 2 (by decide +kernel) ⟨Nat.le_of_ble_eq_true rfl, Nat.le_of_ble_eq_true rfl⟩ rfl rfl ho151 rfl hl.1 rfl (Nat.le_of_ble_eq_true rfl) dX5_set_63 ⟨Nat.zero_le _, Nat.zero_le _⟩ (fun f152 H locs hv hS => ?_)
          refine lv_aload_n hx hb dX5_set_66 rfl (lv_at hl 2 rfl) ?_
          refine lv_lload hx hb dX5_set_67 (lv_at hl 1 rfl) ?_
          refine lv_lconst (v := 0) hx hb dX5_set_69 (by decide) ?_
          refine W.lcmp hx hb dX5_set_70 ?_
          refine lv_if_ne (tgt := 78) hx hb dX5_set_71 (by decide) (fun c153 => ?_) (fun c153 => ?_)
          · have hv := hv.1 c153
            refine lv_lload hx hb dX5_set_78 (lv_at hl 1 rfl) ?_
            refine lv_lconst (v := 0) hx hb dX5_set_80 (by decide) ?_
            refine W.lcmp hx hb dX5_set_81 ?_
            refine lv_if_ge (tgt := 89) hx hb dX5_set_82 (by decide) (fun c154 => ?_) (fun c154 => ?_)
            · have hv := hv.1 c154
              refine lv_iconst (v := 0) hx hb dX5_set_89 (by decide) ?_
              refine lv_lload hx hb dX5_set_90 (lv_at hl 0 rfl) ?_
              refine lv_lconst (v := 0) hx hb dX5_set_92 (by decide) ?_
              refine W.lcmp hx hb dX5_set_93 ?_
              refine lv_if_ge (tgt := 101) hx hb dX5_set_94 (by decide) (fun c155 => ?_) (fun c155 => ?_)
              · have hv := hv.1 c155
                refine lv_iconst (v := 0) hx hb dX5_set_101 (by decide) ?_
                refine lv_icmp_ne (tgt := 109) hx hb dX5_set_102 (by decide) (fun c156 => ?_) (fun c156 => ?_)
                · have hv := hv.1 c156
                  refine lv_iconst (v := (-1)) hx hb dX5_set_109 (by decide) ?_
                  obtain ⟨f157, ef157, hv⟩ := hv
                  refine fw_put hx hb hts ii_X5_set_X5 tyX5 tyX5_ok nmX5 hown hK hS 4 ef157 rfl (by decide) mm_X5_set_0 rfl rfl rfl rfl dX5_set_110 (fun H locs hS => ?_)
                  refine lv_aload_n hx hb dX5_set_113 rfl (lv_at hl 2 rfl) ?_
                  refine lv_iload_n hx hb dX5_set_114 rfl (lv_at hl 3 rfl) ?_
                  obtain ⟨ho158, hv⟩ := hv
                  refine fw_callVi hx hb hml hown hts hK hS [.int p1] [] hv gX5_set_X5_store rfl rfl rfl 1 (by decide +kernel) ⟨Nat.le_of_ble_eq_true rfl, Nat.le_of_ble_eq_true rfl⟩ rfl rfl ho158 rfl hl.1 rfl (Nat.le_of_ble_eq_true rfl) dX5_set_115 ⟨Nat.zero_le _, Nat.zero_le _⟩ (fun r160 f159 H locs hv hS => ?_)
                  exact fw_iret hx hb hr hlk hS hv dX5_set_118
                · have hv := hv.2 c156
                  refine lv_iconst (v := 1) hx hb dX5_set_105 (by decide) ?_
                  refine lv_goto (tgt := 110) hx hb dX5_set_106 (by decide) ?_
                  obtain ⟨f161, ef161, hv⟩ := hv
                  refine fw_put hx hb hts ii_X5_set_X5 tyX5 tyX5_ok nmX5 hown hK hS 4 ef161 rfl (by decide) mm_X5_set_0 rfl rfl rfl rfl dX5_set_110 (fun H locs hS => ?_)
                  refine lv_aload_n hx hb dX5_set_113 rfl (lv_at hl 2 rfl) ?_
                  refine lv_iload_n hx hb dX5_set_114 rfl (lv_at hl 3 rfl) ?_
                  obtain ⟨ho162, hv⟩ := hv
                  refine fw_callVi hx hb hml hown hts hK hS [.int p1] [] hv gX5_set_X5_store rfl rfl rfl 1 (by decide +kernel) ⟨Nat.le_of_ble_eq_true rfl, Nat.le_of_ble_eq_true rfl⟩ rfl rfl ho162 rfl hl.1 rfl (Nat.le_of_ble_eq_true rfl) dX5_set_115 ⟨Nat.zero_le _, Nat.zero_le _⟩ (fun r164 f163 H locs hv hS => ?_)
                  exact fw_iret hx hb hr hlk hS hv dX5_set_118
              · have hv := hv.2 c155
                refine lv_iconst (v := 1) hx hb dX5_set_97 (by decide) ?_
                refine lv_goto (tgt := 102) hx hb dX5_set_98 (by decide) ?_
                refine lv_icmp_ne (tgt := 109) hx hb dX5_set_102 (by decide) (fun c165 => ?_) (fun c165 => ?_)
                · have hv := hv.1 c165
                  refine lv_iconst (v := (-1)) hx hb dX5_set_109 (by decide) ?_
                  obtain ⟨f166, ef166, hv⟩ := hv
                  refine fw_put hx hb hts ii_X5_set_X5 tyX5 tyX5_ok nmX5 hown hK hS 4 ef166 rfl (by decide) mm_X5_set_0 rfl rfl rfl rfl dX5_set_110 (fun H locs hS => ?_)
                  refine lv_aload_n hx hb dX5_set_113 rfl (lv_at hl 2 rfl) ?_
                  refine lv_iload_n hx hb dX5_set_114 rfl (lv_at hl 3 rfl) ?_
                  obtain ⟨ho167, hv⟩ := hv
                  refine fw_callVi hx hb hml hown hts hK hS [.int p1] [] hv gX5_set_X5_store rfl rfl rfl 1 (by decide +kernel) ⟨Nat.le_of_ble_eq_true rfl, Nat.le_of_ble_eq_true rfl⟩ rfl rfl ho167 rfl hl.1 rfl (Nat.le_of_ble_eq_true rfl) dX5_set_115 ⟨Nat.zero_le _, Nat.zero_le _⟩ (fun r169 f168 H locs hv hS => ?_)
                  exact fw_iret hx hb hr hlk hS hv dX5_set_118
                · have hv := hv.2 c165
                  refine lv_iconst (v := 1) hx hb dX5_set_105 (by decide) ?_
                  refine lv_goto (tgt := 110) hx hb dX5_set_106 (by decide) ?_
                  obtain ⟨f170, ef170, hv⟩ := hv
                  refine fw_put hx hb hts ii_X5_set_X5 tyX5 tyX5_ok nmX5 hown hK hS 4 ef170 rfl (by decide) mm_X5_set_0 rfl rfl rfl rfl dX5_set_110 (fun H locs hS => ?_)
                  refine lv_aload_n hx hb dX5_set_113 rfl (lv_at hl 2 rfl) ?_
                  refine lv_iload_n hx hb dX5_set_114 rfl (lv_at hl 3 rfl) ?_
                  obtain ⟨ho171, hv⟩ := hv
                  refine fw_callVi hx hb hml hown hts hK hS [.int p1] [] hv gX5_set_X5_store rfl rfl rfl 1 (by decide +kernel) ⟨Nat.le_of_ble_eq_true rfl, Nat.le_of_ble_eq_true rfl⟩ rfl rfl ho171 rfl hl.1 rfl (Nat.le_of_ble_eq_true rfl) dX5_set_115 ⟨Nat.zero_le _, Nat.zero_le _⟩ (fun r173 f172 H locs hv hS => ?_)
                  exact fw_iret hx hb hr hlk hS hv dX5_set_118
            · have hv := hv.2 c154
              refine lv_iconst (v := 1) hx hb dX5_set_85 (by decide) ?_
              refine lv_goto (tgt := 90) hx hb dX5_set_86 (by decide) ?_
              refine lv_lload hx hb dX5_set_90 (lv_at hl 0 rfl) ?_
              refine lv_lconst (v := 0) hx hb dX5_set_92 (by decide) ?_
              refine W.lcmp hx hb dX5_set_93 ?_
              refine lv_if_ge (tgt := 101) hx hb dX5_set_94 (by decide) (fun c174 => ?_) (fun c174 => ?_)
              · have hv := hv.1 c174
                refine lv_iconst (v := 0) hx hb dX5_set_101 (by decide) ?_
                refine lv_icmp_ne (tgt := 109) hx hb dX5_set_102 (by decide) (fun c175 => ?_) (fun c175 => ?_)
                · have hv := hv.1 c175
                  refine lv_iconst (v := (-1)) hx hb dX5_set_109 (by decide) ?_
                  obtain ⟨f176, ef176, hv⟩ := hv
                  refine fw_put hx hb hts ii_X5_set_X5 tyX5 tyX5_ok nmX5 hown hK hS 4 ef176 rfl (by decide) mm_X5_set_0 rfl rfl rfl rfl dX5_set_110 (fun H locs hS => ?_)
                  refine lv_aload_n hx hb dX5_set_113 rfl (lv_at hl 2 rfl) ?_
                  refine lv_iload_n hx hb dX5_set_114 rfl (lv_at hl 3 rfl) ?_
                  obtain ⟨ho177, hv⟩ := hv
                  refine fw_callVi hx hb hml hown hts hK hS [.int p1] [] hv gX5_set_X5_store rfl rfl rfl 1 (by decide +kernel) ⟨Nat.le_of_ble_eq_true rfl, Nat.le_of_ble_eq_true rfl⟩ rfl rfl ho177 rfl hl.1 rfl (Nat.le_of_ble_eq_true rfl) dX5_set_115 ⟨Nat.zero_le _, Nat.zero_le _⟩ (fun r179 f178 H locs hv hS => ?_)
                  exact fw_iret hx hb hr hlk hS hv dX5_set_118
                · have hv := hv.2 c175
                  refine lv_iconst (v := 1) hx hb dX5_set_105 (by decide) ?_
                  refine lv_goto (tgt := 110) hx hb dX5_set_106 (by decide) ?_
                  obtain ⟨f180, ef180, hv⟩ := hv
                  refine fw_put hx hb hts ii_X5_set_X5 tyX5 tyX5_ok nmX5 hown hK hS 4 ef180 rfl (by decide) mm_X5_set_0 rfl rfl rfl rfl dX5_set_110 (fun H locs hS => ?_)
                  refine lv_aload_n hx hb dX5_set_113 rfl (lv_at hl 2 rfl) ?_
                  refine lv_iload_n hx hb dX5_set_114 rfl (lv_at hl 3 rfl) ?_
                  obtain ⟨ho181, hv⟩ := hv
                  refine fw_callVi hx hb hml hown hts hK hS [.int p1] [] hv gX5_set_X5_store rfl rfl rfl 1 (by decide +kernel) ⟨Nat.le_of_ble_eq_true rfl, Nat.le_of_ble_eq_true rfl⟩ rfl rfl ho181 rfl hl.1 rfl (Nat.le_of_ble_eq_true rfl) dX5_set_115 ⟨Nat.zero_le _, Nat.zero_le _⟩ (fun r183 f182 H locs hv hS => ?_)
                  exact fw_iret hx hb hr hlk hS hv dX5_set_118
              · have hv := hv.2 c174
                refine lv_iconst (v := 1) hx hb dX5_set_97 (by decide) ?_
                refine lv_goto (tgt := 102) hx hb dX5_set_98 (by decide) ?_
                refine lv_icmp_ne (tgt := 109) hx hb dX5_set_102 (by decide) (fun c184 => ?_) (fun c184 => ?_)
                · have hv := hv.1 c184
                  refine lv_iconst (v := (-1)) hx hb dX5_set_109 (by decide) ?_
                  obtain ⟨f185, ef185, hv⟩ := hv
                  refine fw_put hx hb hts ii_X5_set_X5 tyX5 tyX5_ok nmX5 hown hK hS 4 ef185 rfl (by decide) mm_X5_set_0 rfl rfl rfl rfl dX5_set_110 (fun H locs hS => ?_)
                  refine lv_aload_n hx hb dX5_set_113 rfl (lv_at hl 2 rfl) ?_
                  refine lv_iload_n hx hb dX5_set_114 rfl (lv_at hl 3 rfl) ?_
                  obtain ⟨ho186, hv⟩ := hv
                  refine fw_callVi hx hb hml hown hts hK hS [.int p1] [] hv gX5_set_X5_store rfl rfl rfl 1 (by decide +kernel) ⟨Nat.le_of_ble_eq_true rfl, Nat.le_of_ble_eq_true rfl⟩ rfl rfl ho186 rfl hl.1 rfl (Nat.le_of_ble_eq_true rfl) dX5_set_115 ⟨Nat.zero_le _, Nat.zero_le _⟩ (fun r188 f187 H locs hv hS => ?_)
                  exact fw_iret hx hb hr hlk hS hv dX5_set_118
                · have hv := hv.2 c184
                  refine lv_iconst (v := 1) hx hb dX5_set_105 (by decide) ?_
                  refine lv_goto (tgt := 110) hx hb dX5_set_106 (by decide) ?_
                  obtain ⟨f189, ef189, hv⟩ := hv
                  refine fw_put hx hb hts ii_X5_set_X5 tyX5 tyX5_ok nmX5 hown hK hS 4 ef189 rfl (by decide) mm_X5_set_0 rfl rfl rfl rfl dX5_set_110 (fun H locs hS => ?_)
                  refine lv_aload_n hx hb dX5_set_113 rfl (lv_at hl 2 rfl) ?_
                  refine lv_iload_n hx hb dX5_set_114 rfl (lv_at hl 3 rfl) ?_
                  obtain ⟨ho190, hv⟩ := hv
                  refine fw_callVi hx hb hml hown hts hK hS [.int p1] [] hv gX5_set_X5_store rfl rfl rfl 1 (by decide +kernel) ⟨Nat.le_of_ble_eq_true rfl, Nat.le_of_ble_eq_true rfl⟩ rfl rfl ho190 rfl hl.1 rfl (Nat.le_of_ble_eq_true rfl) dX5_set_115 ⟨Nat.zero_le _, Nat.zero_le _⟩ (fun r192 f191 H locs hv hS => ?_)
                  exact fw_iret hx hb hr hlk hS hv dX5_set_118
          · have hv := hv.2 c153
            refine lv_iconst (v := 0) hx hb dX5_set_74 (by decide) ?_
            refine lv_goto (tgt := 110) hx hb dX5_set_75 (by decide) ?_
            obtain ⟨f193, ef193, hv⟩ := hv
            refine fw_put hx hb hts ii_X5_set_X5 tyX5 tyX5_ok nmX5 hown hK hS 4 ef193 rfl (by decide) mm_X5_set_0 rfl rfl rfl rfl dX5_set_110 (fun H locs hS => ?_)
            refine lv_aload_n hx hb dX5_set_113 rfl (lv_at hl 2 rfl) ?_
            refine lv_iload_n hx hb dX5_set_114 rfl (lv_at hl 3 rfl) ?_
            obtain ⟨ho194, hv⟩ := hv
            refine fw_callVi hx hb hml hown hts hK hS [.int p1] [] hv gX5_set_X5_store rfl rfl rfl 1 (by decide +kernel) ⟨Nat.le_of_ble_eq_true rfl, Nat.le_of_ble_eq_true rfl⟩ rfl rfl ho194 rfl hl.1 rfl (Nat.le_of_ble_eq_true rfl) dX5_set_115 ⟨Nat.zero_le _, Nat.zero_le _⟩ (fun r196 f195 H locs hv hS => ?_)
            exact fw_iret hx hb hr hlk hS hv dX5_set_118
    · have hv := hv.2 c5
      refine lv_iconst (v := 2) hx hb dX5_set_14 (by decide) ?_
      exact fw_iret hx hb hr hlk hS hv dX5_set_15
  · have hv := hv.2 c4
    refine lv_iconst (v := 3) hx hb dX5_set_8 (by decide) ?_
    exact fw_iret hx hb hr hlk hS hv dX5_set_9
set_option maxRecDepth 100000 in
set_option maxHeartbeats 4000000 in
theorem T_X5_set {E : cx} {h : Nat} {p1 : Int32} {p2 : Int32} {p3 : Int32} {f : hm} {K : Int32 → hm → Prop}  (h0 : X_X5_set_0 E h p1 p2 p3 f  K) : S_X5_set E h p1 p2 p3 f K := by
  refine MI_of (cc := cX5_set) (maxL := 8) (ret := (some .int)) (by decide) rfl ?_
  intro p e s m below meth c C
  have hl := lv_entry ([.ref h, .int p1, .int p2, .int p3]) (n := 8) (Nat.le_of_ble_eq_true rfl)
  rw [lg_entry_eq]
  generalize (lg_sl ([.ref h, .int p1, .int p2, .int p3]) ++ List.replicate (8 - (lg_sl ([.ref h, .int p1, .int p2, .int p3])).length) Slot.unset).toArray = ls at hl ⊢
  have hl : lv_has ls 8 [(0, .ref h), (1, .int p1), (2, .int p2), (3, .int p3)] := hl
  have hS := C.2.2.2.2.2.2.2.2.2
  exact R_X5_set_0 C h p1 p2 p3 f h0 hl hS
/-! ContinuedRatiosModel.add(III)I -/
def S_X5_add (E : cx) (h : Nat) (p1 : Int32) (p2 : Int32) (p3 : Int32) (f : hm) (K : Int32 → hm → Prop) : Prop := MI E.1 E.2.1 vwCl (eT E) yX5_add wsX5_add ({ frames := 5, cells := 0, slots := 0, locals := 118 }) [.ref h, .int p1, .int p2, .int p3] f K
def X_X5_add_0 (E : cx) (h : Nat) (p1 : Int32) (p2 : Int32) (p3 : Int32) (f : hm)  (K : Int32 → hm → Prop) : Prop :=
  (isO f h 5 ∧ S_X5_areRegisters E h p1 p2 p3 f (fun (r3 : Int32) (f2 : hm) => ((r3 = 0 → K (3 : Int32) f2) ∧ (¬ (r3 = 0) → (isO f2 h 5 ∧ S_X5_sum E h p1 p2 p3 (1 : Int32) f2 (fun (r7 : Int32) (f6 : hm) => K r7 f6))))))
set_option maxRecDepth 100000 in
set_option maxHeartbeats 4000000 in
theorem R_X5_add_0 {E : cx} {p : Program} {e : Env} {s : State} {m : MethodId} {below : List Frame} {meth : Method} {c : Code} {f0 : hm} {zh : Nat} {zp1 : Int32} {zp2 : Int32} {zp3 : Int32} (C : wB E.2.1 vwCl (eT E) yX5_add cX5_add 4 (some .int) wsX5_add [.ref zh, .int zp1, .int zp2, .int zp3] f0 p s m meth c) (h : Nat) (p1 : Int32) (p2 : Int32) (p3 : Int32) (f : hm)  {K : Int32 → hm → Prop} (hv : X_X5_add_0 E h p1 p2 p3 f  K) {ls : Array Slot} {H : Heap} {locs : List Loc} (hl : lv_has ls 4 [(0, .ref h), (1, .int p1), (2, .int p2), (3, .int p3)]) (hS : wS E.2.1 vwCl (wA f0 s.heap.size) s.heap f H locs)  : W p E.1 e ({ frames := 5, cells := 0, slots := 0, locals := 118 }) s m ([.ref zh, .int zp1, .int zp2, .int zp3] : List Value).toArray below meth c H locs 0 0 (MQ below (wQi f0 E.2.1 vwCl K s) ([.ref zh, .int zp1, .int zp2, .int zp3] : List Value).toArray s 0 0 (wA f0 s.heap.size)) (F0 m 0 ls []) := by
  obtain ⟨hx, hb, hml, hown, hts, hr, hlk, hnm, hK, -⟩ := C
  unfold X_X5_add_0 at hv
  refine lv_aload_n hx hb dX5_add_0 rfl (lv_at hl 0 rfl) ?_
  refine lv_iload_n hx hb dX5_add_1 rfl (lv_at hl 1 rfl) ?_
  refine lv_iload_n hx hb dX5_add_2 rfl (lv_at hl 2 rfl) ?_
  refine lv_iload_n hx hb dX5_add_3 rfl (lv_at hl 3 rfl) ?_
  obtain ⟨ho1, hv⟩ := hv
  refine fw_callVi hx hb hml hown hts hK hS [.int p1, .int p2, .int p3] [] hv gX5_add_X5_areRegisters rfl rfl rfl 3 (by decide +kernel) ⟨Nat.le_of_ble_eq_true rfl, Nat.le_of_ble_eq_true rfl⟩ rfl rfl ho1 rfl hl.1 rfl (Nat.le_of_ble_eq_true rfl) dX5_add_4 ⟨Nat.zero_le _, Nat.zero_le _⟩ (fun r3 f2 H locs hv hS => ?_)
  refine lv_if_eq (tgt := 21) hx hb dX5_add_7 (by decide) (fun c4 => ?_) (fun c4 => ?_)
  · have hv := hv.1 c4
    refine lv_iconst (v := 3) hx hb dX5_add_21 (by decide) ?_
    exact fw_iret hx hb hr hlk hS hv dX5_add_22
  · have hv := hv.2 c4
    refine lv_aload_n hx hb dX5_add_10 rfl (lv_at hl 0 rfl) ?_
    refine lv_iload_n hx hb dX5_add_11 rfl (lv_at hl 1 rfl) ?_
    refine lv_iload_n hx hb dX5_add_12 rfl (lv_at hl 2 rfl) ?_
    refine lv_iload_n hx hb dX5_add_13 rfl (lv_at hl 3 rfl) ?_
    refine lv_iconst (v := 1) hx hb dX5_add_14 (by decide) ?_
    obtain ⟨ho5, hv⟩ := hv
    refine fw_callVi hx hb hml hown hts hK hS [.int p1, .int p2, .int p3, .int (1 : Int32)] [] hv gX5_add_X5_sum rfl rfl rfl 4 (by decide +kernel) ⟨Nat.le_of_ble_eq_true rfl, Nat.le_of_ble_eq_true rfl⟩ rfl rfl ho5 rfl hl.1 rfl (Nat.le_of_ble_eq_true rfl) dX5_add_15 ⟨Nat.zero_le _, Nat.zero_le _⟩ (fun r7 f6 H locs hv hS => ?_)
    refine lv_goto (tgt := 22) hx hb dX5_add_18 (by decide) ?_
    exact fw_iret hx hb hr hlk hS hv dX5_add_22
set_option maxRecDepth 100000 in
set_option maxHeartbeats 4000000 in
theorem T_X5_add {E : cx} {h : Nat} {p1 : Int32} {p2 : Int32} {p3 : Int32} {f : hm} {K : Int32 → hm → Prop}  (h0 : X_X5_add_0 E h p1 p2 p3 f  K) : S_X5_add E h p1 p2 p3 f K := by
  refine MI_of (cc := cX5_add) (maxL := 4) (ret := (some .int)) (by decide) rfl ?_
  intro p e s m below meth c C
  have hl := lv_entry ([.ref h, .int p1, .int p2, .int p3]) (n := 4) (Nat.le_of_ble_eq_true rfl)
  rw [lg_entry_eq]
  generalize (lg_sl ([.ref h, .int p1, .int p2, .int p3]) ++ List.replicate (4 - (lg_sl ([.ref h, .int p1, .int p2, .int p3])).length) Slot.unset).toArray = ls at hl ⊢
  have hl : lv_has ls 4 [(0, .ref h), (1, .int p1), (2, .int p2), (3, .int p3)] := hl
  have hS := C.2.2.2.2.2.2.2.2.2
  exact R_X5_add_0 C h p1 p2 p3 f h0 hl hS
/-! ContinuedRatiosModel.sub(III)I -/
def S_X5_sub (E : cx) (h : Nat) (p1 : Int32) (p2 : Int32) (p3 : Int32) (f : hm) (K : Int32 → hm → Prop) : Prop := MI E.1 E.2.1 vwCl (eT E) yX5_sub wsX5_sub ({ frames := 5, cells := 0, slots := 0, locals := 118 }) [.ref h, .int p1, .int p2, .int p3] f K
def X_X5_sub_0 (E : cx) (h : Nat) (p1 : Int32) (p2 : Int32) (p3 : Int32) (f : hm)  (K : Int32 → hm → Prop) : Prop :=
  (isO f h 5 ∧ S_X5_areRegisters E h p1 p2 p3 f (fun (r3 : Int32) (f2 : hm) => ((r3 = 0 → K (3 : Int32) f2) ∧ (¬ (r3 = 0) → (isO f2 h 5 ∧ S_X5_sum E h p1 p2 p3 (-1 : Int32) f2 (fun (r7 : Int32) (f6 : hm) => K r7 f6))))))
set_option maxRecDepth 100000 in
set_option maxHeartbeats 4000000 in
theorem R_X5_sub_0 {E : cx} {p : Program} {e : Env} {s : State} {m : MethodId} {below : List Frame} {meth : Method} {c : Code} {f0 : hm} {zh : Nat} {zp1 : Int32} {zp2 : Int32} {zp3 : Int32} (C : wB E.2.1 vwCl (eT E) yX5_sub cX5_sub 4 (some .int) wsX5_sub [.ref zh, .int zp1, .int zp2, .int zp3] f0 p s m meth c) (h : Nat) (p1 : Int32) (p2 : Int32) (p3 : Int32) (f : hm)  {K : Int32 → hm → Prop} (hv : X_X5_sub_0 E h p1 p2 p3 f  K) {ls : Array Slot} {H : Heap} {locs : List Loc} (hl : lv_has ls 4 [(0, .ref h), (1, .int p1), (2, .int p2), (3, .int p3)]) (hS : wS E.2.1 vwCl (wA f0 s.heap.size) s.heap f H locs)  : W p E.1 e ({ frames := 5, cells := 0, slots := 0, locals := 118 }) s m ([.ref zh, .int zp1, .int zp2, .int zp3] : List Value).toArray below meth c H locs 0 0 (MQ below (wQi f0 E.2.1 vwCl K s) ([.ref zh, .int zp1, .int zp2, .int zp3] : List Value).toArray s 0 0 (wA f0 s.heap.size)) (F0 m 0 ls []) := by
  obtain ⟨hx, hb, hml, hown, hts, hr, hlk, hnm, hK, -⟩ := C
  unfold X_X5_sub_0 at hv
  refine lv_aload_n hx hb dX5_sub_0 rfl (lv_at hl 0 rfl) ?_
  refine lv_iload_n hx hb dX5_sub_1 rfl (lv_at hl 1 rfl) ?_
  refine lv_iload_n hx hb dX5_sub_2 rfl (lv_at hl 2 rfl) ?_
  refine lv_iload_n hx hb dX5_sub_3 rfl (lv_at hl 3 rfl) ?_
  obtain ⟨ho1, hv⟩ := hv
  refine fw_callVi hx hb hml hown hts hK hS [.int p1, .int p2, .int p3] [] hv gX5_sub_X5_areRegisters rfl rfl rfl 3 (by decide +kernel) ⟨Nat.le_of_ble_eq_true rfl, Nat.le_of_ble_eq_true rfl⟩ rfl rfl ho1 rfl hl.1 rfl (Nat.le_of_ble_eq_true rfl) dX5_sub_4 ⟨Nat.zero_le _, Nat.zero_le _⟩ (fun r3 f2 H locs hv hS => ?_)
  refine lv_if_eq (tgt := 21) hx hb dX5_sub_7 (by decide) (fun c4 => ?_) (fun c4 => ?_)
  · have hv := hv.1 c4
    refine lv_iconst (v := 3) hx hb dX5_sub_21 (by decide) ?_
    exact fw_iret hx hb hr hlk hS hv dX5_sub_22
  · have hv := hv.2 c4
    refine lv_aload_n hx hb dX5_sub_10 rfl (lv_at hl 0 rfl) ?_
    refine lv_iload_n hx hb dX5_sub_11 rfl (lv_at hl 1 rfl) ?_
    refine lv_iload_n hx hb dX5_sub_12 rfl (lv_at hl 2 rfl) ?_
    refine lv_iload_n hx hb dX5_sub_13 rfl (lv_at hl 3 rfl) ?_
    refine lv_iconst (v := (-1)) hx hb dX5_sub_14 (by decide) ?_
    obtain ⟨ho5, hv⟩ := hv
    refine fw_callVi hx hb hml hown hts hK hS [.int p1, .int p2, .int p3, .int (-1 : Int32)] [] hv gX5_sub_X5_sum rfl rfl rfl 4 (by decide +kernel) ⟨Nat.le_of_ble_eq_true rfl, Nat.le_of_ble_eq_true rfl⟩ rfl rfl ho5 rfl hl.1 rfl (Nat.le_of_ble_eq_true rfl) dX5_sub_15 ⟨Nat.zero_le _, Nat.zero_le _⟩ (fun r7 f6 H locs hv hS => ?_)
    refine lv_goto (tgt := 22) hx hb dX5_sub_18 (by decide) ?_
    exact fw_iret hx hb hr hlk hS hv dX5_sub_22
set_option maxRecDepth 100000 in
set_option maxHeartbeats 4000000 in
theorem T_X5_sub {E : cx} {h : Nat} {p1 : Int32} {p2 : Int32} {p3 : Int32} {f : hm} {K : Int32 → hm → Prop}  (h0 : X_X5_sub_0 E h p1 p2 p3 f  K) : S_X5_sub E h p1 p2 p3 f K := by
  refine MI_of (cc := cX5_sub) (maxL := 4) (ret := (some .int)) (by decide) rfl ?_
  intro p e s m below meth c C
  have hl := lv_entry ([.ref h, .int p1, .int p2, .int p3]) (n := 4) (Nat.le_of_ble_eq_true rfl)
  rw [lg_entry_eq]
  generalize (lg_sl ([.ref h, .int p1, .int p2, .int p3]) ++ List.replicate (4 - (lg_sl ([.ref h, .int p1, .int p2, .int p3])).length) Slot.unset).toArray = ls at hl ⊢
  have hl : lv_has ls 4 [(0, .ref h), (1, .int p1), (2, .int p2), (3, .int p3)] := hl
  have hS := C.2.2.2.2.2.2.2.2.2
  exact R_X5_sub_0 C h p1 p2 p3 f h0 hl hS
/-! ContinuedRatiosModel.mul(III)I -/
def S_X5_mul (E : cx) (h : Nat) (p1 : Int32) (p2 : Int32) (p3 : Int32) (f : hm) (K : Int32 → hm → Prop) : Prop := MI E.1 E.2.1 vwCl (eT E) yX5_mul wsX5_mul ({ frames := 4, cells := 0, slots := 0, locals := 92 }) [.ref h, .int p1, .int p2, .int p3] f K
theorem mm_X5_mul_0 : Cond.fieldLink RX5 13 "ContinuedRatiosModel" "signs" "[I" ∈ wsX5_mul := by decide +kernel
theorem mm_X5_mul_1 : Cond.fieldLink RX5 61 "ContinuedRatiosModel" "sign" "I" ∈ wsX5_mul := by decide +kernel
theorem ii_X5_mul_X5 : ∀ w ∈ u_ws RX5 TX5 7, w ∈ wsX5_mul := by decide +kernel
def X_X5_mul_0 (E : cx) (h : Nat) (p1 : Int32) (p2 : Int32) (p3 : Int32) (f : hm)  (K : Int32 → hm → Prop) : Prop :=
  (isO f h 5 ∧ S_X5_areRegisters E h p1 p2 p3 f (fun (r3 : Int32) (f2 : hm) => ((¬ r3 = 0 → (isO f2 h 5 ∧ S_X5_multiply E h p2 p3 (16 : Int32) f2 (fun (f6 : hm) => (isO f6 h 5 ∧ S_X5_multiply E h ((8 : Int32) + p2) ((8 : Int32) + p3) (17 : Int32) f6 (fun (f8 : hm) => (∃ v9 : Nat, rdV f8 h 5 3 = some (.ref v9) ∧ (∃ v10 : Int32, rdA (eI E) f8 v9 p2 = some v10 ∧ (∃ v11 : Nat, rdV f8 h 5 3 = some (.ref v11) ∧ (∃ v12 : Int32, rdA (eI E) f8 v11 p3 = some v12 ∧ (∃ f13 : hm, wrV f8 h 5 4 (.int (v10 * v12)) = some f13 ∧ (isO f13 h 5 ∧ S_X5_store E h p1 f13 (fun (r16 : Int32) (f15 : hm) => K r16 f15)))))))))))) ∧ (r3 = 0 → K (3 : Int32) f2))))
set_option maxRecDepth 100000 in
set_option maxHeartbeats 4000000 in
theorem R_X5_mul_0 {E : cx} {p : Program} {e : Env} {s : State} {m : MethodId} {below : List Frame} {meth : Method} {c : Code} {f0 : hm} {zh : Nat} {zp1 : Int32} {zp2 : Int32} {zp3 : Int32} (C : wB E.2.1 vwCl (eT E) yX5_mul cX5_mul 4 (some .int) wsX5_mul [.ref zh, .int zp1, .int zp2, .int zp3] f0 p s m meth c) (h : Nat) (p1 : Int32) (p2 : Int32) (p3 : Int32) (f : hm)  {K : Int32 → hm → Prop} (hv : X_X5_mul_0 E h p1 p2 p3 f  K) {ls : Array Slot} {H : Heap} {locs : List Loc} (hl : lv_has ls 4 [(0, .ref h), (1, .int p1), (2, .int p2), (3, .int p3)]) (hS : wS E.2.1 vwCl (wA f0 s.heap.size) s.heap f H locs)  : W p E.1 e ({ frames := 4, cells := 0, slots := 0, locals := 92 }) s m ([.ref zh, .int zp1, .int zp2, .int zp3] : List Value).toArray below meth c H locs 0 0 (MQ below (wQi f0 E.2.1 vwCl K s) ([.ref zh, .int zp1, .int zp2, .int zp3] : List Value).toArray s 0 0 (wA f0 s.heap.size)) (F0 m 0 ls []) := by
  obtain ⟨hx, hb, hml, hown, hts, hr, hlk, hnm, hK, -⟩ := C
  unfold X_X5_mul_0 at hv
  refine lv_aload_n hx hb dX5_mul_0 rfl (lv_at hl 0 rfl) ?_
  refine lv_iload_n hx hb dX5_mul_1 rfl (lv_at hl 1 rfl) ?_
  refine lv_iload_n hx hb dX5_mul_2 rfl (lv_at hl 2 rfl) ?_
  refine lv_iload_n hx hb dX5_mul_3 rfl (lv_at hl 3 rfl) ?_
  obtain ⟨ho1, hv⟩ := hv
  refine fw_callVi hx hb hml hown hts hK hS [.int p1, .int p2, .int p3] [] hv gX5_mul_X5_areRegisters rfl rfl rfl 3 (by decide +kernel) ⟨Nat.le_of_ble_eq_true rfl, Nat.le_of_ble_eq_true rfl⟩ rfl rfl ho1 rfl hl.1 rfl (Nat.le_of_ble_eq_true rfl) dX5_mul_4 ⟨Nat.zero_le _, Nat.zero_le _⟩ (fun r3 f2 H locs hv hS => ?_)
  refine lv_if_ne (tgt := 12) hx hb dX5_mul_7 (by decide) (fun c4 => ?_) (fun c4 => ?_)
  · have hv := hv.1 c4
    refine lv_aload_n hx hb dX5_mul_12 rfl (lv_at hl 0 rfl) ?_
    refine lv_iload_n hx hb dX5_mul_13 rfl (lv_at hl 2 rfl) ?_
    refine lv_iload_n hx hb dX5_mul_14 rfl (lv_at hl 3 rfl) ?_
    refine lv_bipush (v := 16) hx hb dX5_mul_15 (by decide) ?_
    obtain ⟨ho5, hv⟩ := hv
    refine fw_callVv hx hb hml hown hts hK hS [.int p2, .int p3, .int (16 : Int32)] [] hv gX5_mul_X5_multiply rfl rfl rfl 3 (by decide +kernel) ⟨Nat.le_of_ble_eq_true rfl, Nat.le_of_ble_eq_true rfl⟩ rfl rfl ho5 rfl hl.1 rfl (Nat.le_of_ble_eq_true rfl) dX5_mul_17 ⟨Nat.zero_le _, Nat.zero_le _⟩ (fun f6 H locs hv hS => ?_)
    refine lv_aload_n hx hb dX5_mul_20 rfl (lv_at hl 0 rfl) ?_
    refine lv_bipush (v := 8) hx hb dX5_mul_21 (by decide) ?_
    refine lv_iload_n hx hb dX5_mul_23 rfl (lv_at hl 2 rfl) ?_
    refine lv_iadd hx hb dX5_mul_24 ?_
    refine lv_bipush (v := 8) hx hb dX5_mul_25 (by decide) ?_
    refine lv_iload_n hx hb dX5_mul_27 rfl (lv_at hl 3 rfl) ?_
    refine lv_iadd hx hb dX5_mul_28 ?_
    refine lv_bipush (v := 17) hx hb dX5_mul_29 (by decide) ?_
    obtain ⟨ho7, hv⟩ := hv
    refine fw_callVv hx hb hml hown hts hK hS [.int ((8 : Int32) + p2), .int ((8 : Int32) + p3), .int (17 : Int32)] [] hv gX5_mul_X5_multiply rfl rfl rfl 3 (by decide +kernel) ⟨Nat.le_of_ble_eq_true rfl, Nat.le_of_ble_eq_true rfl⟩ rfl rfl ho7 rfl hl.1 rfl (Nat.le_of_ble_eq_true rfl) dX5_mul_31 ⟨Nat.zero_le _, Nat.zero_le _⟩ (fun f8 H locs hv hS => ?_)
    refine lv_aload_n hx hb dX5_mul_34 rfl (lv_at hl 0 rfl) ?_
    refine lv_aload_n hx hb dX5_mul_35 rfl (lv_at hl 0 rfl) ?_
    obtain ⟨v9, ev9, hv⟩ := hv
    refine fw_get hx hb hts ii_X5_mul_X5 hown hK hS 3 ev9 rfl (by decide) mm_X5_mul_0 rfl dX5_mul_36 ?_
    refine lv_iload_n hx hb dX5_mul_39 rfl (lv_at hl 2 rfl) ?_
    obtain ⟨v10, ev10, hv⟩ := hv
    refine fw_ald hx hb hK hS 0 rfl ev10 dX5_mul_40 ?_
    refine lv_aload_n hx hb dX5_mul_41 rfl (lv_at hl 0 rfl) ?_
    obtain ⟨v11, ev11, hv⟩ := hv
    refine fw_get hx hb hts ii_X5_mul_X5 hown hK hS 3 ev11 rfl (by decide) mm_X5_mul_0 rfl dX5_mul_42 ?_
    refine lv_iload_n hx hb dX5_mul_45 rfl (lv_at hl 3 rfl) ?_
    obtain ⟨v12, ev12, hv⟩ := hv
    refine fw_ald hx hb hK hS 0 rfl ev12 dX5_mul_46 ?_
    refine lv_imul hx hb dX5_mul_47 ?_
    obtain ⟨f13, ef13, hv⟩ := hv
    refine fw_put hx hb hts ii_X5_mul_X5 tyX5 tyX5_ok nmX5 hown hK hS 4 ef13 rfl (by decide) mm_X5_mul_1 rfl rfl rfl rfl dX5_mul_48 (fun H locs hS => ?_)
    refine lv_aload_n hx hb dX5_mul_51 rfl (lv_at hl 0 rfl) ?_
    refine lv_iload_n hx hb dX5_mul_52 rfl (lv_at hl 1 rfl) ?_
    obtain ⟨ho14, hv⟩ := hv
    refine fw_callVi hx hb hml hown hts hK hS [.int p1] [] hv gX5_mul_X5_store rfl rfl rfl 1 (by decide +kernel) ⟨Nat.le_of_ble_eq_true rfl, Nat.le_of_ble_eq_true rfl⟩ rfl rfl ho14 rfl hl.1 rfl (Nat.le_of_ble_eq_true rfl) dX5_mul_53 ⟨Nat.zero_le _, Nat.zero_le _⟩ (fun r16 f15 H locs hv hS => ?_)
    exact fw_iret hx hb hr hlk hS hv dX5_mul_56
  · have hv := hv.2 c4
    refine lv_iconst (v := 3) hx hb dX5_mul_10 (by decide) ?_
    exact fw_iret hx hb hr hlk hS hv dX5_mul_11
set_option maxRecDepth 100000 in
set_option maxHeartbeats 4000000 in
theorem T_X5_mul {E : cx} {h : Nat} {p1 : Int32} {p2 : Int32} {p3 : Int32} {f : hm} {K : Int32 → hm → Prop}  (h0 : X_X5_mul_0 E h p1 p2 p3 f  K) : S_X5_mul E h p1 p2 p3 f K := by
  refine MI_of (cc := cX5_mul) (maxL := 4) (ret := (some .int)) (by decide) rfl ?_
  intro p e s m below meth c C
  have hl := lv_entry ([.ref h, .int p1, .int p2, .int p3]) (n := 4) (Nat.le_of_ble_eq_true rfl)
  rw [lg_entry_eq]
  generalize (lg_sl ([.ref h, .int p1, .int p2, .int p3]) ++ List.replicate (4 - (lg_sl ([.ref h, .int p1, .int p2, .int p3])).length) Slot.unset).toArray = ls at hl ⊢
  have hl : lv_has ls 4 [(0, .ref h), (1, .int p1), (2, .int p2), (3, .int p3)] := hl
  have hS := C.2.2.2.2.2.2.2.2.2
  exact R_X5_mul_0 C h p1 p2 p3 f h0 hl hS
/-! ContinuedRatiosModel.div(III)I -/
def S_X5_div (E : cx) (h : Nat) (p1 : Int32) (p2 : Int32) (p3 : Int32) (f : hm) (K : Int32 → hm → Prop) : Prop := MI E.1 E.2.1 vwCl (eT E) yX5_div wsX5_div ({ frames := 4, cells := 0, slots := 0, locals := 92 }) [.ref h, .int p1, .int p2, .int p3] f K
theorem mm_X5_div_0 : Cond.fieldLink RX5 13 "ContinuedRatiosModel" "signs" "[I" ∈ wsX5_div := by decide +kernel
theorem mm_X5_div_1 : Cond.fieldLink RX5 61 "ContinuedRatiosModel" "sign" "I" ∈ wsX5_div := by decide +kernel
theorem ii_X5_div_X5 : ∀ w ∈ u_ws RX5 TX5 7, w ∈ wsX5_div := by decide +kernel
def X_X5_div_0 (E : cx) (h : Nat) (p1 : Int32) (p2 : Int32) (p3 : Int32) (f : hm)  (K : Int32 → hm → Prop) : Prop :=
  (isO f h 5 ∧ S_X5_areRegisters E h p1 p2 p3 f (fun (r3 : Int32) (f2 : hm) => ((¬ r3 = 0 → (∃ v5 : Nat, rdV f2 h 5 3 = some (.ref v5) ∧ (∃ v6 : Int32, rdA (eI E) f2 v5 p3 = some v6 ∧ ((¬ v6 = 0 → (isO f2 h 5 ∧ S_X5_multiply E h p2 ((8 : Int32) + p3) (16 : Int32) f2 (fun (f9 : hm) => (isO f9 h 5 ∧ S_X5_multiply E h ((8 : Int32) + p2) p3 (17 : Int32) f9 (fun (f11 : hm) => (∃ v12 : Nat, rdV f11 h 5 3 = some (.ref v12) ∧ (∃ v13 : Int32, rdA (eI E) f11 v12 p2 = some v13 ∧ (∃ v14 : Nat, rdV f11 h 5 3 = some (.ref v14) ∧ (∃ v15 : Int32, rdA (eI E) f11 v14 p3 = some v15 ∧ (∃ f16 : hm, wrV f11 h 5 4 (.int (v13 * v15)) = some f16 ∧ (isO f16 h 5 ∧ S_X5_store E h p1 f16 (fun (r19 : Int32) (f18 : hm) => K r19 f18)))))))))))) ∧ (v6 = 0 → K (2 : Int32) f2))))) ∧ (r3 = 0 → K (3 : Int32) f2))))
set_option maxRecDepth 100000 in
set_option maxHeartbeats 4000000 in
theorem R_X5_div_0 {E : cx} {p : Program} {e : Env} {s : State} {m : MethodId} {below : List Frame} {meth : Method} {c : Code} {f0 : hm} {zh : Nat} {zp1 : Int32} {zp2 : Int32} {zp3 : Int32} (C : wB E.2.1 vwCl (eT E) yX5_div cX5_div 4 (some .int) wsX5_div [.ref zh, .int zp1, .int zp2, .int zp3] f0 p s m meth c) (h : Nat) (p1 : Int32) (p2 : Int32) (p3 : Int32) (f : hm)  {K : Int32 → hm → Prop} (hv : X_X5_div_0 E h p1 p2 p3 f  K) {ls : Array Slot} {H : Heap} {locs : List Loc} (hl : lv_has ls 4 [(0, .ref h), (1, .int p1), (2, .int p2), (3, .int p3)]) (hS : wS E.2.1 vwCl (wA f0 s.heap.size) s.heap f H locs)  : W p E.1 e ({ frames := 4, cells := 0, slots := 0, locals := 92 }) s m ([.ref zh, .int zp1, .int zp2, .int zp3] : List Value).toArray below meth c H locs 0 0 (MQ below (wQi f0 E.2.1 vwCl K s) ([.ref zh, .int zp1, .int zp2, .int zp3] : List Value).toArray s 0 0 (wA f0 s.heap.size)) (F0 m 0 ls []) := by
  obtain ⟨hx, hb, hml, hown, hts, hr, hlk, hnm, hK, -⟩ := C
  unfold X_X5_div_0 at hv
  refine lv_aload_n hx hb dX5_div_0 rfl (lv_at hl 0 rfl) ?_
  refine lv_iload_n hx hb dX5_div_1 rfl (lv_at hl 1 rfl) ?_
  refine lv_iload_n hx hb dX5_div_2 rfl (lv_at hl 2 rfl) ?_
  refine lv_iload_n hx hb dX5_div_3 rfl (lv_at hl 3 rfl) ?_
  obtain ⟨ho1, hv⟩ := hv
  refine fw_callVi hx hb hml hown hts hK hS [.int p1, .int p2, .int p3] [] hv gX5_div_X5_areRegisters rfl rfl rfl 3 (by decide +kernel) ⟨Nat.le_of_ble_eq_true rfl, Nat.le_of_ble_eq_true rfl⟩ rfl rfl ho1 rfl hl.1 rfl (Nat.le_of_ble_eq_true rfl) dX5_div_4 ⟨Nat.zero_le _, Nat.zero_le _⟩ (fun r3 f2 H locs hv hS => ?_)
  refine lv_if_ne (tgt := 12) hx hb dX5_div_7 (by decide) (fun c4 => ?_) (fun c4 => ?_)
  · have hv := hv.1 c4
    refine lv_aload_n hx hb dX5_div_12 rfl (lv_at hl 0 rfl) ?_
    obtain ⟨v5, ev5, hv⟩ := hv
    refine fw_get hx hb hts ii_X5_div_X5 hown hK hS 3 ev5 rfl (by decide) mm_X5_div_0 rfl dX5_div_13 ?_
    refine lv_iload_n hx hb dX5_div_16 rfl (lv_at hl 3 rfl) ?_
    obtain ⟨v6, ev6, hv⟩ := hv
    refine fw_ald hx hb hK hS 0 rfl ev6 dX5_div_17 ?_
    refine lv_if_ne (tgt := 23) hx hb dX5_div_18 (by decide) (fun c7 => ?_) (fun c7 => ?_)
    · have hv := hv.1 c7
      refine lv_aload_n hx hb dX5_div_23 rfl (lv_at hl 0 rfl) ?_
      refine lv_iload_n hx hb dX5_div_24 rfl (lv_at hl 2 rfl) ?_
      refine lv_bipush (v := 8) hx hb dX5_div_25 (by decide) ?_
      refine lv_iload_n hx hb dX5_div_27 rfl (lv_at hl 3 rfl) ?_
      refine lv_iadd hx hb dX5_div_28 ?_
      refine lv_bipush (v := 16) hx hb dX5_div_29 (by decide) ?_
      obtain ⟨ho8, hv⟩ := hv
      refine fw_callVv hx hb hml hown hts hK hS [.int p2, .int ((8 : Int32) + p3), .int (16 : Int32)] [] hv gX5_div_X5_multiply rfl rfl rfl 3 (by decide +kernel) ⟨Nat.le_of_ble_eq_true rfl, Nat.le_of_ble_eq_true rfl⟩ rfl rfl ho8 rfl hl.1 rfl (Nat.le_of_ble_eq_true rfl) dX5_div_31 ⟨Nat.zero_le _, Nat.zero_le _⟩ (fun f9 H locs hv hS => ?_)
      refine lv_aload_n hx hb dX5_div_34 rfl (lv_at hl 0 rfl) ?_
      refine lv_bipush (v := 8) hx hb dX5_div_35 (by decide) ?_
      refine lv_iload_n hx hb dX5_div_37 rfl (lv_at hl 2 rfl) ?_
      refine lv_iadd hx hb dX5_div_38 ?_
      refine lv_iload_n hx hb dX5_div_39 rfl (lv_at hl 3 rfl) ?_
      refine lv_bipush (v := 17) hx hb dX5_div_40 (by decide) ?_
      obtain ⟨ho10, hv⟩ := hv
      refine fw_callVv hx hb hml hown hts hK hS [.int ((8 : Int32) + p2), .int p3, .int (17 : Int32)] [] hv gX5_div_X5_multiply rfl rfl rfl 3 (by decide +kernel) ⟨Nat.le_of_ble_eq_true rfl, Nat.le_of_ble_eq_true rfl⟩ rfl rfl ho10 rfl hl.1 rfl (Nat.le_of_ble_eq_true rfl) dX5_div_42 ⟨Nat.zero_le _, Nat.zero_le _⟩ (fun f11 H locs hv hS => ?_)
      refine lv_aload_n hx hb dX5_div_45 rfl (lv_at hl 0 rfl) ?_
      refine lv_aload_n hx hb dX5_div_46 rfl (lv_at hl 0 rfl) ?_
      obtain ⟨v12, ev12, hv⟩ := hv
      refine fw_get hx hb hts ii_X5_div_X5 hown hK hS 3 ev12 rfl (by decide) mm_X5_div_0 rfl dX5_div_47 ?_
      refine lv_iload_n hx hb dX5_div_50 rfl (lv_at hl 2 rfl) ?_
      obtain ⟨v13, ev13, hv⟩ := hv
      refine fw_ald hx hb hK hS 0 rfl ev13 dX5_div_51 ?_
      refine lv_aload_n hx hb dX5_div_52 rfl (lv_at hl 0 rfl) ?_
      obtain ⟨v14, ev14, hv⟩ := hv
      refine fw_get hx hb hts ii_X5_div_X5 hown hK hS 3 ev14 rfl (by decide) mm_X5_div_0 rfl dX5_div_53 ?_
      refine lv_iload_n hx hb dX5_div_56 rfl (lv_at hl 3 rfl) ?_
      obtain ⟨v15, ev15, hv⟩ := hv
      refine fw_ald hx hb hK hS 0 rfl ev15 dX5_div_57 ?_
      refine lv_imul hx hb dX5_div_58 ?_
      obtain ⟨f16, ef16, hv⟩ := hv
      refine fw_put hx hb hts ii_X5_div_X5 tyX5 tyX5_ok nmX5 hown hK hS 4 ef16 rfl (by decide) mm_X5_div_1 rfl rfl rfl rfl dX5_div_59 (fun H locs hS => ?_)
      refine lv_aload_n hx hb dX5_div_62 rfl (lv_at hl 0 rfl) ?_
      refine lv_iload_n hx hb dX5_div_63 rfl (lv_at hl 1 rfl) ?_
      obtain ⟨ho17, hv⟩ := hv
      refine fw_callVi hx hb hml hown hts hK hS [.int p1] [] hv gX5_div_X5_store rfl rfl rfl 1 (by decide +kernel) ⟨Nat.le_of_ble_eq_true rfl, Nat.le_of_ble_eq_true rfl⟩ rfl rfl ho17 rfl hl.1 rfl (Nat.le_of_ble_eq_true rfl) dX5_div_64 ⟨Nat.zero_le _, Nat.zero_le _⟩ (fun r19 f18 H locs hv hS => ?_)
      exact fw_iret hx hb hr hlk hS hv dX5_div_67
    · have hv := hv.2 c7
      refine lv_iconst (v := 2) hx hb dX5_div_21 (by decide) ?_
      exact fw_iret hx hb hr hlk hS hv dX5_div_22
  · have hv := hv.2 c4
    refine lv_iconst (v := 3) hx hb dX5_div_10 (by decide) ?_
    exact fw_iret hx hb hr hlk hS hv dX5_div_11
set_option maxRecDepth 100000 in
set_option maxHeartbeats 4000000 in
theorem T_X5_div {E : cx} {h : Nat} {p1 : Int32} {p2 : Int32} {p3 : Int32} {f : hm} {K : Int32 → hm → Prop}  (h0 : X_X5_div_0 E h p1 p2 p3 f  K) : S_X5_div E h p1 p2 p3 f K := by
  refine MI_of (cc := cX5_div) (maxL := 4) (ret := (some .int)) (by decide) rfl ?_
  intro p e s m below meth c C
  have hl := lv_entry ([.ref h, .int p1, .int p2, .int p3]) (n := 4) (Nat.le_of_ble_eq_true rfl)
  rw [lg_entry_eq]
  generalize (lg_sl ([.ref h, .int p1, .int p2, .int p3]) ++ List.replicate (4 - (lg_sl ([.ref h, .int p1, .int p2, .int p3])).length) Slot.unset).toArray = ls at hl ⊢
  have hl : lv_has ls 4 [(0, .ref h), (1, .int p1), (2, .int p2), (3, .int p3)] := hl
  have hS := C.2.2.2.2.2.2.2.2.2
  exact R_X5_div_0 C h p1 p2 p3 f h0 hl hS
/-! ContinuedRatiosModel.cmp(II)I -/
def S_X5_cmp (E : cx) (h : Nat) (p1 : Int32) (p2 : Int32) (f : hm) (K : Int32 → hm → Prop) : Prop := MI E.1 E.2.1 vwCl (eT E) yX5_cmp wsX5_cmp ({ frames := 2, cells := 0, slots := 0, locals := 53 }) [.ref h, .int p1, .int p2] f K
theorem mm_X5_cmp_0 : Cond.fieldLink RX5 13 "ContinuedRatiosModel" "signs" "[I" ∈ wsX5_cmp := by decide +kernel
theorem ii_X5_cmp_X5 : ∀ w ∈ u_ws RX5 TX5 7, w ∈ wsX5_cmp := by decide +kernel
def X_X5_cmp_0 (E : cx) (h : Nat) (p1 : Int32) (p2 : Int32) (f : hm)  (K : Int32 → hm → Prop) : Prop :=
  (isO f h 5 ∧ S_X5_isRegister E h p1 f (fun (r3 : Int32) (f2 : hm) => ((r3 = 0 → K (2 : Int32) f2) ∧ (¬ (r3 = 0) → (isO f2 h 5 ∧ S_X5_isRegister E h p2 f2 (fun (r7 : Int32) (f6 : hm) => ((¬ r7 = 0 → (∃ v9 : Nat, rdV f6 h 5 3 = some (.ref v9) ∧ (∃ v10 : Int32, rdA (eI E) f6 v9 p1 = some v10 ∧ (∃ v11 : Nat, rdV f6 h 5 3 = some (.ref v11) ∧ (∃ v12 : Int32, rdA (eI E) f6 v11 p2 = some v12 ∧ ((v10 = v12 → (isO f6 h 5 ∧ S_X5_multiply E h p1 ((8 : Int32) + p2) (18 : Int32) f6 (fun (f15 : hm) => (isO f15 h 5 ∧ S_X5_multiply E h p2 ((8 : Int32) + p1) (19 : Int32) f15 (fun (f17 : hm) => (∃ v18 : Nat, rdV f17 h 5 3 = some (.ref v18) ∧ (∃ v19 : Int32, rdA (eI E) f17 v18 p1 = some v19 ∧ (isO f17 h 5 ∧ S_X5_compare E h (18 : Int32) (19 : Int32) f17 (fun (r22 : Int32) (f21 : hm) => K (v19 * r22) f21))))))))) ∧ (¬ (v10 = v12) → (∃ v23 : Nat, rdV f6 h 5 3 = some (.ref v23) ∧ (∃ v24 : Int32, rdA (eI E) f6 v23 p1 = some v24 ∧ (∃ v25 : Nat, rdV f6 h 5 3 = some (.ref v25) ∧ (∃ v26 : Int32, rdA (eI E) f6 v25 p2 = some v26 ∧ ((v26 ≤ v24 → K (1 : Int32) f6) ∧ (¬ (v26 ≤ v24) → K (-1 : Int32) f6))))))))))))) ∧ (r7 = 0 → K (2 : Int32) f6))))))))
set_option maxRecDepth 100000 in
set_option maxHeartbeats 4000000 in
theorem R_X5_cmp_0 {E : cx} {p : Program} {e : Env} {s : State} {m : MethodId} {below : List Frame} {meth : Method} {c : Code} {f0 : hm} {zh : Nat} {zp1 : Int32} {zp2 : Int32} (C : wB E.2.1 vwCl (eT E) yX5_cmp cX5_cmp 3 (some .int) wsX5_cmp [.ref zh, .int zp1, .int zp2] f0 p s m meth c) (h : Nat) (p1 : Int32) (p2 : Int32) (f : hm)  {K : Int32 → hm → Prop} (hv : X_X5_cmp_0 E h p1 p2 f  K) {ls : Array Slot} {H : Heap} {locs : List Loc} (hl : lv_has ls 3 [(0, .ref h), (1, .int p1), (2, .int p2)]) (hS : wS E.2.1 vwCl (wA f0 s.heap.size) s.heap f H locs)  : W p E.1 e ({ frames := 2, cells := 0, slots := 0, locals := 53 }) s m ([.ref zh, .int zp1, .int zp2] : List Value).toArray below meth c H locs 0 0 (MQ below (wQi f0 E.2.1 vwCl K s) ([.ref zh, .int zp1, .int zp2] : List Value).toArray s 0 0 (wA f0 s.heap.size)) (F0 m 0 ls []) := by
  obtain ⟨hx, hb, hml, hown, hts, hr, hlk, hnm, hK, -⟩ := C
  unfold X_X5_cmp_0 at hv
  refine lv_aload_n hx hb dX5_cmp_0 rfl (lv_at hl 0 rfl) ?_
  refine lv_iload_n hx hb dX5_cmp_1 rfl (lv_at hl 1 rfl) ?_
  obtain ⟨ho1, hv⟩ := hv
  refine fw_callVi hx hb hml hown hts hK hS [.int p1] [] hv gX5_cmp_X5_isRegister rfl rfl rfl 1 (by decide +kernel) ⟨Nat.le_of_ble_eq_true rfl, Nat.le_of_ble_eq_true rfl⟩ rfl rfl ho1 rfl hl.1 rfl (Nat.le_of_ble_eq_true rfl) dX5_cmp_2 ⟨Nat.zero_le _, Nat.zero_le _⟩ (fun r3 f2 H locs hv hS => ?_)
  refine lv_if_eq (tgt := 16) hx hb dX5_cmp_5 (by decide) (fun c4 => ?_) (fun c4 => ?_)
  · have hv := hv.1 c4
    refine lv_iconst (v := 2) hx hb dX5_cmp_16 (by decide) ?_
    exact fw_iret hx hb hr hlk hS hv dX5_cmp_17
  · have hv := hv.2 c4
    refine lv_aload_n hx hb dX5_cmp_8 rfl (lv_at hl 0 rfl) ?_
    refine lv_iload_n hx hb dX5_cmp_9 rfl (lv_at hl 2 rfl) ?_
    obtain ⟨ho5, hv⟩ := hv
    refine fw_callVi hx hb hml hown hts hK hS [.int p2] [] hv gX5_cmp_X5_isRegister rfl rfl rfl 1 (by decide +kernel) ⟨Nat.le_of_ble_eq_true rfl, Nat.le_of_ble_eq_true rfl⟩ rfl rfl ho5 rfl hl.1 rfl (Nat.le_of_ble_eq_true rfl) dX5_cmp_10 ⟨Nat.zero_le _, Nat.zero_le _⟩ (fun r7 f6 H locs hv hS => ?_)
    refine lv_if_ne (tgt := 18) hx hb dX5_cmp_13 (by decide) (fun c8 => ?_) (fun c8 => ?_)
    · have hv := hv.1 c8
      refine lv_aload_n hx hb dX5_cmp_18 rfl (lv_at hl 0 rfl) ?_
      obtain ⟨v9, ev9, hv⟩ := hv
      refine fw_get hx hb hts ii_X5_cmp_X5 hown hK hS 3 ev9 rfl (by decide) mm_X5_cmp_0 rfl dX5_cmp_19 ?_
      refine lv_iload_n hx hb dX5_cmp_22 rfl (lv_at hl 1 rfl) ?_
      obtain ⟨v10, ev10, hv⟩ := hv
      refine fw_ald hx hb hK hS 0 rfl ev10 dX5_cmp_23 ?_
      refine lv_aload_n hx hb dX5_cmp_24 rfl (lv_at hl 0 rfl) ?_
      obtain ⟨v11, ev11, hv⟩ := hv
      refine fw_get hx hb hts ii_X5_cmp_X5 hown hK hS 3 ev11 rfl (by decide) mm_X5_cmp_0 rfl dX5_cmp_25 ?_
      refine lv_iload_n hx hb dX5_cmp_28 rfl (lv_at hl 2 rfl) ?_
      obtain ⟨v12, ev12, hv⟩ := hv
      refine fw_ald hx hb hK hS 0 rfl ev12 dX5_cmp_29 ?_
      refine lv_icmp_eq (tgt := 54) hx hb dX5_cmp_30 (by decide) (fun c13 => ?_) (fun c13 => ?_)
      · have hv := hv.1 c13
        refine lv_aload_n hx hb dX5_cmp_54 rfl (lv_at hl 0 rfl) ?_
        refine lv_iload_n hx hb dX5_cmp_55 rfl (lv_at hl 1 rfl) ?_
        refine lv_bipush (v := 8) hx hb dX5_cmp_56 (by decide) ?_
        refine lv_iload_n hx hb dX5_cmp_58 rfl (lv_at hl 2 rfl) ?_
        refine lv_iadd hx hb dX5_cmp_59 ?_
        refine lv_bipush (v := 18) hx hb dX5_cmp_60 (by decide) ?_
        obtain ⟨ho14, hv⟩ := hv
        refine fw_callVv hx hb hml hown hts hK hS [.int p1, .int ((8 : Int32) + p2), .int (18 : Int32)] [] hv gX5_cmp_X5_multiply rfl rfl rfl 3 (by decide +kernel) ⟨Nat.le_of_ble_eq_true rfl, Nat.le_of_ble_eq_true rfl⟩ rfl rfl ho14 rfl hl.1 rfl (Nat.le_of_ble_eq_true rfl) dX5_cmp_62 ⟨Nat.zero_le _, Nat.zero_le _⟩ (fun f15 H locs hv hS => ?_)
        refine lv_aload_n hx hb dX5_cmp_65 rfl (lv_at hl 0 rfl) ?_
        refine lv_iload_n hx hb dX5_cmp_66 rfl (lv_at hl 2 rfl) ?_
        refine lv_bipush (v := 8) hx hb dX5_cmp_67 (by decide) ?_
        refine lv_iload_n hx hb dX5_cmp_69 rfl (lv_at hl 1 rfl) ?_
        refine lv_iadd hx hb dX5_cmp_70 ?_
        refine lv_bipush (v := 19) hx hb dX5_cmp_71 (by decide) ?_
        obtain ⟨ho16, hv⟩ := hv
        refine fw_callVv hx hb hml hown hts hK hS [.int p2, .int ((8 : Int32) + p1), .int (19 : Int32)] [] hv gX5_cmp_X5_multiply rfl rfl rfl 3 (by decide +kernel) ⟨Nat.le_of_ble_eq_true rfl, Nat.le_of_ble_eq_true rfl⟩ rfl rfl ho16 rfl hl.1 rfl (Nat.le_of_ble_eq_true rfl) dX5_cmp_73 ⟨Nat.zero_le _, Nat.zero_le _⟩ (fun f17 H locs hv hS => ?_)
        refine lv_aload_n hx hb dX5_cmp_76 rfl (lv_at hl 0 rfl) ?_
        obtain ⟨v18, ev18, hv⟩ := hv
        refine fw_get hx hb hts ii_X5_cmp_X5 hown hK hS 3 ev18 rfl (by decide) mm_X5_cmp_0 rfl dX5_cmp_77 ?_
        refine lv_iload_n hx hb dX5_cmp_80 rfl (lv_at hl 1 rfl) ?_
        obtain ⟨v19, ev19, hv⟩ := hv
        refine fw_ald hx hb hK hS 0 rfl ev19 dX5_cmp_81 ?_
        refine lv_aload_n hx hb dX5_cmp_82 rfl (lv_at hl 0 rfl) ?_
        refine lv_bipush (v := 18) hx hb dX5_cmp_83 (by decide) ?_
        refine lv_bipush (v := 19) hx hb dX5_cmp_85 (by decide) ?_
        obtain ⟨ho20, hv⟩ := hv
        refine fw_callVi hx hb hml hown hts hK hS [.int (18 : Int32), .int (19 : Int32)] [.int v19] hv gX5_cmp_X5_compare rfl rfl rfl 2 (by decide +kernel) ⟨Nat.le_of_ble_eq_true rfl, Nat.le_of_ble_eq_true rfl⟩ rfl rfl ho20 rfl hl.1 rfl (Nat.le_of_ble_eq_true rfl) dX5_cmp_87 ⟨Nat.zero_le _, Nat.zero_le _⟩ (fun r22 f21 H locs hv hS => ?_)
        refine lv_imul hx hb dX5_cmp_90 ?_
        exact fw_iret hx hb hr hlk hS hv dX5_cmp_91
      · have hv := hv.2 c13
        refine lv_aload_n hx hb dX5_cmp_33 rfl (lv_at hl 0 rfl) ?_
        obtain ⟨v23, ev23, hv⟩ := hv
        refine fw_get hx hb hts ii_X5_cmp_X5 hown hK hS 3 ev23 rfl (by decide) mm_X5_cmp_0 rfl dX5_cmp_34 ?_
        refine lv_iload_n hx hb dX5_cmp_37 rfl (lv_at hl 1 rfl) ?_
        obtain ⟨v24, ev24, hv⟩ := hv
        refine fw_ald hx hb hK hS 0 rfl ev24 dX5_cmp_38 ?_
        refine lv_aload_n hx hb dX5_cmp_39 rfl (lv_at hl 0 rfl) ?_
        obtain ⟨v25, ev25, hv⟩ := hv
        refine fw_get hx hb hts ii_X5_cmp_X5 hown hK hS 3 ev25 rfl (by decide) mm_X5_cmp_0 rfl dX5_cmp_40 ?_
        refine lv_iload_n hx hb dX5_cmp_43 rfl (lv_at hl 2 rfl) ?_
        obtain ⟨v26, ev26, hv⟩ := hv
        refine fw_ald hx hb hK hS 0 rfl ev26 dX5_cmp_44 ?_
        refine lv_icmp_ge (tgt := 52) hx hb dX5_cmp_45 (by decide) (fun c27 => ?_) (fun c27 => ?_)
        · have hv := hv.1 c27
          refine lv_iconst (v := 1) hx hb dX5_cmp_52 (by decide) ?_
          exact fw_iret hx hb hr hlk hS hv dX5_cmp_53
        · have hv := hv.2 c27
          refine lv_iconst (v := (-1)) hx hb dX5_cmp_48 (by decide) ?_
          refine lv_goto (tgt := 53) hx hb dX5_cmp_49 (by decide) ?_
          exact fw_iret hx hb hr hlk hS hv dX5_cmp_53
    · have hv := hv.2 c8
      refine lv_iconst (v := 2) hx hb dX5_cmp_16 (by decide) ?_
      exact fw_iret hx hb hr hlk hS hv dX5_cmp_17
set_option maxRecDepth 100000 in
set_option maxHeartbeats 4000000 in
theorem T_X5_cmp {E : cx} {h : Nat} {p1 : Int32} {p2 : Int32} {f : hm} {K : Int32 → hm → Prop}  (h0 : X_X5_cmp_0 E h p1 p2 f  K) : S_X5_cmp E h p1 p2 f K := by
  refine MI_of (cc := cX5_cmp) (maxL := 3) (ret := (some .int)) (by decide) rfl ?_
  intro p e s m below meth c C
  have hl := lv_entry ([.ref h, .int p1, .int p2]) (n := 3) (Nat.le_of_ble_eq_true rfl)
  rw [lg_entry_eq]
  generalize (lg_sl ([.ref h, .int p1, .int p2]) ++ List.replicate (3 - (lg_sl ([.ref h, .int p1, .int p2])).length) Slot.unset).toArray = ls at hl ⊢
  have hl : lv_has ls 3 [(0, .ref h), (1, .int p1), (2, .int p2)] := hl
  have hS := C.2.2.2.2.2.2.2.2.2
  exact R_X5_cmp_0 C h p1 p2 f h0 hl hS
/-! ContinuedRatiosModel.down(III)I -/
def S_X5_down (E : cx) (h : Nat) (p1 : Int32) (p2 : Int32) (p3 : Int32) (f : hm) (K : Int32 → hm → Prop) : Prop := MI E.1 E.2.1 vwCl (eT E) yX5_down wsX5_down ({ frames := 2, cells := 0, slots := 0, locals := 51 }) [.ref h, .int p1, .int p2, .int p3] f K
def X_X5_down_0 (E : cx) (h : Nat) (p1 : Int32) (p2 : Int32) (p3 : Int32) (f : hm)  (K : Int32 → hm → Prop) : Prop :=
  (isO f h 5 ∧ S_X5_divide E h p1 p2 f (fun (f2 : hm) => ((0 ≤ p3 → (isO f2 h 5 ∧ S_X5_isZero E h (20 : Int32) f2 (fun (r6 : Int32) (f5 : hm) => ((r6 = 0 → K p3 f5) ∧ (¬ (r6 = 0) → K (0 : Int32) f5))))) ∧ (¬ (0 ≤ p3) → (isO f2 h 5 ∧ S_X5_isZero E h (21 : Int32) f2 (fun (r10 : Int32) (f9 : hm) => ((r10 = 0 → (isO f9 h 5 ∧ S_X5_copy E h (21 : Int32) (24 : Int32) f9 (fun (f13 : hm) => (isO f13 h 5 ∧ S_X5_copy E h p2 (21 : Int32) f13 (fun (f15 : hm) => (isO f15 h 5 ∧ S_X5_lessen E h (21 : Int32) (24 : Int32) f15 (fun (f17 : hm) => (isO f17 h 5 ∧ S_X5_put E h (24 : Int32) (1 : Int64) f17 (fun (f19 : hm) => (isO f19 h 5 ∧ S_X5_plus E h (20 : Int32) (24 : Int32) f19 (fun (f21 : hm) => K (-1 : Int32) f21))))))))))) ∧ (¬ (r10 = 0) → (isO f9 h 5 ∧ S_X5_isZero E h (20 : Int32) f9 (fun (r24 : Int32) (f23 : hm) => ((r24 = 0 → K p3 f23) ∧ (¬ (r24 = 0) → K (0 : Int32) f23))))))))))))
set_option maxRecDepth 100000 in
set_option maxHeartbeats 4000000 in
theorem R_X5_down_0 {E : cx} {p : Program} {e : Env} {s : State} {m : MethodId} {below : List Frame} {meth : Method} {c : Code} {f0 : hm} {zh : Nat} {zp1 : Int32} {zp2 : Int32} {zp3 : Int32} (C : wB E.2.1 vwCl (eT E) yX5_down cX5_down 4 (some .int) wsX5_down [.ref zh, .int zp1, .int zp2, .int zp3] f0 p s m meth c) (h : Nat) (p1 : Int32) (p2 : Int32) (p3 : Int32) (f : hm)  {K : Int32 → hm → Prop} (hv : X_X5_down_0 E h p1 p2 p3 f  K) {ls : Array Slot} {H : Heap} {locs : List Loc} (hl : lv_has ls 4 [(0, .ref h), (1, .int p1), (2, .int p2), (3, .int p3)]) (hS : wS E.2.1 vwCl (wA f0 s.heap.size) s.heap f H locs)  : W p E.1 e ({ frames := 2, cells := 0, slots := 0, locals := 51 }) s m ([.ref zh, .int zp1, .int zp2, .int zp3] : List Value).toArray below meth c H locs 0 0 (MQ below (wQi f0 E.2.1 vwCl K s) ([.ref zh, .int zp1, .int zp2, .int zp3] : List Value).toArray s 0 0 (wA f0 s.heap.size)) (F0 m 0 ls []) := by
  obtain ⟨hx, hb, hml, hown, hts, hr, hlk, hnm, hK, -⟩ := C
  unfold X_X5_down_0 at hv
  refine lv_aload_n hx hb dX5_down_0 rfl (lv_at hl 0 rfl) ?_
  refine lv_iload_n hx hb dX5_down_1 rfl (lv_at hl 1 rfl) ?_
  refine lv_iload_n hx hb dX5_down_2 rfl (lv_at hl 2 rfl) ?_
  obtain ⟨ho1, hv⟩ := hv
  refine fw_callVv hx hb hml hown hts hK hS [.int p1, .int p2] [] hv gX5_down_X5_divide rfl rfl rfl 2 (by decide +kernel) ⟨Nat.le_of_ble_eq_true rfl, Nat.le_of_ble_eq_true rfl⟩ rfl rfl ho1 rfl hl.1 rfl (Nat.le_of_ble_eq_true rfl) dX5_down_3 ⟨Nat.zero_le _, Nat.zero_le _⟩ (fun f2 H locs hv hS => ?_)
  refine lv_iload_n hx hb dX5_down_6 rfl (lv_at hl 3 rfl) ?_
  refine lv_if_ge (tgt := 19) hx hb dX5_down_7 (by decide) (fun c3 => ?_) (fun c3 => ?_)
  · have hv := hv.1 c3
    refine lv_aload_n hx hb dX5_down_19 rfl (lv_at hl 0 rfl) ?_
    refine lv_bipush (v := 20) hx hb dX5_down_20 (by decide) ?_
    obtain ⟨ho4, hv⟩ := hv
    refine fw_callVi hx hb hml hown hts hK hS [.int (20 : Int32)] [] hv gX5_down_X5_isZero rfl rfl rfl 1 (by decide +kernel) ⟨Nat.le_of_ble_eq_true rfl, Nat.le_of_ble_eq_true rfl⟩ rfl rfl ho4 rfl hl.1 rfl (Nat.le_of_ble_eq_true rfl) dX5_down_22 ⟨Nat.zero_le _, Nat.zero_le _⟩ (fun r6 f5 H locs hv hS => ?_)
    refine lv_if_eq (tgt := 32) hx hb dX5_down_25 (by decide) (fun c7 => ?_) (fun c7 => ?_)
    · have hv := hv.1 c7
      refine lv_iload_n hx hb dX5_down_32 rfl (lv_at hl 3 rfl) ?_
      exact fw_iret hx hb hr hlk hS hv dX5_down_33
    · have hv := hv.2 c7
      refine lv_iconst (v := 0) hx hb dX5_down_28 (by decide) ?_
      refine lv_goto (tgt := 33) hx hb dX5_down_29 (by decide) ?_
      exact fw_iret hx hb hr hlk hS hv dX5_down_33
  · have hv := hv.2 c3
    refine lv_aload_n hx hb dX5_down_10 rfl (lv_at hl 0 rfl) ?_
    refine lv_bipush (v := 21) hx hb dX5_down_11 (by decide) ?_
    obtain ⟨ho8, hv⟩ := hv
    refine fw_callVi hx hb hml hown hts hK hS [.int (21 : Int32)] [] hv gX5_down_X5_isZero rfl rfl rfl 1 (by decide +kernel) ⟨Nat.le_of_ble_eq_true rfl, Nat.le_of_ble_eq_true rfl⟩ rfl rfl ho8 rfl hl.1 rfl (Nat.le_of_ble_eq_true rfl) dX5_down_13 ⟨Nat.zero_le _, Nat.zero_le _⟩ (fun r10 f9 H locs hv hS => ?_)
    refine lv_if_eq (tgt := 34) hx hb dX5_down_16 (by decide) (fun c11 => ?_) (fun c11 => ?_)
    · have hv := hv.1 c11
      refine lv_aload_n hx hb dX5_down_34 rfl (lv_at hl 0 rfl) ?_
      refine lv_bipush (v := 21) hx hb dX5_down_35 (by decide) ?_
      refine lv_bipush (v := 24) hx hb dX5_down_37 (by decide) ?_
      obtain ⟨ho12, hv⟩ := hv
      refine fw_callVv hx hb hml hown hts hK hS [.int (21 : Int32), .int (24 : Int32)] [] hv gX5_down_X5_copy rfl rfl rfl 2 (by decide +kernel) ⟨Nat.le_of_ble_eq_true rfl, Nat.le_of_ble_eq_true rfl⟩ rfl rfl ho12 rfl hl.1 rfl (Nat.le_of_ble_eq_true rfl) dX5_down_39 ⟨Nat.zero_le _, Nat.zero_le _⟩ (fun f13 H locs hv hS => ?_)
      refine lv_aload_n hx hb dX5_down_42 rfl (lv_at hl 0 rfl) ?_
      refine lv_iload_n hx hb dX5_down_43 rfl (lv_at hl 2 rfl) ?_
      refine lv_bipush (v := 21) hx hb dX5_down_44 (by decide) ?_
      obtain ⟨ho14, hv⟩ := hv
      refine fw_callVv hx hb hml hown hts hK hS [.int p2, .int (21 : Int32)] [] hv gX5_down_X5_copy rfl rfl rfl 2 (by decide +kernel) ⟨Nat.le_of_ble_eq_true rfl, Nat.le_of_ble_eq_true rfl⟩ rfl rfl ho14 rfl hl.1 rfl (Nat.le_of_ble_eq_true rfl) dX5_down_46 ⟨Nat.zero_le _, Nat.zero_le _⟩ (fun f15 H locs hv hS => ?_)
      refine lv_aload_n hx hb dX5_down_49 rfl (lv_at hl 0 rfl) ?_
      refine lv_bipush (v := 21) hx hb dX5_down_50 (by decide) ?_
      refine lv_bipush (v := 24) hx hb dX5_down_52 (by decide) ?_
      obtain ⟨ho16, hv⟩ := hv
      refine fw_callVv hx hb hml hown hts hK hS [.int (21 : Int32), .int (24 : Int32)] [] hv gX5_down_X5_lessen rfl rfl rfl 2 (by decide +kernel) ⟨Nat.le_of_ble_eq_true rfl, Nat.le_of_ble_eq_true rfl⟩ rfl rfl ho16 rfl hl.1 rfl (Nat.le_of_ble_eq_true rfl) dX5_down_54 ⟨Nat.zero_le _, Nat.zero_le _⟩ (fun f17 H locs hv hS => ?_)
      refine lv_aload_n hx hb dX5_down_57 rfl (lv_at hl 0 rfl) ?_
      refine lv_bipush (v := 24) hx hb dX5_down_58 (by decide) ?_
      refine lv_lconst (v := 1) hx hb dX5_down_60 (by decide) ?_
      obtain ⟨ho18, hv⟩ := hv
      refine fw_callVv hx hb hml hown hts hK hS [.int (24 : Int32), .long (1 : Int64)] [] hv gX5_down_X5_put rfl rfl rfl 2 (by decide +kernel) ⟨Nat.le_of_ble_eq_true rfl, Nat.le_of_ble_eq_true rfl⟩ rfl rfl ho18 rfl hl.1 rfl (Nat.le_of_ble_eq_true rfl) dX5_down_61 ⟨Nat.zero_le _, Nat.zero_le _⟩ (fun f19 H locs hv hS => ?_)
      refine lv_aload_n hx hb dX5_down_64 rfl (lv_at hl 0 rfl) ?_
      refine lv_bipush (v := 20) hx hb dX5_down_65 (by decide) ?_
      refine lv_bipush (v := 24) hx hb dX5_down_67 (by decide) ?_
      obtain ⟨ho20, hv⟩ := hv
      refine fw_callVv hx hb hml hown hts hK hS [.int (20 : Int32), .int (24 : Int32)] [] hv gX5_down_X5_plus rfl rfl rfl 2 (by decide +kernel) ⟨Nat.le_of_ble_eq_true rfl, Nat.le_of_ble_eq_true rfl⟩ rfl rfl ho20 rfl hl.1 rfl (Nat.le_of_ble_eq_true rfl) dX5_down_69 ⟨Nat.zero_le _, Nat.zero_le _⟩ (fun f21 H locs hv hS => ?_)
      refine lv_iconst (v := (-1)) hx hb dX5_down_72 (by decide) ?_
      exact fw_iret hx hb hr hlk hS hv dX5_down_73
    · have hv := hv.2 c11
      refine lv_aload_n hx hb dX5_down_19 rfl (lv_at hl 0 rfl) ?_
      refine lv_bipush (v := 20) hx hb dX5_down_20 (by decide) ?_
      obtain ⟨ho22, hv⟩ := hv
      refine fw_callVi hx hb hml hown hts hK hS [.int (20 : Int32)] [] hv gX5_down_X5_isZero rfl rfl rfl 1 (by decide +kernel) ⟨Nat.le_of_ble_eq_true rfl, Nat.le_of_ble_eq_true rfl⟩ rfl rfl ho22 rfl hl.1 rfl (Nat.le_of_ble_eq_true rfl) dX5_down_22 ⟨Nat.zero_le _, Nat.zero_le _⟩ (fun r24 f23 H locs hv hS => ?_)
      refine lv_if_eq (tgt := 32) hx hb dX5_down_25 (by decide) (fun c25 => ?_) (fun c25 => ?_)
      · have hv := hv.1 c25
        refine lv_iload_n hx hb dX5_down_32 rfl (lv_at hl 3 rfl) ?_
        exact fw_iret hx hb hr hlk hS hv dX5_down_33
      · have hv := hv.2 c25
        refine lv_iconst (v := 0) hx hb dX5_down_28 (by decide) ?_
        refine lv_goto (tgt := 33) hx hb dX5_down_29 (by decide) ?_
        exact fw_iret hx hb hr hlk hS hv dX5_down_33
set_option maxRecDepth 100000 in
set_option maxHeartbeats 4000000 in
theorem T_X5_down {E : cx} {h : Nat} {p1 : Int32} {p2 : Int32} {p3 : Int32} {f : hm} {K : Int32 → hm → Prop}  (h0 : X_X5_down_0 E h p1 p2 p3 f  K) : S_X5_down E h p1 p2 p3 f K := by
  refine MI_of (cc := cX5_down) (maxL := 4) (ret := (some .int)) (by decide) rfl ?_
  intro p e s m below meth c C
  have hl := lv_entry ([.ref h, .int p1, .int p2, .int p3]) (n := 4) (Nat.le_of_ble_eq_true rfl)
  rw [lg_entry_eq]
  generalize (lg_sl ([.ref h, .int p1, .int p2, .int p3]) ++ List.replicate (4 - (lg_sl ([.ref h, .int p1, .int p2, .int p3])).length) Slot.unset).toArray = ls at hl ⊢
  have hl : lv_has ls 4 [(0, .ref h), (1, .int p1), (2, .int p2), (3, .int p3)] := hl
  have hS := C.2.2.2.2.2.2.2.2.2
  exact R_X5_down_0 C h p1 p2 p3 f h0 hl hS
/-! ContinuedRatiosModel.quotient(I)J -/
def S_X5_quotient (E : cx) (h : Nat) (p1 : Int32) (f : hm) (K : Int64 → hm → Prop) : Prop := ML E.1 E.2.1 vwCl (eT E) yX5_quotient wsX5_quotient ({ frames := 1, cells := 0, slots := 0, locals := 23 }) [.ref h, .int p1] f K
theorem mm_X5_quotient_0 : Cond.constantLong RX5 94 (2199023255552) ∈ wsX5_quotient := by decide +kernel
theorem mm_X5_quotient_1 : Cond.fieldLink RX5 7 "ContinuedRatiosModel" "big" "[I" ∈ wsX5_quotient := by decide +kernel
theorem ii_X5_quotient_X5 : ∀ w ∈ u_ws RX5 TX5 7, w ∈ wsX5_quotient := by decide +kernel
def X_X5_quotient_0 (E : cx) (h : Nat) (p1 : Int32) (f : hm) (L5 : Nat → Int32 → Int64 → Int32 → hm → Prop) (K : Int64 → hm → Prop) : Prop :=
  L5 h p1 (0 : Int64) (2 : Int32) f
def X_X5_quotient_5 (E : cx) (a_0 : Nat) (x_1 : Int32) (x_2 : Int64) (x_4 : Int32) (f : hm) (L5 : Nat → Int32 → Int64 → Int32 → hm → Prop) (K : Int64 → hm → Prop) : Prop :=
  ((x_4 < 0 → (isO f a_0 5 ∧ S_X5_bitsOf E a_0 (20 : Int32) f (fun (r4 : Int32) (f3 : hm) => ((r4 ≤ (40 : Int32) → K (x_1.toInt64 * x_2) f3) ∧ (¬ (r4 ≤ (40 : Int32)) → K (2199023255552 : Int64) f3))))) ∧ (¬ (x_4 < 0) → (∃ v6 : Nat, rdV f a_0 5 2 = some (.ref v6) ∧ (∃ v7 : Int32, rdA (eI E) f v6 ((720 : Int32) + x_4) = some v7 ∧ (∀ x8 : Int64, x8 = ((j_lshl x_2 (16 : Int32)) + v7.toInt64) → (∀ x9 : Int32, x9 = x_4 + (-1) → L5 a_0 x_1 x8 x9 f))))))
set_option maxRecDepth 100000 in
set_option maxHeartbeats 4000000 in
theorem R_X5_quotient_0 {E : cx} {p : Program} {e : Env} {s : State} {m : MethodId} {below : List Frame} {meth : Method} {c : Code} {f0 : hm} {zh : Nat} {zp1 : Int32} (C : wB E.2.1 vwCl (eT E) yX5_quotient cX5_quotient 5 (some .long) wsX5_quotient [.ref zh, .int zp1] f0 p s m meth c) (h : Nat) (p1 : Int32) (f : hm) {L5 : Nat → Int32 → Int64 → Int32 → hm → Prop} {K : Int64 → hm → Prop} (hv : X_X5_quotient_0 E h p1 f L5 K) {ls : Array Slot} {H : Heap} {locs : List Loc} (hl : lv_has ls 5 [(0, .ref h), (1, .int p1)]) (hS : wS E.2.1 vwCl (wA f0 s.heap.size) s.heap f H locs) (hL5 : ∀ (y_0 : Nat) (y_1 : Int32) (y_2 : Int64) (y_4 : Int32) (f : hm) (ls : Array Slot) (H : Heap) (locs : List Loc), L5 y_0 y_1 y_2 y_4 f → lv_has ls 5 [(0, .ref y_0), (1, .int y_1), (2, .long y_2), (4, .int y_4)] → wS E.2.1 vwCl (wA f0 s.heap.size) s.heap f H locs → W p E.1 e ({ frames := 1, cells := 0, slots := 0, locals := 23 }) s m ([.ref zh, .int zp1] : List Value).toArray below meth c H locs 0 0 (MQ below (wQl f0 E.2.1 vwCl K s) ([.ref zh, .int zp1] : List Value).toArray s 0 0 (wA f0 s.heap.size)) (F0 m 5 ls [])) : W p E.1 e ({ frames := 1, cells := 0, slots := 0, locals := 23 }) s m ([.ref zh, .int zp1] : List Value).toArray below meth c H locs 0 0 (MQ below (wQl f0 E.2.1 vwCl K s) ([.ref zh, .int zp1] : List Value).toArray s 0 0 (wA f0 s.heap.size)) (F0 m 0 ls []) := by
  obtain ⟨hx, hb, hml, hown, hts, hr, hlk, hnm, hK, -⟩ := C
  unfold X_X5_quotient_0 at hv
  refine lv_lconst (v := 0) hx hb dX5_quotient_0 (by decide) ?_
  refine lv_lstore_n (lv' := [(2, .long (0 : Int64)), (0, .ref h), (1, .int p1)]) hx hb dX5_quotient_1 rfl hl (by decide) rfl (fun ls hl => ?_)
  refine lv_iconst (v := 2) hx hb dX5_quotient_2 (by decide) ?_
  refine lv_istore (lv' := [(4, .int (2 : Int32)), (2, .long (0 : Int64)), (0, .ref h), (1, .int p1)]) hx hb dX5_quotient_3 hl (by decide) rfl (fun ls hl => ?_)
  exact hL5 _ _ _ _ _ _ _ _ hv (lv_sub hl [2, 3, 1, 0] rfl) hS
set_option maxRecDepth 100000 in
set_option maxHeartbeats 4000000 in
theorem R_X5_quotient_5 {E : cx} {p : Program} {e : Env} {s : State} {m : MethodId} {below : List Frame} {meth : Method} {c : Code} {f0 : hm} {zh : Nat} {zp1 : Int32} (C : wB E.2.1 vwCl (eT E) yX5_quotient cX5_quotient 5 (some .long) wsX5_quotient [.ref zh, .int zp1] f0 p s m meth c) (a_0 : Nat) (x_1 : Int32) (x_2 : Int64) (x_4 : Int32) (f : hm) {L5 : Nat → Int32 → Int64 → Int32 → hm → Prop} {K : Int64 → hm → Prop} (hv : X_X5_quotient_5 E a_0 x_1 x_2 x_4 f L5 K) {ls : Array Slot} {H : Heap} {locs : List Loc} (hl : lv_has ls 5 [(0, .ref a_0), (1, .int x_1), (2, .long x_2), (4, .int x_4)]) (hS : wS E.2.1 vwCl (wA f0 s.heap.size) s.heap f H locs) (hL5 : ∀ (y_0 : Nat) (y_1 : Int32) (y_2 : Int64) (y_4 : Int32) (f : hm) (ls : Array Slot) (H : Heap) (locs : List Loc), L5 y_0 y_1 y_2 y_4 f → lv_has ls 5 [(0, .ref y_0), (1, .int y_1), (2, .long y_2), (4, .int y_4)] → wS E.2.1 vwCl (wA f0 s.heap.size) s.heap f H locs → W p E.1 e ({ frames := 1, cells := 0, slots := 0, locals := 23 }) s m ([.ref zh, .int zp1] : List Value).toArray below meth c H locs 0 0 (MQ below (wQl f0 E.2.1 vwCl K s) ([.ref zh, .int zp1] : List Value).toArray s 0 0 (wA f0 s.heap.size)) (F0 m 5 ls [])) : W p E.1 e ({ frames := 1, cells := 0, slots := 0, locals := 23 }) s m ([.ref zh, .int zp1] : List Value).toArray below meth c H locs 0 0 (MQ below (wQl f0 E.2.1 vwCl K s) ([.ref zh, .int zp1] : List Value).toArray s 0 0 (wA f0 s.heap.size)) (F0 m 5 ls []) := by
  obtain ⟨hx, hb, hml, hown, hts, hr, hlk, hnm, hK, -⟩ := C
  unfold X_X5_quotient_5 at hv
  refine lv_iload hx hb dX5_quotient_5 (lv_at hl 3 rfl) ?_
  refine lv_if_lt (tgt := 34) hx hb dX5_quotient_7 (by decide) (fun c1 => ?_) (fun c1 => ?_)
  · have hv := hv.1 c1
    refine lv_aload_n hx hb dX5_quotient_34 rfl (lv_at hl 0 rfl) ?_
    refine lv_bipush (v := 20) hx hb dX5_quotient_35 (by decide) ?_
    obtain ⟨ho2, hv⟩ := hv
    refine fw_callVi hx hb hml hown hts hK hS [.int (20 : Int32)] [] hv gX5_quotient_X5_bitsOf rfl rfl rfl 1 (by decide +kernel) ⟨Nat.le_of_ble_eq_true rfl, Nat.le_of_ble_eq_true rfl⟩ rfl rfl ho2 rfl hl.1 rfl (Nat.le_of_ble_eq_true rfl) dX5_quotient_37 ⟨Nat.zero_le _, Nat.zero_le _⟩ (fun r4 f3 H locs hv hS => ?_)
    refine lv_bipush (v := 40) hx hb dX5_quotient_40 (by decide) ?_
    refine lv_icmp_le (tgt := 51) hx hb dX5_quotient_42 (by decide) (fun c5 => ?_) (fun c5 => ?_)
    · have hv := hv.1 c5
      refine lv_iload_n hx hb dX5_quotient_51 rfl (lv_at hl 1 rfl) ?_
      refine lv_i2l hx hb dX5_quotient_52 rfl ?_
      refine lv_lload_n hx hb dX5_quotient_53 rfl (lv_at hl 2 rfl) ?_
      refine lv_lmul hx hb dX5_quotient_54 ?_
      exact fw_lret hx hb hr hlk hS hv dX5_quotient_55
    · have hv := hv.2 c5
      refine lv_ldc2 (v := (2199023255552)) hx hb hown (hts _ mm_X5_quotient_0) dX5_quotient_45 ?_
      refine lv_goto (tgt := 55) hx hb dX5_quotient_48 (by decide) ?_
      exact fw_lret hx hb hr hlk hS hv dX5_quotient_55
  · have hv := hv.2 c1
    refine lv_lload_n hx hb dX5_quotient_10 rfl (lv_at hl 2 rfl) ?_
    refine lv_bipush (v := 16) hx hb dX5_quotient_11 (by decide) ?_
    refine lv_lshl (v := j_lshl x_2 (16 : Int32)) hx hb dX5_quotient_13 rfl ?_
    refine lv_aload_n hx hb dX5_quotient_14 rfl (lv_at hl 0 rfl) ?_
    obtain ⟨v6, ev6, hv⟩ := hv
    refine fw_get hx hb hts ii_X5_quotient_X5 hown hK hS 2 ev6 rfl (by decide) mm_X5_quotient_1 rfl dX5_quotient_15 ?_
    refine lv_sipush (v := 720) hx hb dX5_quotient_18 (by decide) ?_
    refine lv_iload hx hb dX5_quotient_21 (lv_at hl 3 rfl) ?_
    refine lv_iadd hx hb dX5_quotient_23 ?_
    obtain ⟨v7, ev7, hv⟩ := hv
    refine fw_ald hx hb hK hS 0 rfl ev7 dX5_quotient_24 ?_
    refine lv_i2l hx hb dX5_quotient_25 rfl ?_
    refine lv_ladd hx hb dX5_quotient_26 ?_
    refine lv_topl (fun x8 ex8 => ?_)
    have hv := hv x8 ex8
    refine lv_lstore_n (lv' := [(2, .long x8), (0, .ref a_0), (1, .int x_1), (4, .int x_4)]) hx hb dX5_quotient_27 rfl hl (by decide) rfl (fun ls hl => ?_)
    obtain ⟨x9, ex9⟩ : ∃ y : Int32, y = x_4 + (-1) := ⟨_, rfl⟩
    have hv := hv x9 ex9
    refine lv_iinc (v := x9) (lv' := [(4, .int x9), (2, .long x8), (0, .ref a_0), (1, .int x_1)]) hx hb dX5_quotient_28 hl (k := 3) rfl (by rw [ex9]; rfl) (by decide) rfl (fun ls hl => ?_)
    refine lv_goto (tgt := 5) hx hb dX5_quotient_31 (by decide) ?_
    exact hL5 _ _ _ _ _ _ _ _ hv (lv_sub hl [2, 3, 1, 0] rfl) hS
set_option maxRecDepth 100000 in
set_option maxHeartbeats 4000000 in
theorem T_X5_quotient {E : cx} {h : Nat} {p1 : Int32} {f : hm} {K : Int64 → hm → Prop} (I5 : Nat → Nat → Int32 → Int64 → Int32 → hm → Prop) (h0 : X_X5_quotient_0 E h p1 f (fun (y_0 : Nat) (y_1 : Int32) (y_2 : Int64) (y_4 : Int32) (f : hm) => ∃ k : Nat, I5 k y_0 y_1 y_2 y_4 f) K) (h5 : ∀ (n : Nat) (a_0 : Nat) (x_1 : Int32) (x_2 : Int64) (x_4 : Int32) (f : hm), I5 n a_0 x_1 x_2 x_4 f → X_X5_quotient_5 E a_0 x_1 x_2 x_4 f (fun (y_0 : Nat) (y_1 : Int32) (y_2 : Int64) (y_4 : Int32) (f : hm) => ∃ k : Nat, k < n ∧ I5 k y_0 y_1 y_2 y_4 f) K) : S_X5_quotient E h p1 f K := by
  refine ML_of (cc := cX5_quotient) (maxL := 5) (ret := (some .long)) (by decide) rfl ?_
  intro p e s m below meth c C
  have hl := lv_entry ([.ref h, .int p1]) (n := 5) (Nat.le_of_ble_eq_true rfl)
  rw [lg_entry_eq]
  generalize (lg_sl ([.ref h, .int p1]) ++ List.replicate (5 - (lg_sl ([.ref h, .int p1])).length) Slot.unset).toArray = ls at hl ⊢
  have hl : lv_has ls 5 [(0, .ref h), (1, .int p1)] := hl
  have hS := C.2.2.2.2.2.2.2.2.2
  have key : ∀ n : Nat, (∀ (a_0 : Nat) (x_1 : Int32) (x_2 : Int64) (x_4 : Int32) (g : hm) (ls : Array Slot) (H : Heap) (locs : List Loc), I5 n a_0 x_1 x_2 x_4 g → lv_has ls 5 [(0, .ref a_0), (1, .int x_1), (2, .long x_2), (4, .int x_4)] → wS E.2.1 vwCl (wA f s.heap.size) s.heap g H locs → W p E.1 e ({ frames := 1, cells := 0, slots := 0, locals := 23 }) s m ([.ref h, .int p1] : List Value).toArray below meth c H locs 0 0 (MQ below (wQl f E.2.1 vwCl K s) ([.ref h, .int p1] : List Value).toArray s 0 0 (wA f s.heap.size)) (F0 m 5 ls [])) := by
    refine st_ind (fun n ih => ?_)
    intro a_0 x_1 x_2 x_4 g ls H locs hI hl hS
    exact R_X5_quotient_5 C a_0 x_1 x_2 x_4 g (h5 n a_0 x_1 x_2 x_4 g hI) hl hS (fun _ _ _ _ _ _ _ _ hI hl hS => by obtain ⟨k, hk, hI⟩ := hI; exact (ih k hk) _ _ _ _ _ _ _ _ hI hl hS)
  exact R_X5_quotient_0 C h p1 f h0 hl hS (fun _ _ _ _ _ _ _ _ hI hl hS => by obtain ⟨k, hI⟩ := hI; exact (key k) _ _ _ _ _ _ _ _ hI hl hS)
/-! ContinuedRatiosModel.fits(I)Z -/
def S_X5_fits (E : cx) (h : Nat) (p1 : Int32) (f : hm) (K : Int32 → hm → Prop) : Prop := MI E.1 E.2.1 vwCl (eT E) yX5_fits wsX5_fits ({ frames := 3, cells := 0, slots := 0, locals := 74 }) [.ref h, .int p1] f K
theorem mm_X5_fits_0 : Cond.fieldLink RX5 13 "ContinuedRatiosModel" "signs" "[I" ∈ wsX5_fits := by decide +kernel
theorem mm_X5_fits_1 : Cond.constantLong RX5 104 (-2147483648) ∈ wsX5_fits := by decide +kernel
theorem mm_X5_fits_2 : Cond.constantLong RX5 106 (2147483647) ∈ wsX5_fits := by decide +kernel
theorem ii_X5_fits_X5 : ∀ w ∈ u_ws RX5 TX5 7, w ∈ wsX5_fits := by decide +kernel
def X_X5_fits_0 (E : cx) (h : Nat) (p1 : Int32) (f : hm)  (K : Int32 → hm → Prop) : Prop :=
  (isO f h 5 ∧ S_X5_isRegister E h p1 f (fun (r3 : Int32) (f2 : hm) => ((¬ r3 = 0 → (∃ v5 : Nat, rdV f2 h 5 3 = some (.ref v5) ∧ (∃ v6 : Int32, rdA (eI E) f2 v5 p1 = some v6 ∧ (isO f2 h 5 ∧ S_X5_down E h p1 ((8 : Int32) + p1) v6 f2 (fun (r9 : Int32) (f8 : hm) => (isO f8 h 5 ∧ S_X5_quotient E h r9 f8 (fun (r12 : Int64) (f11 : hm) => (((lg_cmp r12 (-2147483648 : Int64)) < 0 → (narrow .boolean (.int (0 : Int32)) = .int (0 : Int32) ∧ K (0 : Int32) f11)) ∧ (¬ ((lg_cmp r12 (-2147483648 : Int64)) < 0) → ((0 < (lg_cmp r12 (2147483647 : Int64)) → (narrow .boolean (.int (0 : Int32)) = .int (0 : Int32) ∧ K (0 : Int32) f11)) ∧ (¬ (0 < (lg_cmp r12 (2147483647 : Int64))) → (narrow .boolean (.int (1 : Int32)) = .int (1 : Int32) ∧ K (1 : Int32) f11)))))))))))) ∧ (r3 = 0 → (narrow .boolean (.int (0 : Int32)) = .int (0 : Int32) ∧ K (0 : Int32) f2)))))
set_option maxRecDepth 100000 in
set_option maxHeartbeats 4000000 in
theorem R_X5_fits_0 {E : cx} {p : Program} {e : Env} {s : State} {m : MethodId} {below : List Frame} {meth : Method} {c : Code} {f0 : hm} {zh : Nat} {zp1 : Int32} (C : wB E.2.1 vwCl (eT E) yX5_fits cX5_fits 4 (some .boolean) wsX5_fits [.ref zh, .int zp1] f0 p s m meth c) (h : Nat) (p1 : Int32) (f : hm)  {K : Int32 → hm → Prop} (hv : X_X5_fits_0 E h p1 f  K) {ls : Array Slot} {H : Heap} {locs : List Loc} (hl : lv_has ls 4 [(0, .ref h), (1, .int p1)]) (hS : wS E.2.1 vwCl (wA f0 s.heap.size) s.heap f H locs)  : W p E.1 e ({ frames := 3, cells := 0, slots := 0, locals := 74 }) s m ([.ref zh, .int zp1] : List Value).toArray below meth c H locs 0 0 (MQ below (wQi f0 E.2.1 vwCl K s) ([.ref zh, .int zp1] : List Value).toArray s 0 0 (wA f0 s.heap.size)) (F0 m 0 ls []) := by
  obtain ⟨hx, hb, hml, hown, hts, hr, hlk, hnm, hK, -⟩ := C
  unfold X_X5_fits_0 at hv
  refine lv_aload_n hx hb dX5_fits_0 rfl (lv_at hl 0 rfl) ?_
  refine lv_iload_n hx hb dX5_fits_1 rfl (lv_at hl 1 rfl) ?_
  obtain ⟨ho1, hv⟩ := hv
  refine fw_callVi hx hb hml hown hts hK hS [.int p1] [] hv gX5_fits_X5_isRegister rfl rfl rfl 1 (by decide +kernel) ⟨Nat.le_of_ble_eq_true rfl, Nat.le_of_ble_eq_true rfl⟩ rfl rfl ho1 rfl hl.1 rfl (Nat.le_of_ble_eq_true rfl) dX5_fits_2 ⟨Nat.zero_le _, Nat.zero_le _⟩ (fun r3 f2 H locs hv hS => ?_)
  refine lv_if_ne (tgt := 10) hx hb dX5_fits_5 (by decide) (fun c4 => ?_) (fun c4 => ?_)
  · have hv := hv.1 c4
    refine lv_aload_n hx hb dX5_fits_10 rfl (lv_at hl 0 rfl) ?_
    refine lv_aload_n hx hb dX5_fits_11 rfl (lv_at hl 0 rfl) ?_
    refine lv_iload_n hx hb dX5_fits_12 rfl (lv_at hl 1 rfl) ?_
    refine lv_bipush (v := 8) hx hb dX5_fits_13 (by decide) ?_
    refine lv_iload_n hx hb dX5_fits_15 rfl (lv_at hl 1 rfl) ?_
    refine lv_iadd hx hb dX5_fits_16 ?_
    refine lv_aload_n hx hb dX5_fits_17 rfl (lv_at hl 0 rfl) ?_
    obtain ⟨v5, ev5, hv⟩ := hv
    refine fw_get hx hb hts ii_X5_fits_X5 hown hK hS 3 ev5 rfl (by decide) mm_X5_fits_0 rfl dX5_fits_18 ?_
    refine lv_iload_n hx hb dX5_fits_21 rfl (lv_at hl 1 rfl) ?_
    obtain ⟨v6, ev6, hv⟩ := hv
    refine fw_ald hx hb hK hS 0 rfl ev6 dX5_fits_22 ?_
    obtain ⟨ho7, hv⟩ := hv
    refine fw_callVi hx hb hml hown hts hK hS [.int p1, .int ((8 : Int32) + p1), .int v6] [.ref h] hv gX5_fits_X5_down rfl rfl rfl 3 (by decide +kernel) ⟨Nat.le_of_ble_eq_true rfl, Nat.le_of_ble_eq_true rfl⟩ rfl rfl ho7 rfl hl.1 rfl (Nat.le_of_ble_eq_true rfl) dX5_fits_23 ⟨Nat.zero_le _, Nat.zero_le _⟩ (fun r9 f8 H locs hv hS => ?_)
    obtain ⟨ho10, hv⟩ := hv
    refine fw_callVl hx hb hml hown hts hK hS [.int r9] [] hv gX5_fits_X5_quotient rfl rfl rfl 1 (by decide +kernel) ⟨Nat.le_of_ble_eq_true rfl, Nat.le_of_ble_eq_true rfl⟩ rfl rfl ho10 rfl hl.1 rfl (Nat.le_of_ble_eq_true rfl) dX5_fits_26 ⟨Nat.zero_le _, Nat.zero_le _⟩ (fun r12 f11 H locs hv hS => ?_)
    refine lv_lstore_n (lv' := [(2, .long r12), (0, .ref h), (1, .int p1)]) hx hb dX5_fits_29 rfl hl (by decide) rfl (fun ls hl => ?_)
    refine lv_lload_n hx hb dX5_fits_30 rfl (lv_at hl 0 rfl) ?_
    refine lv_ldc2 (v := (-2147483648)) hx hb hown (hts _ mm_X5_fits_1) dX5_fits_31 ?_
    refine W.lcmp hx hb dX5_fits_34 ?_
    refine lv_if_lt (tgt := 50) hx hb dX5_fits_35 (by decide) (fun c13 => ?_) (fun c13 => ?_)
    · have hv := hv.1 c13
      refine lv_iconst (v := 0) hx hb dX5_fits_50 (by decide) ?_
      exact fw_zret hx hb hr hlk hS hv dX5_fits_51
    · have hv := hv.2 c13
      refine lv_lload_n hx hb dX5_fits_38 rfl (lv_at hl 0 rfl) ?_
      refine lv_ldc2 (v := (2147483647)) hx hb hown (hts _ mm_X5_fits_2) dX5_fits_39 ?_
      refine W.lcmp hx hb dX5_fits_42 ?_
      refine lv_if_gt (tgt := 50) hx hb dX5_fits_43 (by decide) (fun c14 => ?_) (fun c14 => ?_)
      · have hv := hv.1 c14
        refine lv_iconst (v := 0) hx hb dX5_fits_50 (by decide) ?_
        exact fw_zret hx hb hr hlk hS hv dX5_fits_51
      · have hv := hv.2 c14
        refine lv_iconst (v := 1) hx hb dX5_fits_46 (by decide) ?_
        refine lv_goto (tgt := 51) hx hb dX5_fits_47 (by decide) ?_
        exact fw_zret hx hb hr hlk hS hv dX5_fits_51
  · have hv := hv.2 c4
    refine lv_iconst (v := 0) hx hb dX5_fits_8 (by decide) ?_
    exact fw_zret hx hb hr hlk hS hv dX5_fits_9
set_option maxRecDepth 100000 in
set_option maxHeartbeats 4000000 in
theorem T_X5_fits {E : cx} {h : Nat} {p1 : Int32} {f : hm} {K : Int32 → hm → Prop}  (h0 : X_X5_fits_0 E h p1 f  K) : S_X5_fits E h p1 f K := by
  refine MI_of (cc := cX5_fits) (maxL := 4) (ret := (some .boolean)) (by decide) rfl ?_
  intro p e s m below meth c C
  have hl := lv_entry ([.ref h, .int p1]) (n := 4) (Nat.le_of_ble_eq_true rfl)
  rw [lg_entry_eq]
  generalize (lg_sl ([.ref h, .int p1]) ++ List.replicate (4 - (lg_sl ([.ref h, .int p1])).length) Slot.unset).toArray = ls at hl ⊢
  have hl : lv_has ls 4 [(0, .ref h), (1, .int p1)] := hl
  have hS := C.2.2.2.2.2.2.2.2.2
  exact R_X5_fits_0 C h p1 f h0 hl hS
/-! ContinuedRatiosModel.floorSmall(I)I -/
def S_X5_floorSmall (E : cx) (h : Nat) (p1 : Int32) (f : hm) (K : Int32 → hm → Prop) : Prop := MI E.1 E.2.1 vwCl (eT E) yX5_floorSmall wsX5_floorSmall ({ frames := 4, cells := 0, slots := 0, locals := 97 }) [.ref h, .int p1] f K
theorem mm_X5_floorSmall_0 : Cond.fieldLink RX5 13 "ContinuedRatiosModel" "signs" "[I" ∈ wsX5_floorSmall := by decide +kernel
theorem ii_X5_floorSmall_X5 : ∀ w ∈ u_ws RX5 TX5 7, w ∈ wsX5_floorSmall := by decide +kernel
def X_X5_floorSmall_0 (E : cx) (h : Nat) (p1 : Int32) (f : hm)  (K : Int32 → hm → Prop) : Prop :=
  (isO f h 5 ∧ S_X5_fits E h p1 f (fun (r3 : Int32) (f2 : hm) => ((r3 = 0 → K (0 : Int32) f2) ∧ (¬ (r3 = 0) → (∃ v5 : Nat, rdV f2 h 5 3 = some (.ref v5) ∧ (∃ v6 : Int32, rdA (eI E) f2 v5 p1 = some v6 ∧ (isO f2 h 5 ∧ S_X5_down E h p1 ((8 : Int32) + p1) v6 f2 (fun (r9 : Int32) (f8 : hm) => (isO f8 h 5 ∧ S_X5_quotient E h r9 f8 (fun (r12 : Int64) (f11 : hm) => K r12.toInt32 f11))))))))))
set_option maxRecDepth 100000 in
set_option maxHeartbeats 4000000 in
theorem R_X5_floorSmall_0 {E : cx} {p : Program} {e : Env} {s : State} {m : MethodId} {below : List Frame} {meth : Method} {c : Code} {f0 : hm} {zh : Nat} {zp1 : Int32} (C : wB E.2.1 vwCl (eT E) yX5_floorSmall cX5_floorSmall 2 (some .int) wsX5_floorSmall [.ref zh, .int zp1] f0 p s m meth c) (h : Nat) (p1 : Int32) (f : hm)  {K : Int32 → hm → Prop} (hv : X_X5_floorSmall_0 E h p1 f  K) {ls : Array Slot} {H : Heap} {locs : List Loc} (hl : lv_has ls 2 [(0, .ref h), (1, .int p1)]) (hS : wS E.2.1 vwCl (wA f0 s.heap.size) s.heap f H locs)  : W p E.1 e ({ frames := 4, cells := 0, slots := 0, locals := 97 }) s m ([.ref zh, .int zp1] : List Value).toArray below meth c H locs 0 0 (MQ below (wQi f0 E.2.1 vwCl K s) ([.ref zh, .int zp1] : List Value).toArray s 0 0 (wA f0 s.heap.size)) (F0 m 0 ls []) := by
  obtain ⟨hx, hb, hml, hown, hts, hr, hlk, hnm, hK, -⟩ := C
  unfold X_X5_floorSmall_0 at hv
  refine lv_aload_n hx hb dX5_floorSmall_0 rfl (lv_at hl 0 rfl) ?_
  refine lv_iload_n hx hb dX5_floorSmall_1 rfl (lv_at hl 1 rfl) ?_
  obtain ⟨ho1, hv⟩ := hv
  refine fw_callVi hx hb hml hown hts hK hS [.int p1] [] hv gX5_floorSmall_X5_fits rfl rfl rfl 1 (by decide +kernel) ⟨Nat.le_of_ble_eq_true rfl, Nat.le_of_ble_eq_true rfl⟩ rfl rfl ho1 rfl hl.1 rfl (Nat.le_of_ble_eq_true rfl) dX5_floorSmall_2 ⟨Nat.zero_le _, Nat.zero_le _⟩ (fun r3 f2 H locs hv hS => ?_)
  refine lv_if_eq (tgt := 31) hx hb dX5_floorSmall_5 (by decide) (fun c4 => ?_) (fun c4 => ?_)
  · have hv := hv.1 c4
    refine lv_iconst (v := 0) hx hb dX5_floorSmall_31 (by decide) ?_
    exact fw_iret hx hb hr hlk hS hv dX5_floorSmall_32
  · have hv := hv.2 c4
    refine lv_aload_n hx hb dX5_floorSmall_8 rfl (lv_at hl 0 rfl) ?_
    refine lv_aload_n hx hb dX5_floorSmall_9 rfl (lv_at hl 0 rfl) ?_
    refine lv_iload_n hx hb dX5_floorSmall_10 rfl (lv_at hl 1 rfl) ?_
    refine lv_bipush (v := 8) hx hb dX5_floorSmall_11 (by decide) ?_
    refine lv_iload_n hx hb dX5_floorSmall_13 rfl (lv_at hl 1 rfl) ?_
    refine lv_iadd hx hb dX5_floorSmall_14 ?_
    refine lv_aload_n hx hb dX5_floorSmall_15 rfl (lv_at hl 0 rfl) ?_
    obtain ⟨v5, ev5, hv⟩ := hv
    refine fw_get hx hb hts ii_X5_floorSmall_X5 hown hK hS 3 ev5 rfl (by decide) mm_X5_floorSmall_0 rfl dX5_floorSmall_16 ?_
    refine lv_iload_n hx hb dX5_floorSmall_19 rfl (lv_at hl 1 rfl) ?_
    obtain ⟨v6, ev6, hv⟩ := hv
    refine fw_ald hx hb hK hS 0 rfl ev6 dX5_floorSmall_20 ?_
    obtain ⟨ho7, hv⟩ := hv
    refine fw_callVi hx hb hml hown hts hK hS [.int p1, .int ((8 : Int32) + p1), .int v6] [.ref h] hv gX5_floorSmall_X5_down rfl rfl rfl 3 (by decide +kernel) ⟨Nat.le_of_ble_eq_true rfl, Nat.le_of_ble_eq_true rfl⟩ rfl rfl ho7 rfl hl.1 rfl (Nat.le_of_ble_eq_true rfl) dX5_floorSmall_21 ⟨Nat.zero_le _, Nat.zero_le _⟩ (fun r9 f8 H locs hv hS => ?_)
    obtain ⟨ho10, hv⟩ := hv
    refine fw_callVl hx hb hml hown hts hK hS [.int r9] [] hv gX5_floorSmall_X5_quotient rfl rfl rfl 1 (by decide +kernel) ⟨Nat.le_of_ble_eq_true rfl, Nat.le_of_ble_eq_true rfl⟩ rfl rfl ho10 rfl hl.1 rfl (Nat.le_of_ble_eq_true rfl) dX5_floorSmall_24 ⟨Nat.zero_le _, Nat.zero_le _⟩ (fun r12 f11 H locs hv hS => ?_)
    refine lv_l2i hx hb dX5_floorSmall_27 rfl ?_
    refine lv_goto (tgt := 32) hx hb dX5_floorSmall_28 (by decide) ?_
    exact fw_iret hx hb hr hlk hS hv dX5_floorSmall_32
set_option maxRecDepth 100000 in
set_option maxHeartbeats 4000000 in
theorem T_X5_floorSmall {E : cx} {h : Nat} {p1 : Int32} {f : hm} {K : Int32 → hm → Prop}  (h0 : X_X5_floorSmall_0 E h p1 f  K) : S_X5_floorSmall E h p1 f K := by
  refine MI_of (cc := cX5_floorSmall) (maxL := 2) (ret := (some .int)) (by decide) rfl ?_
  intro p e s m below meth c C
  have hl := lv_entry ([.ref h, .int p1]) (n := 2) (Nat.le_of_ble_eq_true rfl)
  rw [lg_entry_eq]
  generalize (lg_sl ([.ref h, .int p1]) ++ List.replicate (2 - (lg_sl ([.ref h, .int p1])).length) Slot.unset).toArray = ls at hl ⊢
  have hl : lv_has ls 2 [(0, .ref h), (1, .int p1)] := hl
  have hS := C.2.2.2.2.2.2.2.2.2
  exact R_X5_floorSmall_0 C h p1 f h0 hl hS
/-! ContinuedRatiosModel.cfStart(I)Z -/
def S_X5_cfStart (E : cx) (h : Nat) (p1 : Int32) (f : hm) (K : Int32 → hm → Prop) : Prop := MI E.1 E.2.1 vwCl (eT E) yX5_cfStart wsX5_cfStart ({ frames := 1, cells := 0, slots := 0, locals := 23 }) [.ref h, .int p1] f K
theorem mm_X5_cfStart_0 : Cond.fieldLink RX5 13 "ContinuedRatiosModel" "signs" "[I" ∈ wsX5_cfStart := by decide +kernel
theorem mm_X5_cfStart_1 : Cond.fieldLink RX5 111 "ContinuedRatiosModel" "goesSign" "I" ∈ wsX5_cfStart := by decide +kernel
theorem mm_X5_cfStart_2 : Cond.fieldLink RX5 114 "ContinuedRatiosModel" "goes" "Z" ∈ wsX5_cfStart := by decide +kernel
theorem ii_X5_cfStart_X5 : ∀ w ∈ u_ws RX5 TX5 7, w ∈ wsX5_cfStart := by decide +kernel
def X_X5_cfStart_0 (E : cx) (h : Nat) (p1 : Int32) (f : hm)  (K : Int32 → hm → Prop) : Prop :=
  (isO f h 5 ∧ S_X5_isRegister E h p1 f (fun (r3 : Int32) (f2 : hm) => ((¬ r3 = 0 → (isO f2 h 5 ∧ S_X5_copy E h p1 (22 : Int32) f2 (fun (f6 : hm) => (isO f6 h 5 ∧ S_X5_copy E h ((8 : Int32) + p1) (23 : Int32) f6 (fun (f8 : hm) => (∃ v9 : Nat, rdV f8 h 5 3 = some (.ref v9) ∧ (∃ v10 : Int32, rdA (eI E) f8 v9 p1 = some v10 ∧ (∃ f11 : hm, wrV f8 h 5 6 (.int v10) = some f11 ∧ ((narrow .boolean (.int (1 : Int32)) = .int (1 : Int32) ∧ fits .boolean (.int (1 : Int32)) = true) ∧ (∃ f12 : hm, wrV f11 h 5 5 (.int (1 : Int32)) = some f12 ∧ (narrow .boolean (.int (1 : Int32)) = .int (1 : Int32) ∧ K (1 : Int32) f12))))))))))) ∧ (r3 = 0 → (narrow .boolean (.int (0 : Int32)) = .int (0 : Int32) ∧ K (0 : Int32) f2)))))
set_option maxRecDepth 100000 in
set_option maxHeartbeats 4000000 in
theorem R_X5_cfStart_0 {E : cx} {p : Program} {e : Env} {s : State} {m : MethodId} {below : List Frame} {meth : Method} {c : Code} {f0 : hm} {zh : Nat} {zp1 : Int32} (C : wB E.2.1 vwCl (eT E) yX5_cfStart cX5_cfStart 2 (some .boolean) wsX5_cfStart [.ref zh, .int zp1] f0 p s m meth c) (h : Nat) (p1 : Int32) (f : hm)  {K : Int32 → hm → Prop} (hv : X_X5_cfStart_0 E h p1 f  K) {ls : Array Slot} {H : Heap} {locs : List Loc} (hl : lv_has ls 2 [(0, .ref h), (1, .int p1)]) (hS : wS E.2.1 vwCl (wA f0 s.heap.size) s.heap f H locs)  : W p E.1 e ({ frames := 1, cells := 0, slots := 0, locals := 23 }) s m ([.ref zh, .int zp1] : List Value).toArray below meth c H locs 0 0 (MQ below (wQi f0 E.2.1 vwCl K s) ([.ref zh, .int zp1] : List Value).toArray s 0 0 (wA f0 s.heap.size)) (F0 m 0 ls []) := by
  obtain ⟨hx, hb, hml, hown, hts, hr, hlk, hnm, hK, -⟩ := C
  unfold X_X5_cfStart_0 at hv
  refine lv_aload_n hx hb dX5_cfStart_0 rfl (lv_at hl 0 rfl) ?_
  refine lv_iload_n hx hb dX5_cfStart_1 rfl (lv_at hl 1 rfl) ?_
  obtain ⟨ho1, hv⟩ := hv
  refine fw_callVi hx hb hml hown hts hK hS [.int p1] [] hv gX5_cfStart_X5_isRegister rfl rfl rfl 1 (by decide +kernel) ⟨Nat.le_of_ble_eq_true rfl, Nat.le_of_ble_eq_true rfl⟩ rfl rfl ho1 rfl hl.1 rfl (Nat.le_of_ble_eq_true rfl) dX5_cfStart_2 ⟨Nat.zero_le _, Nat.zero_le _⟩ (fun r3 f2 H locs hv hS => ?_)
  refine lv_if_ne (tgt := 10) hx hb dX5_cfStart_5 (by decide) (fun c4 => ?_) (fun c4 => ?_)
  · have hv := hv.1 c4
    refine lv_aload_n hx hb dX5_cfStart_10 rfl (lv_at hl 0 rfl) ?_
    refine lv_iload_n hx hb dX5_cfStart_11 rfl (lv_at hl 1 rfl) ?_
    refine lv_bipush (v := 22) hx hb dX5_cfStart_12 (by decide) ?_
    obtain ⟨ho5, hv⟩ := hv
    refine fw_callVv hx hb hml hown hts hK hS [.int p1, .int (22 : Int32)] [] hv gX5_cfStart_X5_copy rfl rfl rfl 2 (by decide +kernel) ⟨Nat.le_of_ble_eq_true rfl, Nat.le_of_ble_eq_true rfl⟩ rfl rfl ho5 rfl hl.1 rfl (Nat.le_of_ble_eq_true rfl) dX5_cfStart_14 ⟨Nat.zero_le _, Nat.zero_le _⟩ (fun f6 H locs hv hS => ?_)
    refine lv_aload_n hx hb dX5_cfStart_17 rfl (lv_at hl 0 rfl) ?_
    refine lv_bipush (v := 8) hx hb dX5_cfStart_18 (by decide) ?_
    refine lv_iload_n hx hb dX5_cfStart_20 rfl (lv_at hl 1 rfl) ?_
    refine lv_iadd hx hb dX5_cfStart_21 ?_
    refine lv_bipush (v := 23) hx hb dX5_cfStart_22 (by decide) ?_
    obtain ⟨ho7, hv⟩ := hv
    refine fw_callVv hx hb hml hown hts hK hS [.int ((8 : Int32) + p1), .int (23 : Int32)] [] hv gX5_cfStart_X5_copy rfl rfl rfl 2 (by decide +kernel) ⟨Nat.le_of_ble_eq_true rfl, Nat.le_of_ble_eq_true rfl⟩ rfl rfl ho7 rfl hl.1 rfl (Nat.le_of_ble_eq_true rfl) dX5_cfStart_24 ⟨Nat.zero_le _, Nat.zero_le _⟩ (fun f8 H locs hv hS => ?_)
    refine lv_aload_n hx hb dX5_cfStart_27 rfl (lv_at hl 0 rfl) ?_
    refine lv_aload_n hx hb dX5_cfStart_28 rfl (lv_at hl 0 rfl) ?_
    obtain ⟨v9, ev9, hv⟩ := hv
    refine fw_get hx hb hts ii_X5_cfStart_X5 hown hK hS 3 ev9 rfl (by decide) mm_X5_cfStart_0 rfl dX5_cfStart_29 ?_
    refine lv_iload_n hx hb dX5_cfStart_32 rfl (lv_at hl 1 rfl) ?_
    obtain ⟨v10, ev10, hv⟩ := hv
    refine fw_ald hx hb hK hS 0 rfl ev10 dX5_cfStart_33 ?_
    obtain ⟨f11, ef11, hv⟩ := hv
    refine fw_put hx hb hts ii_X5_cfStart_X5 tyX5 tyX5_ok nmX5 hown hK hS 6 ef11 rfl (by decide) mm_X5_cfStart_1 rfl rfl rfl rfl dX5_cfStart_34 (fun H locs hS => ?_)
    refine lv_aload_n hx hb dX5_cfStart_37 rfl (lv_at hl 0 rfl) ?_
    refine lv_iconst (v := 1) hx hb dX5_cfStart_38 (by decide) ?_
    obtain ⟨hz13, hv⟩ := hv
    obtain ⟨f12, ef12, hv⟩ := hv
    refine fw_put hx hb hts ii_X5_cfStart_X5 tyX5 tyX5_ok nmX5 hown hK hS 5 ef12 rfl (by decide) mm_X5_cfStart_2 rfl rfl hz13.1 hz13.2 dX5_cfStart_39 (fun H locs hS => ?_)
    refine lv_iconst (v := 1) hx hb dX5_cfStart_42 (by decide) ?_
    exact fw_zret hx hb hr hlk hS hv dX5_cfStart_43
  · have hv := hv.2 c4
    refine lv_iconst (v := 0) hx hb dX5_cfStart_8 (by decide) ?_
    exact fw_zret hx hb hr hlk hS hv dX5_cfStart_9
set_option maxRecDepth 100000 in
set_option maxHeartbeats 4000000 in
theorem T_X5_cfStart {E : cx} {h : Nat} {p1 : Int32} {f : hm} {K : Int32 → hm → Prop}  (h0 : X_X5_cfStart_0 E h p1 f  K) : S_X5_cfStart E h p1 f K := by
  refine MI_of (cc := cX5_cfStart) (maxL := 2) (ret := (some .boolean)) (by decide) rfl ?_
  intro p e s m below meth c C
  have hl := lv_entry ([.ref h, .int p1]) (n := 2) (Nat.le_of_ble_eq_true rfl)
  rw [lg_entry_eq]
  generalize (lg_sl ([.ref h, .int p1]) ++ List.replicate (2 - (lg_sl ([.ref h, .int p1])).length) Slot.unset).toArray = ls at hl ⊢
  have hl : lv_has ls 2 [(0, .ref h), (1, .int p1)] := hl
  have hS := C.2.2.2.2.2.2.2.2.2
  exact R_X5_cfStart_0 C h p1 f h0 hl hS
/-! ContinuedRatiosModel.cfNext()I -/
def S_X5_cfNext (E : cx) (h : Nat) (f : hm) (K : Int32 → hm → Prop) : Prop := MI E.1 E.2.1 vwCl (eT E) yX5_cfNext wsX5_cfNext ({ frames := 3, cells := 0, slots := 0, locals := 74 }) [.ref h] f K
theorem mm_X5_cfNext_0 : Cond.fieldLink RX5 114 "ContinuedRatiosModel" "goes" "Z" ∈ wsX5_cfNext := by decide +kernel
theorem mm_X5_cfNext_1 : Cond.fieldLink RX5 111 "ContinuedRatiosModel" "goesSign" "I" ∈ wsX5_cfNext := by decide +kernel
theorem mm_X5_cfNext_2 : Cond.constantLong RX5 104 (-2147483648) ∈ wsX5_cfNext := by decide +kernel
theorem mm_X5_cfNext_3 : Cond.constant RX5 118 (-2147483648) ∈ wsX5_cfNext := by decide +kernel
theorem mm_X5_cfNext_4 : Cond.constantLong RX5 106 (2147483647) ∈ wsX5_cfNext := by decide +kernel
theorem ii_X5_cfNext_X5 : ∀ w ∈ u_ws RX5 TX5 7, w ∈ wsX5_cfNext := by decide +kernel
def X_X5_cfNext_0 (E : cx) (h : Nat) (f : hm)  (K : Int32 → hm → Prop) : Prop :=
  (∃ v1 : Int32, rdV f h 5 5 = some (.int v1) ∧ ((¬ v1 = 0 → (∃ v3 : Int32, rdV f h 5 6 = some (.int v3) ∧ (isO f h 5 ∧ S_X5_down E h (22 : Int32) (23 : Int32) v3 f (fun (r6 : Int32) (f5 : hm) => (isO f5 h 5 ∧ S_X5_quotient E h r6 f5 (fun (r9 : Int64) (f8 : hm) => (((lg_cmp r9 (-2147483648 : Int64)) ≤ 0 → K (-2147483648 : Int32) f8) ∧ (¬ ((lg_cmp r9 (-2147483648 : Int64)) ≤ 0) → (((lg_cmp r9 (2147483647 : Int64)) ≤ 0 → (isO f8 h 5 ∧ S_X5_isZero E h (21 : Int32) f8 (fun (r14 : Int32) (f13 : hm) => ((¬ r14 = 0 → ((narrow .boolean (.int (0 : Int32)) = .int (0 : Int32) ∧ fits .boolean (.int (0 : Int32)) = true) ∧ (∃ f16 : hm, wrV f13 h 5 5 (.int (0 : Int32)) = some f16 ∧ (isO f16 h 5 ∧ S_X5_copy E h (23 : Int32) (22 : Int32) f16 (fun (f19 : hm) => (isO f19 h 5 ∧ S_X5_copy E h (21 : Int32) (23 : Int32) f19 (fun (f21 : hm) => (∃ f22 : hm, wrV f21 h 5 6 (.int (1 : Int32)) = some f22 ∧ K r9.toInt32 f22)))))))) ∧ (r14 = 0 → ((narrow .boolean (.int (1 : Int32)) = .int (1 : Int32) ∧ fits .boolean (.int (1 : Int32)) = true) ∧ (∃ f23 : hm, wrV f13 h 5 5 (.int (1 : Int32)) = some f23 ∧ (isO f23 h 5 ∧ S_X5_copy E h (23 : Int32) (22 : Int32) f23 (fun (f26 : hm) => (isO f26 h 5 ∧ S_X5_copy E h (21 : Int32) (23 : Int32) f26 (fun (f28 : hm) => (∃ f29 : hm, wrV f28 h 5 6 (.int (1 : Int32)) = some f29 ∧ K r9.toInt32 f29)))))))))))) ∧ (¬ ((lg_cmp r9 (2147483647 : Int64)) ≤ 0) → K (-2147483648 : Int32) f8)))))))))) ∧ (v1 = 0 → K (-2147483648 : Int32) f)))
set_option maxRecDepth 100000 in
set_option maxHeartbeats 4000000 in
theorem R_X5_cfNext_0 {E : cx} {p : Program} {e : Env} {s : State} {m : MethodId} {below : List Frame} {meth : Method} {c : Code} {f0 : hm} {zh : Nat} (C : wB E.2.1 vwCl (eT E) yX5_cfNext cX5_cfNext 3 (some .int) wsX5_cfNext [.ref zh] f0 p s m meth c) (h : Nat) (f : hm)  {K : Int32 → hm → Prop} (hv : X_X5_cfNext_0 E h f  K) {ls : Array Slot} {H : Heap} {locs : List Loc} (hl : lv_has ls 3 [(0, .ref h)]) (hS : wS E.2.1 vwCl (wA f0 s.heap.size) s.heap f H locs)  : W p E.1 e ({ frames := 3, cells := 0, slots := 0, locals := 74 }) s m ([.ref zh] : List Value).toArray below meth c H locs 0 0 (MQ below (wQi f0 E.2.1 vwCl K s) ([.ref zh] : List Value).toArray s 0 0 (wA f0 s.heap.size)) (F0 m 0 ls []) := by
  obtain ⟨hx, hb, hml, hown, hts, hr, hlk, hnm, hK, -⟩ := C
  unfold X_X5_cfNext_0 at hv
  refine lv_aload_n hx hb dX5_cfNext_0 rfl (lv_at hl 0 rfl) ?_
  obtain ⟨v1, ev1, hv⟩ := hv
  refine fw_get hx hb hts ii_X5_cfNext_X5 hown hK hS 5 ev1 rfl (by decide) mm_X5_cfNext_0 rfl dX5_cfNext_1 ?_
  refine lv_if_ne (tgt := 10) hx hb dX5_cfNext_4 (by decide) (fun c2 => ?_) (fun c2 => ?_)
  · have hv := hv.1 c2
    refine lv_aload_n hx hb dX5_cfNext_10 rfl (lv_at hl 0 rfl) ?_
    refine lv_aload_n hx hb dX5_cfNext_11 rfl (lv_at hl 0 rfl) ?_
    refine lv_bipush (v := 22) hx hb dX5_cfNext_12 (by decide) ?_
    refine lv_bipush (v := 23) hx hb dX5_cfNext_14 (by decide) ?_
    refine lv_aload_n hx hb dX5_cfNext_16 rfl (lv_at hl 0 rfl) ?_
    obtain ⟨v3, ev3, hv⟩ := hv
    refine fw_get hx hb hts ii_X5_cfNext_X5 hown hK hS 6 ev3 rfl (by decide) mm_X5_cfNext_1 rfl dX5_cfNext_17 ?_
    obtain ⟨ho4, hv⟩ := hv
    refine fw_callVi hx hb hml hown hts hK hS [.int (22 : Int32), .int (23 : Int32), .int v3] [.ref h] hv gX5_cfNext_X5_down rfl rfl rfl 3 (by decide +kernel) ⟨Nat.le_of_ble_eq_true rfl, Nat.le_of_ble_eq_true rfl⟩ rfl rfl ho4 rfl hl.1 rfl (Nat.le_of_ble_eq_true rfl) dX5_cfNext_20 ⟨Nat.zero_le _, Nat.zero_le _⟩ (fun r6 f5 H locs hv hS => ?_)
    obtain ⟨ho7, hv⟩ := hv
    refine fw_callVl hx hb hml hown hts hK hS [.int r6] [] hv gX5_cfNext_X5_quotient rfl rfl rfl 1 (by decide +kernel) ⟨Nat.le_of_ble_eq_true rfl, Nat.le_of_ble_eq_true rfl⟩ rfl rfl ho7 rfl hl.1 rfl (Nat.le_of_ble_eq_true rfl) dX5_cfNext_23 ⟨Nat.zero_le _, Nat.zero_le _⟩ (fun r9 f8 H locs hv hS => ?_)
    refine lv_lstore_n (lv' := [(1, .long r9), (0, .ref h)]) hx hb dX5_cfNext_26 rfl hl (by decide) rfl (fun ls hl => ?_)
    refine lv_lload_n hx hb dX5_cfNext_27 rfl (lv_at hl 0 rfl) ?_
    refine lv_ldc2 (v := (-2147483648)) hx hb hown (hts _ mm_X5_cfNext_2) dX5_cfNext_28 ?_
    refine W.lcmp hx hb dX5_cfNext_31 ?_
    refine lv_if_le (tgt := 43) hx hb dX5_cfNext_32 (by decide) (fun c10 => ?_) (fun c10 => ?_)
    · have hv := hv.1 c10
      refine lv_ldc (v := (-2147483648)) hx hb hown (hts _ mm_X5_cfNext_3) dX5_cfNext_43 ?_
      exact fw_iret hx hb hr hlk hS hv dX5_cfNext_45
    · have hv := hv.2 c10
      refine lv_lload_n hx hb dX5_cfNext_35 rfl (lv_at hl 0 rfl) ?_
      refine lv_ldc2 (v := (2147483647)) hx hb hown (hts _ mm_X5_cfNext_4) dX5_cfNext_36 ?_
      refine W.lcmp hx hb dX5_cfNext_39 ?_
      refine lv_if_le (tgt := 46) hx hb dX5_cfNext_40 (by decide) (fun c11 => ?_) (fun c11 => ?_)
      · have hv := hv.1 c11
        refine lv_aload_n hx hb dX5_cfNext_46 rfl (lv_at hl 1 rfl) ?_
        refine lv_aload_n hx hb dX5_cfNext_47 rfl (lv_at hl 1 rfl) ?_
        refine lv_bipush (v := 21) hx hb dX5_cfNext_48 (by decide) ?_
        obtain ⟨ho12, hv⟩ := hv
        refine fw_callVi hx hb hml hown hts hK hS [.int (21 : Int32)] [.ref h] hv gX5_cfNext_X5_isZero rfl rfl rfl 1 (by decide +kernel) ⟨Nat.le_of_ble_eq_true rfl, Nat.le_of_ble_eq_true rfl⟩ rfl rfl ho12 rfl hl.1 rfl (Nat.le_of_ble_eq_true rfl) dX5_cfNext_50 ⟨Nat.zero_le _, Nat.zero_le _⟩ (fun r14 f13 H locs hv hS => ?_)
        refine lv_if_ne (tgt := 60) hx hb dX5_cfNext_53 (by decide) (fun c15 => ?_) (fun c15 => ?_)
        · have hv := hv.1 c15
          refine lv_iconst (v := 0) hx hb dX5_cfNext_60 (by decide) ?_
          obtain ⟨hz17, hv⟩ := hv
          obtain ⟨f16, ef16, hv⟩ := hv
          refine fw_put hx hb hts ii_X5_cfNext_X5 tyX5 tyX5_ok nmX5 hown hK hS 5 ef16 rfl (by decide) mm_X5_cfNext_0 rfl rfl hz17.1 hz17.2 dX5_cfNext_61 (fun H locs hS => ?_)
          refine lv_aload_n hx hb dX5_cfNext_64 rfl (lv_at hl 1 rfl) ?_
          refine lv_bipush (v := 23) hx hb dX5_cfNext_65 (by decide) ?_
          refine lv_bipush (v := 22) hx hb dX5_cfNext_67 (by decide) ?_
          obtain ⟨ho18, hv⟩ := hv
          refine fw_callVv hx hb hml hown hts hK hS [.int (23 : Int32), .int (22 : Int32)] [] hv gX5_cfNext_X5_copy rfl rfl rfl 2 (by decide +kernel) ⟨Nat.le_of_ble_eq_true rfl, Nat.le_of_ble_eq_true rfl⟩ rfl rfl ho18 rfl hl.1 rfl (Nat.le_of_ble_eq_true rfl) dX5_cfNext_69 ⟨Nat.zero_le _, Nat.zero_le _⟩ (fun f19 H locs hv hS => ?_)
          refine lv_aload_n hx hb dX5_cfNext_72 rfl (lv_at hl 1 rfl) ?_
          refine lv_bipush (v := 21) hx hb dX5_cfNext_73 (by decide) ?_
          refine lv_bipush (v := 23) hx hb dX5_cfNext_75 (by decide) ?_
          obtain ⟨ho20, hv⟩ := hv
          refine fw_callVv hx hb hml hown hts hK hS [.int (21 : Int32), .int (23 : Int32)] [] hv gX5_cfNext_X5_copy rfl rfl rfl 2 (by decide +kernel) ⟨Nat.le_of_ble_eq_true rfl, Nat.le_of_ble_eq_true rfl⟩ rfl rfl ho20 rfl hl.1 rfl (Nat.le_of_ble_eq_true rfl) dX5_cfNext_77 ⟨Nat.zero_le _, Nat.zero_le _⟩ (fun f21 H locs hv hS => ?_)
          refine lv_aload_n hx hb dX5_cfNext_80 rfl (lv_at hl 1 rfl) ?_
          refine lv_iconst (v := 1) hx hb dX5_cfNext_81 (by decide) ?_
          obtain ⟨f22, ef22, hv⟩ := hv
          refine fw_put hx hb hts ii_X5_cfNext_X5 tyX5 tyX5_ok nmX5 hown hK hS 6 ef22 rfl (by decide) mm_X5_cfNext_1 rfl rfl rfl rfl dX5_cfNext_82 (fun H locs hS => ?_)
          refine lv_lload_n hx hb dX5_cfNext_85 rfl (lv_at hl 0 rfl) ?_
          refine lv_l2i hx hb dX5_cfNext_86 rfl ?_
          exact fw_iret hx hb hr hlk hS hv dX5_cfNext_87
        · have hv := hv.2 c15
          refine lv_iconst (v := 1) hx hb dX5_cfNext_56 (by decide) ?_
          refine lv_goto (tgt := 61) hx hb dX5_cfNext_57 (by decide) ?_
          obtain ⟨hz24, hv⟩ := hv
          obtain ⟨f23, ef23, hv⟩ := hv
          refine fw_put hx hb hts ii_X5_cfNext_X5 tyX5 tyX5_ok nmX5 hown hK hS 5 ef23 rfl (by decide) mm_X5_cfNext_0 rfl rfl hz24.1 hz24.2 dX5_cfNext_61 (fun H locs hS => ?_)
          refine lv_aload_n hx hb dX5_cfNext_64 rfl (lv_at hl 1 rfl) ?_
          refine lv_bipush (v := 23) hx hb dX5_cfNext_65 (by decide) ?_
          refine lv_bipush (v := 22) hx hb dX5_cfNext_67 (by decide) ?_
          obtain ⟨ho25, hv⟩ := hv
          refine fw_callVv hx hb hml hown hts hK hS [.int (23 : Int32), .int (22 : Int32)] [] hv gX5_cfNext_X5_copy rfl rfl rfl 2 (by decide +kernel) ⟨Nat.le_of_ble_eq_true rfl, Nat.le_of_ble_eq_true rfl⟩ rfl rfl ho25 rfl hl.1 rfl (Nat.le_of_ble_eq_true rfl) dX5_cfNext_69 ⟨Nat.zero_le _, Nat.zero_le _⟩ (fun f26 H locs hv hS => ?_)
          refine lv_aload_n hx hb dX5_cfNext_72 rfl (lv_at hl 1 rfl) ?_
          refine lv_bipush (v := 21) hx hb dX5_cfNext_73 (by decide) ?_
          refine lv_bipush (v := 23) hx hb dX5_cfNext_75 (by decide) ?_
          obtain ⟨ho27, hv⟩ := hv
          refine fw_callVv hx hb hml hown hts hK hS [.int (21 : Int32), .int (23 : Int32)] [] hv gX5_cfNext_X5_copy rfl rfl rfl 2 (by decide +kernel) ⟨Nat.le_of_ble_eq_true rfl, Nat.le_of_ble_eq_true rfl⟩ rfl rfl ho27 rfl hl.1 rfl (Nat.le_of_ble_eq_true rfl) dX5_cfNext_77 ⟨Nat.zero_le _, Nat.zero_le _⟩ (fun f28 H locs hv hS => ?_)
          refine lv_aload_n hx hb dX5_cfNext_80 rfl (lv_at hl 1 rfl) ?_
          refine lv_iconst (v := 1) hx hb dX5_cfNext_81 (by decide) ?_
          obtain ⟨f29, ef29, hv⟩ := hv
          refine fw_put hx hb hts ii_X5_cfNext_X5 tyX5 tyX5_ok nmX5 hown hK hS 6 ef29 rfl (by decide) mm_X5_cfNext_1 rfl rfl rfl rfl dX5_cfNext_82 (fun H locs hS => ?_)
          refine lv_lload_n hx hb dX5_cfNext_85 rfl (lv_at hl 0 rfl) ?_
          refine lv_l2i hx hb dX5_cfNext_86 rfl ?_
          exact fw_iret hx hb hr hlk hS hv dX5_cfNext_87
      · have hv := hv.2 c11
        refine lv_ldc (v := (-2147483648)) hx hb hown (hts _ mm_X5_cfNext_3) dX5_cfNext_43 ?_
        exact fw_iret hx hb hr hlk hS hv dX5_cfNext_45
  · have hv := hv.2 c2
    refine lv_ldc (v := (-2147483648)) hx hb hown (hts _ mm_X5_cfNext_3) dX5_cfNext_7 ?_
    exact fw_iret hx hb hr hlk hS hv dX5_cfNext_9
set_option maxRecDepth 100000 in
set_option maxHeartbeats 4000000 in
theorem T_X5_cfNext {E : cx} {h : Nat} {f : hm} {K : Int32 → hm → Prop}  (h0 : X_X5_cfNext_0 E h f  K) : S_X5_cfNext E h f K := by
  refine MI_of (cc := cX5_cfNext) (maxL := 3) (ret := (some .int)) (by decide) rfl ?_
  intro p e s m below meth c C
  have hl := lv_entry ([.ref h]) (n := 3) (Nat.le_of_ble_eq_true rfl)
  rw [lg_entry_eq]
  generalize (lg_sl ([.ref h]) ++ List.replicate (3 - (lg_sl ([.ref h])).length) Slot.unset).toArray = ls at hl ⊢
  have hl : lv_has ls 3 [(0, .ref h)] := hl
  have hS := C.2.2.2.2.2.2.2.2.2
  exact R_X5_cfNext_0 C h f h0 hl hS
/-! ContinuedRatiosModel.cfDone()Z -/
def S_X5_cfDone (E : cx) (h : Nat) (f : hm) (K : Int32 → hm → Prop) : Prop := MI E.1 E.2.1 vwCl (eT E) yX5_cfDone wsX5_cfDone ({ frames := 0, cells := 0, slots := 0, locals := 0 }) [.ref h] f K
theorem mm_X5_cfDone_0 : Cond.fieldLink RX5 114 "ContinuedRatiosModel" "goes" "Z" ∈ wsX5_cfDone := by decide +kernel
theorem ii_X5_cfDone_X5 : ∀ w ∈ u_ws RX5 TX5 7, w ∈ wsX5_cfDone := by decide +kernel
def X_X5_cfDone_0 (E : cx) (h : Nat) (f : hm)  (K : Int32 → hm → Prop) : Prop :=
  (∃ v1 : Int32, rdV f h 5 5 = some (.int v1) ∧ ((¬ v1 = 0 → (narrow .boolean (.int (0 : Int32)) = .int (0 : Int32) ∧ K (0 : Int32) f)) ∧ (v1 = 0 → (narrow .boolean (.int (1 : Int32)) = .int (1 : Int32) ∧ K (1 : Int32) f))))
set_option maxRecDepth 100000 in
set_option maxHeartbeats 4000000 in
theorem R_X5_cfDone_0 {E : cx} {p : Program} {e : Env} {s : State} {m : MethodId} {below : List Frame} {meth : Method} {c : Code} {f0 : hm} {zh : Nat} (C : wB E.2.1 vwCl (eT E) yX5_cfDone cX5_cfDone 1 (some .boolean) wsX5_cfDone [.ref zh] f0 p s m meth c) (h : Nat) (f : hm)  {K : Int32 → hm → Prop} (hv : X_X5_cfDone_0 E h f  K) {ls : Array Slot} {H : Heap} {locs : List Loc} (hl : lv_has ls 1 [(0, .ref h)]) (hS : wS E.2.1 vwCl (wA f0 s.heap.size) s.heap f H locs)  : W p E.1 e ({ frames := 0, cells := 0, slots := 0, locals := 0 }) s m ([.ref zh] : List Value).toArray below meth c H locs 0 0 (MQ below (wQi f0 E.2.1 vwCl K s) ([.ref zh] : List Value).toArray s 0 0 (wA f0 s.heap.size)) (F0 m 0 ls []) := by
  obtain ⟨hx, hb, hml, hown, hts, hr, hlk, hnm, hK, -⟩ := C
  unfold X_X5_cfDone_0 at hv
  refine lv_aload_n hx hb dX5_cfDone_0 rfl (lv_at hl 0 rfl) ?_
  obtain ⟨v1, ev1, hv⟩ := hv
  refine fw_get hx hb hts ii_X5_cfDone_X5 hown hK hS 5 ev1 rfl (by decide) mm_X5_cfDone_0 rfl dX5_cfDone_1 ?_
  refine lv_if_ne (tgt := 11) hx hb dX5_cfDone_4 (by decide) (fun c2 => ?_) (fun c2 => ?_)
  · have hv := hv.1 c2
    refine lv_iconst (v := 0) hx hb dX5_cfDone_11 (by decide) ?_
    exact fw_zret hx hb hr hlk hS hv dX5_cfDone_12
  · have hv := hv.2 c2
    refine lv_iconst (v := 1) hx hb dX5_cfDone_7 (by decide) ?_
    refine lv_goto (tgt := 12) hx hb dX5_cfDone_8 (by decide) ?_
    exact fw_zret hx hb hr hlk hS hv dX5_cfDone_12
set_option maxRecDepth 100000 in
set_option maxHeartbeats 4000000 in
theorem T_X5_cfDone {E : cx} {h : Nat} {f : hm} {K : Int32 → hm → Prop}  (h0 : X_X5_cfDone_0 E h f  K) : S_X5_cfDone E h f K := by
  refine MI_of (cc := cX5_cfDone) (maxL := 1) (ret := (some .boolean)) (by decide) rfl ?_
  intro p e s m below meth c C
  have hl := lv_entry ([.ref h]) (n := 1) (Nat.le_of_ble_eq_true rfl)
  rw [lg_entry_eq]
  generalize (lg_sl ([.ref h]) ++ List.replicate (1 - (lg_sl ([.ref h])).length) Slot.unset).toArray = ls at hl ⊢
  have hl : lv_has ls 1 [(0, .ref h)] := hl
  have hS := C.2.2.2.2.2.2.2.2.2
  exact R_X5_cfDone_0 C h f h0 hl hS
/-! ContinuedRatiosModel.limb(II)I -/
def S_X5_limb (E : cx) (h : Nat) (p1 : Int32) (p2 : Int32) (f : hm) (K : Int32 → hm → Prop) : Prop := MI E.1 E.2.1 vwCl (eT E) yX5_limb wsX5_limb ({ frames := 0, cells := 0, slots := 0, locals := 0 }) [.ref h, .int p1, .int p2] f K
theorem mm_X5_limb_0 : Cond.fieldLink RX5 7 "ContinuedRatiosModel" "big" "[I" ∈ wsX5_limb := by decide +kernel
theorem ii_X5_limb_X5 : ∀ w ∈ u_ws RX5 TX5 7, w ∈ wsX5_limb := by decide +kernel
def X_X5_limb_0 (E : cx) (h : Nat) (p1 : Int32) (p2 : Int32) (f : hm)  (K : Int32 → hm → Prop) : Prop :=
  ((p2 < 0 → K (0 : Int32) f) ∧ (¬ (p2 < 0) → ((p2 ≤ (17 : Int32) → (∃ v3 : Nat, rdV f h 5 2 = some (.ref v3) ∧ (∃ v4 : Int32, rdA (eI E) f v3 (((36 : Int32) * p1) + ((2 : Int32) * p2)) = some v4 ∧ (∃ v5 : Nat, rdV f h 5 2 = some (.ref v5) ∧ (∃ v6 : Int32, rdA (eI E) f v5 ((((36 : Int32) * p1) + ((2 : Int32) * p2)) + (1 : Int32)) = some v6 ∧ K (v4 ||| (v6 <<< ((16 : Int32) &&& 31))) f))))) ∧ (¬ (p2 ≤ (17 : Int32)) → K (0 : Int32) f))))
set_option maxRecDepth 100000 in
set_option maxHeartbeats 4000000 in
theorem R_X5_limb_0 {E : cx} {p : Program} {e : Env} {s : State} {m : MethodId} {below : List Frame} {meth : Method} {c : Code} {f0 : hm} {zh : Nat} {zp1 : Int32} {zp2 : Int32} (C : wB E.2.1 vwCl (eT E) yX5_limb cX5_limb 3 (some .int) wsX5_limb [.ref zh, .int zp1, .int zp2] f0 p s m meth c) (h : Nat) (p1 : Int32) (p2 : Int32) (f : hm)  {K : Int32 → hm → Prop} (hv : X_X5_limb_0 E h p1 p2 f  K) {ls : Array Slot} {H : Heap} {locs : List Loc} (hl : lv_has ls 3 [(0, .ref h), (1, .int p1), (2, .int p2)]) (hS : wS E.2.1 vwCl (wA f0 s.heap.size) s.heap f H locs)  : W p E.1 e ({ frames := 0, cells := 0, slots := 0, locals := 0 }) s m ([.ref zh, .int zp1, .int zp2] : List Value).toArray below meth c H locs 0 0 (MQ below (wQi f0 E.2.1 vwCl K s) ([.ref zh, .int zp1, .int zp2] : List Value).toArray s 0 0 (wA f0 s.heap.size)) (F0 m 0 ls []) := by
  obtain ⟨hx, hb, hml, hown, hts, hr, hlk, hnm, hK, -⟩ := C
  unfold X_X5_limb_0 at hv
  refine lv_iload_n hx hb dX5_limb_0 rfl (lv_at hl 2 rfl) ?_
  refine lv_if_lt (tgt := 10) hx hb dX5_limb_1 (by decide) (fun c1 => ?_) (fun c1 => ?_)
  · have hv := hv.1 c1
    refine lv_iconst (v := 0) hx hb dX5_limb_10 (by decide) ?_
    refine lv_goto (tgt := 46) hx hb dX5_limb_11 (by decide) ?_
    exact fw_iret hx hb hr hlk hS hv dX5_limb_46
  · have hv := hv.2 c1
    refine lv_iload_n hx hb dX5_limb_4 rfl (lv_at hl 2 rfl) ?_
    refine lv_bipush (v := 17) hx hb dX5_limb_5 (by decide) ?_
    refine lv_icmp_le (tgt := 14) hx hb dX5_limb_7 (by decide) (fun c2 => ?_) (fun c2 => ?_)
    · have hv := hv.1 c2
      refine lv_aload_n hx hb dX5_limb_14 rfl (lv_at hl 0 rfl) ?_
      obtain ⟨v3, ev3, hv⟩ := hv
      refine fw_get hx hb hts ii_X5_limb_X5 hown hK hS 2 ev3 rfl (by decide) mm_X5_limb_0 rfl dX5_limb_15 ?_
      refine lv_bipush (v := 36) hx hb dX5_limb_18 (by decide) ?_
      refine lv_iload_n hx hb dX5_limb_20 rfl (lv_at hl 1 rfl) ?_
      refine lv_imul hx hb dX5_limb_21 ?_
      refine lv_iconst (v := 2) hx hb dX5_limb_22 (by decide) ?_
      refine lv_iload_n hx hb dX5_limb_23 rfl (lv_at hl 2 rfl) ?_
      refine lv_imul hx hb dX5_limb_24 ?_
      refine lv_iadd hx hb dX5_limb_25 ?_
      obtain ⟨v4, ev4, hv⟩ := hv
      refine fw_ald hx hb hK hS 0 rfl ev4 dX5_limb_26 ?_
      refine lv_aload_n hx hb dX5_limb_27 rfl (lv_at hl 0 rfl) ?_
      obtain ⟨v5, ev5, hv⟩ := hv
      refine fw_get hx hb hts ii_X5_limb_X5 hown hK hS 2 ev5 rfl (by decide) mm_X5_limb_0 rfl dX5_limb_28 ?_
      refine lv_bipush (v := 36) hx hb dX5_limb_31 (by decide) ?_
      refine lv_iload_n hx hb dX5_limb_33 rfl (lv_at hl 1 rfl) ?_
      refine lv_imul hx hb dX5_limb_34 ?_
      refine lv_iconst (v := 2) hx hb dX5_limb_35 (by decide) ?_
      refine lv_iload_n hx hb dX5_limb_36 rfl (lv_at hl 2 rfl) ?_
      refine lv_imul hx hb dX5_limb_37 ?_
      refine lv_iadd hx hb dX5_limb_38 ?_
      refine lv_iconst (v := 1) hx hb dX5_limb_39 (by decide) ?_
      refine lv_iadd hx hb dX5_limb_40 ?_
      obtain ⟨v6, ev6, hv⟩ := hv
      refine fw_ald hx hb hK hS 0 rfl ev6 dX5_limb_41 ?_
      refine lv_bipush (v := 16) hx hb dX5_limb_42 (by decide) ?_
      refine lv_ishl hx hb dX5_limb_44 ?_
      refine lv_ior hx hb dX5_limb_45 ?_
      exact fw_iret hx hb hr hlk hS hv dX5_limb_46
    · have hv := hv.2 c2
      refine lv_iconst (v := 0) hx hb dX5_limb_10 (by decide) ?_
      refine lv_goto (tgt := 46) hx hb dX5_limb_11 (by decide) ?_
      exact fw_iret hx hb hr hlk hS hv dX5_limb_46
set_option maxRecDepth 100000 in
set_option maxHeartbeats 4000000 in
theorem T_X5_limb {E : cx} {h : Nat} {p1 : Int32} {p2 : Int32} {f : hm} {K : Int32 → hm → Prop}  (h0 : X_X5_limb_0 E h p1 p2 f  K) : S_X5_limb E h p1 p2 f K := by
  refine MI_of (cc := cX5_limb) (maxL := 3) (ret := (some .int)) (by decide) rfl ?_
  intro p e s m below meth c C
  have hl := lv_entry ([.ref h, .int p1, .int p2]) (n := 3) (Nat.le_of_ble_eq_true rfl)
  rw [lg_entry_eq]
  generalize (lg_sl ([.ref h, .int p1, .int p2]) ++ List.replicate (3 - (lg_sl ([.ref h, .int p1, .int p2])).length) Slot.unset).toArray = ls at hl ⊢
  have hl : lv_has ls 3 [(0, .ref h), (1, .int p1), (2, .int p2)] := hl
  have hS := C.2.2.2.2.2.2.2.2.2
  exact R_X5_limb_0 C h p1 p2 f h0 hl hS
/-! ContinuedRatiosModel.numLimb(II)I -/
def S_X5_numLimb (E : cx) (h : Nat) (p1 : Int32) (p2 : Int32) (f : hm) (K : Int32 → hm → Prop) : Prop := MI E.1 E.2.1 vwCl (eT E) yX5_numLimb wsX5_numLimb ({ frames := 1, cells := 0, slots := 0, locals := 22 }) [.ref h, .int p1, .int p2] f K
def X_X5_numLimb_0 (E : cx) (h : Nat) (p1 : Int32) (p2 : Int32) (f : hm)  (K : Int32 → hm → Prop) : Prop :=
  (isO f h 5 ∧ S_X5_isRegister E h p1 f (fun (r3 : Int32) (f2 : hm) => ((r3 = 0 → K (0 : Int32) f2) ∧ (¬ (r3 = 0) → (isO f2 h 5 ∧ S_X5_limb E h p1 p2 f2 (fun (r7 : Int32) (f6 : hm) => K r7 f6))))))
set_option maxRecDepth 100000 in
set_option maxHeartbeats 4000000 in
theorem R_X5_numLimb_0 {E : cx} {p : Program} {e : Env} {s : State} {m : MethodId} {below : List Frame} {meth : Method} {c : Code} {f0 : hm} {zh : Nat} {zp1 : Int32} {zp2 : Int32} (C : wB E.2.1 vwCl (eT E) yX5_numLimb cX5_numLimb 3 (some .int) wsX5_numLimb [.ref zh, .int zp1, .int zp2] f0 p s m meth c) (h : Nat) (p1 : Int32) (p2 : Int32) (f : hm)  {K : Int32 → hm → Prop} (hv : X_X5_numLimb_0 E h p1 p2 f  K) {ls : Array Slot} {H : Heap} {locs : List Loc} (hl : lv_has ls 3 [(0, .ref h), (1, .int p1), (2, .int p2)]) (hS : wS E.2.1 vwCl (wA f0 s.heap.size) s.heap f H locs)  : W p E.1 e ({ frames := 1, cells := 0, slots := 0, locals := 22 }) s m ([.ref zh, .int zp1, .int zp2] : List Value).toArray below meth c H locs 0 0 (MQ below (wQi f0 E.2.1 vwCl K s) ([.ref zh, .int zp1, .int zp2] : List Value).toArray s 0 0 (wA f0 s.heap.size)) (F0 m 0 ls []) := by
  obtain ⟨hx, hb, hml, hown, hts, hr, hlk, hnm, hK, -⟩ := C
  unfold X_X5_numLimb_0 at hv
  refine lv_aload_n hx hb dX5_numLimb_0 rfl (lv_at hl 0 rfl) ?_
  refine lv_iload_n hx hb dX5_numLimb_1 rfl (lv_at hl 1 rfl) ?_
  obtain ⟨ho1, hv⟩ := hv
  refine fw_callVi hx hb hml hown hts hK hS [.int p1] [] hv gX5_numLimb_X5_isRegister rfl rfl rfl 1 (by decide +kernel) ⟨Nat.le_of_ble_eq_true rfl, Nat.le_of_ble_eq_true rfl⟩ rfl rfl ho1 rfl hl.1 rfl (Nat.le_of_ble_eq_true rfl) dX5_numLimb_2 ⟨Nat.zero_le _, Nat.zero_le _⟩ (fun r3 f2 H locs hv hS => ?_)
  refine lv_if_eq (tgt := 17) hx hb dX5_numLimb_5 (by decide) (fun c4 => ?_) (fun c4 => ?_)
  · have hv := hv.1 c4
    refine lv_iconst (v := 0) hx hb dX5_numLimb_17 (by decide) ?_
    exact fw_iret hx hb hr hlk hS hv dX5_numLimb_18
  · have hv := hv.2 c4
    refine lv_aload_n hx hb dX5_numLimb_8 rfl (lv_at hl 0 rfl) ?_
    refine lv_iload_n hx hb dX5_numLimb_9 rfl (lv_at hl 1 rfl) ?_
    refine lv_iload_n hx hb dX5_numLimb_10 rfl (lv_at hl 2 rfl) ?_
    obtain ⟨ho5, hv⟩ := hv
    refine fw_callVi hx hb hml hown hts hK hS [.int p1, .int p2] [] hv gX5_numLimb_X5_limb rfl rfl rfl 2 (by decide +kernel) ⟨Nat.le_of_ble_eq_true rfl, Nat.le_of_ble_eq_true rfl⟩ rfl rfl ho5 rfl hl.1 rfl (Nat.le_of_ble_eq_true rfl) dX5_numLimb_11 ⟨Nat.zero_le _, Nat.zero_le _⟩ (fun r7 f6 H locs hv hS => ?_)
    refine lv_goto (tgt := 18) hx hb dX5_numLimb_14 (by decide) ?_
    exact fw_iret hx hb hr hlk hS hv dX5_numLimb_18
set_option maxRecDepth 100000 in
set_option maxHeartbeats 4000000 in
theorem T_X5_numLimb {E : cx} {h : Nat} {p1 : Int32} {p2 : Int32} {f : hm} {K : Int32 → hm → Prop}  (h0 : X_X5_numLimb_0 E h p1 p2 f  K) : S_X5_numLimb E h p1 p2 f K := by
  refine MI_of (cc := cX5_numLimb) (maxL := 3) (ret := (some .int)) (by decide) rfl ?_
  intro p e s m below meth c C
  have hl := lv_entry ([.ref h, .int p1, .int p2]) (n := 3) (Nat.le_of_ble_eq_true rfl)
  rw [lg_entry_eq]
  generalize (lg_sl ([.ref h, .int p1, .int p2]) ++ List.replicate (3 - (lg_sl ([.ref h, .int p1, .int p2])).length) Slot.unset).toArray = ls at hl ⊢
  have hl : lv_has ls 3 [(0, .ref h), (1, .int p1), (2, .int p2)] := hl
  have hS := C.2.2.2.2.2.2.2.2.2
  exact R_X5_numLimb_0 C h p1 p2 f h0 hl hS
/-! ContinuedRatiosModel.denLimb(II)I -/
def S_X5_denLimb (E : cx) (h : Nat) (p1 : Int32) (p2 : Int32) (f : hm) (K : Int32 → hm → Prop) : Prop := MI E.1 E.2.1 vwCl (eT E) yX5_denLimb wsX5_denLimb ({ frames := 1, cells := 0, slots := 0, locals := 22 }) [.ref h, .int p1, .int p2] f K
def X_X5_denLimb_0 (E : cx) (h : Nat) (p1 : Int32) (p2 : Int32) (f : hm)  (K : Int32 → hm → Prop) : Prop :=
  (isO f h 5 ∧ S_X5_isRegister E h p1 f (fun (r3 : Int32) (f2 : hm) => ((r3 = 0 → K (0 : Int32) f2) ∧ (¬ (r3 = 0) → (isO f2 h 5 ∧ S_X5_limb E h ((8 : Int32) + p1) p2 f2 (fun (r7 : Int32) (f6 : hm) => K r7 f6))))))
set_option maxRecDepth 100000 in
set_option maxHeartbeats 4000000 in
theorem R_X5_denLimb_0 {E : cx} {p : Program} {e : Env} {s : State} {m : MethodId} {below : List Frame} {meth : Method} {c : Code} {f0 : hm} {zh : Nat} {zp1 : Int32} {zp2 : Int32} (C : wB E.2.1 vwCl (eT E) yX5_denLimb cX5_denLimb 3 (some .int) wsX5_denLimb [.ref zh, .int zp1, .int zp2] f0 p s m meth c) (h : Nat) (p1 : Int32) (p2 : Int32) (f : hm)  {K : Int32 → hm → Prop} (hv : X_X5_denLimb_0 E h p1 p2 f  K) {ls : Array Slot} {H : Heap} {locs : List Loc} (hl : lv_has ls 3 [(0, .ref h), (1, .int p1), (2, .int p2)]) (hS : wS E.2.1 vwCl (wA f0 s.heap.size) s.heap f H locs)  : W p E.1 e ({ frames := 1, cells := 0, slots := 0, locals := 22 }) s m ([.ref zh, .int zp1, .int zp2] : List Value).toArray below meth c H locs 0 0 (MQ below (wQi f0 E.2.1 vwCl K s) ([.ref zh, .int zp1, .int zp2] : List Value).toArray s 0 0 (wA f0 s.heap.size)) (F0 m 0 ls []) := by
  obtain ⟨hx, hb, hml, hown, hts, hr, hlk, hnm, hK, -⟩ := C
  unfold X_X5_denLimb_0 at hv
  refine lv_aload_n hx hb dX5_denLimb_0 rfl (lv_at hl 0 rfl) ?_
  refine lv_iload_n hx hb dX5_denLimb_1 rfl (lv_at hl 1 rfl) ?_
  obtain ⟨ho1, hv⟩ := hv
  refine fw_callVi hx hb hml hown hts hK hS [.int p1] [] hv gX5_denLimb_X5_isRegister rfl rfl rfl 1 (by decide +kernel) ⟨Nat.le_of_ble_eq_true rfl, Nat.le_of_ble_eq_true rfl⟩ rfl rfl ho1 rfl hl.1 rfl (Nat.le_of_ble_eq_true rfl) dX5_denLimb_2 ⟨Nat.zero_le _, Nat.zero_le _⟩ (fun r3 f2 H locs hv hS => ?_)
  refine lv_if_eq (tgt := 20) hx hb dX5_denLimb_5 (by decide) (fun c4 => ?_) (fun c4 => ?_)
  · have hv := hv.1 c4
    refine lv_iconst (v := 0) hx hb dX5_denLimb_20 (by decide) ?_
    exact fw_iret hx hb hr hlk hS hv dX5_denLimb_21
  · have hv := hv.2 c4
    refine lv_aload_n hx hb dX5_denLimb_8 rfl (lv_at hl 0 rfl) ?_
    refine lv_bipush (v := 8) hx hb dX5_denLimb_9 (by decide) ?_
    refine lv_iload_n hx hb dX5_denLimb_11 rfl (lv_at hl 1 rfl) ?_
    refine lv_iadd hx hb dX5_denLimb_12 ?_
    refine lv_iload_n hx hb dX5_denLimb_13 rfl (lv_at hl 2 rfl) ?_
    obtain ⟨ho5, hv⟩ := hv
    refine fw_callVi hx hb hml hown hts hK hS [.int ((8 : Int32) + p1), .int p2] [] hv gX5_denLimb_X5_limb rfl rfl rfl 2 (by decide +kernel) ⟨Nat.le_of_ble_eq_true rfl, Nat.le_of_ble_eq_true rfl⟩ rfl rfl ho5 rfl hl.1 rfl (Nat.le_of_ble_eq_true rfl) dX5_denLimb_14 ⟨Nat.zero_le _, Nat.zero_le _⟩ (fun r7 f6 H locs hv hS => ?_)
    refine lv_goto (tgt := 21) hx hb dX5_denLimb_17 (by decide) ?_
    exact fw_iret hx hb hr hlk hS hv dX5_denLimb_21
set_option maxRecDepth 100000 in
set_option maxHeartbeats 4000000 in
theorem T_X5_denLimb {E : cx} {h : Nat} {p1 : Int32} {p2 : Int32} {f : hm} {K : Int32 → hm → Prop}  (h0 : X_X5_denLimb_0 E h p1 p2 f  K) : S_X5_denLimb E h p1 p2 f K := by
  refine MI_of (cc := cX5_denLimb) (maxL := 3) (ret := (some .int)) (by decide) rfl ?_
  intro p e s m below meth c C
  have hl := lv_entry ([.ref h, .int p1, .int p2]) (n := 3) (Nat.le_of_ble_eq_true rfl)
  rw [lg_entry_eq]
  generalize (lg_sl ([.ref h, .int p1, .int p2]) ++ List.replicate (3 - (lg_sl ([.ref h, .int p1, .int p2])).length) Slot.unset).toArray = ls at hl ⊢
  have hl : lv_has ls 3 [(0, .ref h), (1, .int p1), (2, .int p2)] := hl
  have hS := C.2.2.2.2.2.2.2.2.2
  exact R_X5_denLimb_0 C h p1 p2 f h0 hl hS
/-! ContinuedRatiosModel.sign(I)I -/
def S_X5_sign (E : cx) (h : Nat) (p1 : Int32) (f : hm) (K : Int32 → hm → Prop) : Prop := MI E.1 E.2.1 vwCl (eT E) yX5_sign wsX5_sign ({ frames := 1, cells := 0, slots := 0, locals := 21 }) [.ref h, .int p1] f K
theorem mm_X5_sign_0 : Cond.fieldLink RX5 13 "ContinuedRatiosModel" "signs" "[I" ∈ wsX5_sign := by decide +kernel
theorem ii_X5_sign_X5 : ∀ w ∈ u_ws RX5 TX5 7, w ∈ wsX5_sign := by decide +kernel
def X_X5_sign_0 (E : cx) (h : Nat) (p1 : Int32) (f : hm)  (K : Int32 → hm → Prop) : Prop :=
  (isO f h 5 ∧ S_X5_isRegister E h p1 f (fun (r3 : Int32) (f2 : hm) => ((r3 = 0 → K (0 : Int32) f2) ∧ (¬ (r3 = 0) → (∃ v5 : Nat, rdV f2 h 5 3 = some (.ref v5) ∧ (∃ v6 : Int32, rdA (eI E) f2 v5 p1 = some v6 ∧ K v6 f2))))))
set_option maxRecDepth 100000 in
set_option maxHeartbeats 4000000 in
theorem R_X5_sign_0 {E : cx} {p : Program} {e : Env} {s : State} {m : MethodId} {below : List Frame} {meth : Method} {c : Code} {f0 : hm} {zh : Nat} {zp1 : Int32} (C : wB E.2.1 vwCl (eT E) yX5_sign cX5_sign 2 (some .int) wsX5_sign [.ref zh, .int zp1] f0 p s m meth c) (h : Nat) (p1 : Int32) (f : hm)  {K : Int32 → hm → Prop} (hv : X_X5_sign_0 E h p1 f  K) {ls : Array Slot} {H : Heap} {locs : List Loc} (hl : lv_has ls 2 [(0, .ref h), (1, .int p1)]) (hS : wS E.2.1 vwCl (wA f0 s.heap.size) s.heap f H locs)  : W p E.1 e ({ frames := 1, cells := 0, slots := 0, locals := 21 }) s m ([.ref zh, .int zp1] : List Value).toArray below meth c H locs 0 0 (MQ below (wQi f0 E.2.1 vwCl K s) ([.ref zh, .int zp1] : List Value).toArray s 0 0 (wA f0 s.heap.size)) (F0 m 0 ls []) := by
  obtain ⟨hx, hb, hml, hown, hts, hr, hlk, hnm, hK, -⟩ := C
  unfold X_X5_sign_0 at hv
  refine lv_aload_n hx hb dX5_sign_0 rfl (lv_at hl 0 rfl) ?_
  refine lv_iload_n hx hb dX5_sign_1 rfl (lv_at hl 1 rfl) ?_
  obtain ⟨ho1, hv⟩ := hv
  refine fw_callVi hx hb hml hown hts hK hS [.int p1] [] hv gX5_sign_X5_isRegister rfl rfl rfl 1 (by decide +kernel) ⟨Nat.le_of_ble_eq_true rfl, Nat.le_of_ble_eq_true rfl⟩ rfl rfl ho1 rfl hl.1 rfl (Nat.le_of_ble_eq_true rfl) dX5_sign_2 ⟨Nat.zero_le _, Nat.zero_le _⟩ (fun r3 f2 H locs hv hS => ?_)
  refine lv_if_eq (tgt := 17) hx hb dX5_sign_5 (by decide) (fun c4 => ?_) (fun c4 => ?_)
  · have hv := hv.1 c4
    refine lv_iconst (v := 0) hx hb dX5_sign_17 (by decide) ?_
    exact fw_iret hx hb hr hlk hS hv dX5_sign_18
  · have hv := hv.2 c4
    refine lv_aload_n hx hb dX5_sign_8 rfl (lv_at hl 0 rfl) ?_
    obtain ⟨v5, ev5, hv⟩ := hv
    refine fw_get hx hb hts ii_X5_sign_X5 hown hK hS 3 ev5 rfl (by decide) mm_X5_sign_0 rfl dX5_sign_9 ?_
    refine lv_iload_n hx hb dX5_sign_12 rfl (lv_at hl 1 rfl) ?_
    obtain ⟨v6, ev6, hv⟩ := hv
    refine fw_ald hx hb hK hS 0 rfl ev6 dX5_sign_13 ?_
    refine lv_goto (tgt := 18) hx hb dX5_sign_14 (by decide) ?_
    exact fw_iret hx hb hr hlk hS hv dX5_sign_18
set_option maxRecDepth 100000 in
set_option maxHeartbeats 4000000 in
theorem T_X5_sign {E : cx} {h : Nat} {p1 : Int32} {f : hm} {K : Int32 → hm → Prop}  (h0 : X_X5_sign_0 E h p1 f  K) : S_X5_sign E h p1 f K := by
  refine MI_of (cc := cX5_sign) (maxL := 2) (ret := (some .int)) (by decide) rfl ?_
  intro p e s m below meth c C
  have hl := lv_entry ([.ref h, .int p1]) (n := 2) (Nat.le_of_ble_eq_true rfl)
  rw [lg_entry_eq]
  generalize (lg_sl ([.ref h, .int p1]) ++ List.replicate (2 - (lg_sl ([.ref h, .int p1])).length) Slot.unset).toArray = ls at hl ⊢
  have hl : lv_has ls 2 [(0, .ref h), (1, .int p1)] := hl
  have hS := C.2.2.2.2.2.2.2.2.2
  exact R_X5_sign_0 C h p1 f h0 hl hS
/-! ContinuedRatiosModel.farther(II)I -/
def S_X5_farther (E : cx) (h : Nat) (p1 : Int32) (p2 : Int32) (f : hm) (K : Int32 → hm → Prop) : Prop := MI E.1 E.2.1 vwCl (eT E) yX5_farther wsX5_farther ({ frames := 1, cells := 0, slots := 0, locals := 28 }) [.ref h, .int p1, .int p2] f K
def X_X5_farther_0 (E : cx) (h : Nat) (p1 : Int32) (p2 : Int32) (f : hm)  (K : Int32 → hm → Prop) : Prop :=
  (isO f h 5 ∧ S_X5_copy E h (18 : Int32) (24 : Int32) f (fun (f2 : hm) => (isO f2 h 5 ∧ S_X5_grow E h (24 : Int32) p2.toInt64 f2 (fun (f4 : hm) => (isO f4 h 5 ∧ S_X5_copy E h (26 : Int32) (25 : Int32) f4 (fun (f6 : hm) => (isO f6 h 5 ∧ S_X5_grow E h (25 : Int32) p1.toInt64 f6 (fun (f8 : hm) => (isO f8 h 5 ∧ S_X5_compare E h (24 : Int32) (25 : Int32) f8 (fun (r11 : Int32) (f10 : hm) => K r11 f10))))))))))
set_option maxRecDepth 100000 in
set_option maxHeartbeats 4000000 in
theorem R_X5_farther_0 {E : cx} {p : Program} {e : Env} {s : State} {m : MethodId} {below : List Frame} {meth : Method} {c : Code} {f0 : hm} {zh : Nat} {zp1 : Int32} {zp2 : Int32} (C : wB E.2.1 vwCl (eT E) yX5_farther cX5_farther 3 (some .int) wsX5_farther [.ref zh, .int zp1, .int zp2] f0 p s m meth c) (h : Nat) (p1 : Int32) (p2 : Int32) (f : hm)  {K : Int32 → hm → Prop} (hv : X_X5_farther_0 E h p1 p2 f  K) {ls : Array Slot} {H : Heap} {locs : List Loc} (hl : lv_has ls 3 [(0, .ref h), (1, .int p1), (2, .int p2)]) (hS : wS E.2.1 vwCl (wA f0 s.heap.size) s.heap f H locs)  : W p E.1 e ({ frames := 1, cells := 0, slots := 0, locals := 28 }) s m ([.ref zh, .int zp1, .int zp2] : List Value).toArray below meth c H locs 0 0 (MQ below (wQi f0 E.2.1 vwCl K s) ([.ref zh, .int zp1, .int zp2] : List Value).toArray s 0 0 (wA f0 s.heap.size)) (F0 m 0 ls []) := by
  obtain ⟨hx, hb, hml, hown, hts, hr, hlk, hnm, hK, -⟩ := C
  unfold X_X5_farther_0 at hv
  refine lv_aload_n hx hb dX5_farther_0 rfl (lv_at hl 0 rfl) ?_
  refine lv_bipush (v := 18) hx hb dX5_farther_1 (by decide) ?_
  refine lv_bipush (v := 24) hx hb dX5_farther_3 (by decide) ?_
  obtain ⟨ho1, hv⟩ := hv
  refine fw_callVv hx hb hml hown hts hK hS [.int (18 : Int32), .int (24 : Int32)] [] hv gX5_farther_X5_copy rfl rfl rfl 2 (by decide +kernel) ⟨Nat.le_of_ble_eq_true rfl, Nat.le_of_ble_eq_true rfl⟩ rfl rfl ho1 rfl hl.1 rfl (Nat.le_of_ble_eq_true rfl) dX5_farther_5 ⟨Nat.zero_le _, Nat.zero_le _⟩ (fun f2 H locs hv hS => ?_)
  refine lv_aload_n hx hb dX5_farther_8 rfl (lv_at hl 0 rfl) ?_
  refine lv_bipush (v := 24) hx hb dX5_farther_9 (by decide) ?_
  refine lv_iload_n hx hb dX5_farther_11 rfl (lv_at hl 2 rfl) ?_
  refine lv_i2l hx hb dX5_farther_12 rfl ?_
  obtain ⟨ho3, hv⟩ := hv
  refine fw_callVv hx hb hml hown hts hK hS [.int (24 : Int32), .long p2.toInt64] [] hv gX5_farther_X5_grow rfl rfl rfl 2 (by decide +kernel) ⟨Nat.le_of_ble_eq_true rfl, Nat.le_of_ble_eq_true rfl⟩ rfl rfl ho3 rfl hl.1 rfl (Nat.le_of_ble_eq_true rfl) dX5_farther_13 ⟨Nat.zero_le _, Nat.zero_le _⟩ (fun f4 H locs hv hS => ?_)
  refine lv_aload_n hx hb dX5_farther_16 rfl (lv_at hl 0 rfl) ?_
  refine lv_bipush (v := 26) hx hb dX5_farther_17 (by decide) ?_
  refine lv_bipush (v := 25) hx hb dX5_farther_19 (by decide) ?_
  obtain ⟨ho5, hv⟩ := hv
  refine fw_callVv hx hb hml hown hts hK hS [.int (26 : Int32), .int (25 : Int32)] [] hv gX5_farther_X5_copy rfl rfl rfl 2 (by decide +kernel) ⟨Nat.le_of_ble_eq_true rfl, Nat.le_of_ble_eq_true rfl⟩ rfl rfl ho5 rfl hl.1 rfl (Nat.le_of_ble_eq_true rfl) dX5_farther_21 ⟨Nat.zero_le _, Nat.zero_le _⟩ (fun f6 H locs hv hS => ?_)
  refine lv_aload_n hx hb dX5_farther_24 rfl (lv_at hl 0 rfl) ?_
  refine lv_bipush (v := 25) hx hb dX5_farther_25 (by decide) ?_
  refine lv_iload_n hx hb dX5_farther_27 rfl (lv_at hl 1 rfl) ?_
  refine lv_i2l hx hb dX5_farther_28 rfl ?_
  obtain ⟨ho7, hv⟩ := hv
  refine fw_callVv hx hb hml hown hts hK hS [.int (25 : Int32), .long p1.toInt64] [] hv gX5_farther_X5_grow rfl rfl rfl 2 (by decide +kernel) ⟨Nat.le_of_ble_eq_true rfl, Nat.le_of_ble_eq_true rfl⟩ rfl rfl ho7 rfl hl.1 rfl (Nat.le_of_ble_eq_true rfl) dX5_farther_29 ⟨Nat.zero_le _, Nat.zero_le _⟩ (fun f8 H locs hv hS => ?_)
  refine lv_aload_n hx hb dX5_farther_32 rfl (lv_at hl 0 rfl) ?_
  refine lv_bipush (v := 24) hx hb dX5_farther_33 (by decide) ?_
  refine lv_bipush (v := 25) hx hb dX5_farther_35 (by decide) ?_
  obtain ⟨ho9, hv⟩ := hv
  refine fw_callVi hx hb hml hown hts hK hS [.int (24 : Int32), .int (25 : Int32)] [] hv gX5_farther_X5_compare rfl rfl rfl 2 (by decide +kernel) ⟨Nat.le_of_ble_eq_true rfl, Nat.le_of_ble_eq_true rfl⟩ rfl rfl ho9 rfl hl.1 rfl (Nat.le_of_ble_eq_true rfl) dX5_farther_37 ⟨Nat.zero_le _, Nat.zero_le _⟩ (fun r11 f10 H locs hv hS => ?_)
  exact fw_iret hx hb hr hlk hS hv dX5_farther_40
set_option maxRecDepth 100000 in
set_option maxHeartbeats 4000000 in
theorem T_X5_farther {E : cx} {h : Nat} {p1 : Int32} {p2 : Int32} {f : hm} {K : Int32 → hm → Prop}  (h0 : X_X5_farther_0 E h p1 p2 f  K) : S_X5_farther E h p1 p2 f K := by
  refine MI_of (cc := cX5_farther) (maxL := 3) (ret := (some .int)) (by decide) rfl ?_
  intro p e s m below meth c C
  have hl := lv_entry ([.ref h, .int p1, .int p2]) (n := 3) (Nat.le_of_ble_eq_true rfl)
  rw [lg_entry_eq]
  generalize (lg_sl ([.ref h, .int p1, .int p2]) ++ List.replicate (3 - (lg_sl ([.ref h, .int p1, .int p2])).length) Slot.unset).toArray = ls at hl ⊢
  have hl : lv_has ls 3 [(0, .ref h), (1, .int p1), (2, .int p2)] := hl
  have hS := C.2.2.2.2.2.2.2.2.2
  exact R_X5_farther_0 C h p1 p2 f h0 hl hS
