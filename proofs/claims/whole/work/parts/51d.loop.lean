/-! The law's loop. -/
set_option maxRecDepth 100000 in
set_option maxHeartbeats 4000000 in
theorem law_loop {p : Program} {e : Env} {s : State} {m : MethodId} {below : List Frame} {meth : Method} {c : Code} {b L : Nat} {xs : Nat → Int32} {E : cx} (C : lwC p s m meth c b L xs E) {ad : Nat → Nat} {h ab as R wd : Nat} : ∀ (n k : Nat), L ≤ k + n → k ≤ L + 4 → ∀ (A : regs) (cf : Int × Nat) (f : hm) (ls : Array Slot) (H : Heap) (locs : List Loc), lwS E ad h ab as R wd A cf f → lv_has ls 4 [(3, .int (nI k)), (2, .ref h), (1, .ref (ad 0)), (0, .ref b)] → wS E.2.1 vwCl (lwA s) s.heap f H locs → W p E.1 e room_1 s m #[Value.ref b] below meth c H locs 98 1936 (lw_Z below #[Value.ref b] s) (F0 m 38 ls []) := by
  intro n
  induction n with
  | zero =>
    intro k h1 h2 A cf f ls H locs S hl hS
    obtain ⟨⟨hx, hb, hr, hml, hown, hts0, hX, hbl, hlocks, hgv⟩, hK, hL⟩ := C
    have hbA : ¬ lwA s b := Nat.not_le.mpr hbl
    refine lv_iload_n hx hb dL_law_38 rfl (lv_at hl 0 rfl) ?_
    refine lv_aload_n hx hb dL_law_39 rfl (lv_at hl 3 rfl) ?_
    refine va_slen hx hb hX hbl hbA hS.2.2.1 dL_law_40 ?_
    refine lv_iconst (v := 4) hx hb dL_law_41 (by decide) ?_
    refine lv_isub hx hb dL_law_42 ?_
    refine lv_icmp_gt (tgt := 610) hx hb dL_law_43 (by decide) (fun c1 => ?_) (fun c1 => ?_)
    · refine lv_iconst (v := 1) hx hb dL_law_610 (by decide) ?_
      refine va_forget (fun q hq => hS.2.2.1.2.2 q hq) ?_
      refine W.widen (k := 600000) (n := 7302250) (Nat.le_of_ble_eq_true rfl) (Nat.le_of_ble_eq_true rfl) ?_
      exact lw_ret hx hb hr hlocks dL_law_611
    · exfalso
      apply c1
      show nI L - nI 4 < nI k
      rw [Int32.lt_iff_toInt_lt, pk_sub_toInt (by omega) (by omega), nI_toInt (by omega)]
      omega
  | succ n ih =>
    intro k h1 h2 A cf f ls H locs S hl hS
    have C' := C
    obtain ⟨⟨hx, hb, hr, hml, hown, hts0, hX, hbl, hlocks, hgv⟩, hK, hL⟩ := C
    have hbA : ¬ lwA s b := Nat.not_le.mpr hbl
    refine lv_iload_n hx hb dL_law_38 rfl (lv_at hl 0 rfl) ?_
    refine lv_aload_n hx hb dL_law_39 rfl (lv_at hl 3 rfl) ?_
    refine va_slen hx hb hX hbl hbA hS.2.2.1 dL_law_40 ?_
    refine lv_iconst (v := 4) hx hb dL_law_41 (by decide) ?_
    refine lv_isub hx hb dL_law_42 ?_
    refine lv_icmp_gt (tgt := 610) hx hb dL_law_43 (by decide) (fun c1 => ?_) (fun c1 => ?_)
    · refine lv_iconst (v := 1) hx hb dL_law_610 (by decide) ?_
      refine va_forget (fun q hq => hS.2.2.1.2.2 q hq) ?_
      refine W.widen (k := 600000) (n := 7302250) (Nat.le_of_ble_eq_true rfl) (Nat.le_of_ble_eq_true rfl) ?_
      exact lw_ret hx hb hr hlocks dL_law_611
    · have hk : k + 4 ≤ L := by
        have c2 : ¬ nI L - nI 4 < nI k := c1
        rw [Int32.lt_iff_toInt_lt, pk_sub_toInt (by omega) (by omega), nI_toInt (by omega)] at c2
        omega
      have hnext : ∀ (A' : regs) (cf' : Int × Nat) (f' : hm) (H' : Heap) (locs' : List Loc), lwS E ad h ab as R wd A' cf' f' → wS E.2.1 vwCl (lwA s) s.heap f' H' locs' → W p E.1 e room_1 s m #[Value.ref b] below meth c H' locs' 98 1936 (lw_Z below #[Value.ref b] s) (F0 m 604 ls []) := by
        intro A' cf' f' H' locs' S' hS'
        obtain ⟨x, ex⟩ : ∃ y : Int32, y = nI k + 4 := ⟨_, rfl⟩
        have ex2 : x = nI (k + 4) := by rw [ex, show (4 : Int32) = nI 4 from rfl, nI_add]
        refine lv_iinc (v := x) (lv' := [(3, .int x), (2, .ref h), (1, .ref (ad 0)), (0, .ref b)]) hx hb dL_law_604 hl (k := 0) rfl (by rw [ex]; rfl) (by decide) rfl (fun ls hl => ?_)
        refine lv_goto (tgt := 38) hx hb dL_law_607 (by decide) ?_
        rw [ex2] at hl
        exact ih (k + 4) (by omega) (by omega) A' cf' f' ls H' locs' S' hl hS'
      refine lv_aload_n hx hb dL_law_46 rfl (lv_at hl 3 rfl) ?_
      refine lv_iload_n hx hb dL_law_47 rfl (lv_at hl 0 rfl) ?_
      refine va_sld hx hb hX hbl hbA hS.2.2.1 (vp_in_nI (show k < L by omega) (by omega)) dL_law_48 ?_
      refine lv_bipush (v := 15) hx hb dL_law_49 (by decide) ?_
      refine lv_iand hx hb dL_law_51 ?_
      obtain ⟨j, hj, ej⟩ := pk_andE (xs (nI k).toNatClampNeg) (m := 15) 4 (by decide)
      rw [ej]
      match j, hj with
      | 0, _ => exact lv_tableIn (off := 76) (tgt := 128) hx hb dL_law_52 (by decide) (by decide) (by decide) (by decide) (lcase_set C' S hl hS hk hnext)
      | 1, _ => exact lv_tableIn (off := 119) (tgt := 171) hx hb dL_law_52 (by decide) (by decide) (by decide) (by decide) (lcase_add C' S hl hS hk hnext)
      | 2, _ => exact lv_tableIn (off := 162) (tgt := 214) hx hb dL_law_52 (by decide) (by decide) (by decide) (by decide) (lcase_sub C' S hl hS hk hnext)
      | 3, _ => exact lv_tableIn (off := 205) (tgt := 257) hx hb dL_law_52 (by decide) (by decide) (by decide) (by decide) (lcase_mul C' S hl hS hk hnext)
      | 4, _ => exact lv_tableIn (off := 248) (tgt := 300) hx hb dL_law_52 (by decide) (by decide) (by decide) (by decide) (lcase_div C' S hl hS hk hnext)
      | 5, _ => exact lv_tableIn (off := 291) (tgt := 343) hx hb dL_law_52 (by decide) (by decide) (by decide) (by decide) (lcase_cmp C' S hl hS hk hnext)
      | 6, _ => exact lv_tableIn (off := 324) (tgt := 376) hx hb dL_law_52 (by decide) (by decide) (by decide) (by decide) (lcase_fits C' S hl hS hk hnext)
      | 7, _ => exact lv_tableIn (off := 347) (tgt := 399) hx hb dL_law_52 (by decide) (by decide) (by decide) (by decide) (lcase_floorSmall C' S hl hS hk hnext)
      | 8, _ => exact lv_tableIn (off := 370) (tgt := 422) hx hb dL_law_52 (by decide) (by decide) (by decide) (by decide) (lcase_cfStart C' S hl hS hk hnext)
      | 9, _ => exact lv_tableIn (off := 393) (tgt := 445) hx hb dL_law_52 (by decide) (by decide) (by decide) (by decide) (lcase_cfNext C' S hl hS hk hnext)
      | 10, _ => exact lv_tableIn (off := 406) (tgt := 458) hx hb dL_law_52 (by decide) (by decide) (by decide) (by decide) (lcase_cfDone C' S hl hS hk hnext)
      | 11, _ => exact lv_tableIn (off := 419) (tgt := 471) hx hb dL_law_52 (by decide) (by decide) (by decide) (by decide) (lcase_numLimb C' S hl hS hk hnext)
      | 12, _ => exact lv_tableIn (off := 452) (tgt := 504) hx hb dL_law_52 (by decide) (by decide) (by decide) (by decide) (lcase_denLimb C' S hl hS hk hnext)
      | 13, _ => exact lv_tableIn (off := 485) (tgt := 537) hx hb dL_law_52 (by decide) (by decide) (by decide) (by decide) (lcase_sign C' S hl hS hk hnext)
      | 14, _ => exact lv_tableIn (off := 508) (tgt := 560) hx hb dL_law_52 (by decide) (by decide) (by decide) (by decide) (lcase_best C' S hl hS hk hnext)
      | 15, _ => exact lv_tableOut (tgt := 604) hx hb dL_law_52 (Or.inr (by decide)) (by decide) (hnext A cf f H locs S hS)
      | j + 16, hj => exact absurd hj (by omega)
