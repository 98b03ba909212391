/-! By program (wip/whole/lawcases.py): the law's cases. -/
def lwC (p : Program) (s : State) (m : MethodId) (meth : Method) (c : Code) (b L : Nat) (xs : Nat → Int32) (E : cx) : Prop := lw_At p s m meth c b L xs ∧ va_K E.2.1 vwCl (eT E) s ∧ L ≤ 2050
abbrev lwA (s : State) : Nat → Prop := fun q => s.heap.size ≤ q
set_option maxRecDepth 100000 in
set_option maxHeartbeats 4000000 in
theorem lcase_set {p : Program} {e : Env} {s : State} {m : MethodId} {below : List Frame} {meth : Method} {c : Code} {b L : Nat} {xs : Nat → Int32} {E : cx} (C : lwC p s m meth c b L xs E) {ad : Nat → Nat} {h ab as R wd k : Nat} {A : regs} {cf : Int × Nat} {f : hm} {ls : Array Slot} {H : Heap} {locs : List Loc} (S : lwS E ad h ab as R wd A cf f) (hl : lv_has ls 4 [(3, .int (nI k)), (2, .ref h), (1, .ref (ad 0)), (0, .ref b)]) (hS : wS E.2.1 vwCl (lwA s) s.heap f H locs) (hk : k + 4 ≤ L) (hnext : ∀ (A' : regs) (cf' : Int × Nat) (f' : hm) (H' : Heap) (locs' : List Loc), lwS E ad h ab as R wd A' cf' f' → wS E.2.1 vwCl (lwA s) s.heap f' H' locs' → W p E.1 e room_1 s m #[Value.ref b] below meth c H' locs' 98 1936 (lw_Z below #[Value.ref b] s) (F0 m 604 ls [])) : W p E.1 e room_1 s m #[Value.ref b] below meth c H locs 98 1936 (lw_Z below #[Value.ref b] s) (F0 m 128 ls []) := by
  obtain ⟨⟨hx, hb, hr, hml, hown, hts0, hX, hbl, hlocks, hgv⟩, hK, hL⟩ := C
  have hown : s.vm.findClass RL = some m.cls := hown
  have hts : ∀ w ∈ wsL_law, w.before #[Value.ref b] s = true := fun w h => hts0 w (law_in w h)
  have hbA : ¬ lwA s b := Nat.not_le.mpr hbl
  have i1 : vp_in (nI k + 1) L := by rw [show (1 : Int32) = nI 1 from rfl, nI_add]; exact vp_in_nI (by omega) (by omega)
  have i2 : vp_in (nI k + 2) L := by rw [show (2 : Int32) = nI 2 from rfl, nI_add]; exact vp_in_nI (by omega) (by omega)
  have i3 : vp_in (nI k + 3) L := by rw [show (3 : Int32) = nI 3 from rfl, nI_add]; exact vp_in_nI (by omega) (by omega)
  refine lv_aload_n hx hb dL_law_128 rfl (lv_at hl 2 rfl) ?_
  refine lv_aload_n hx hb dL_law_129 rfl (lv_at hl 3 rfl) ?_
  refine lv_iload_n hx hb dL_law_130 rfl (lv_at hl 0 rfl) ?_
  refine lv_iconst (v := 1) hx hb dL_law_131 (by decide) ?_
  refine lv_iadd hx hb dL_law_132 ?_
  refine va_sld hx hb hX hbl hbA hS.2.2.1 i1 dL_law_133 ?_
  refine lv_aload_n hx hb dL_law_134 rfl (lv_at hl 3 rfl) ?_
  refine lv_iload_n hx hb dL_law_135 rfl (lv_at hl 0 rfl) ?_
  refine lv_iconst (v := 2) hx hb dL_law_136 (by decide) ?_
  refine lv_iadd hx hb dL_law_137 ?_
  refine va_sld hx hb hX hbl hbA hS.2.2.1 i2 dL_law_138 ?_
  refine lv_aload_n hx hb dL_law_139 rfl (lv_at hl 3 rfl) ?_
  refine lv_iload_n hx hb dL_law_140 rfl (lv_at hl 0 rfl) ?_
  refine lv_iconst (v := 3) hx hb dL_law_141 (by decide) ?_
  refine lv_iadd hx hb dL_law_142 ?_
  refine va_sld hx hb hX hbl hbA hS.2.2.1 i3 dL_law_143 ?_
  refine fw_callVi hx hb hml hown hts hK hS [.int (xs (nI k + 1).toNatClampNeg), .int (xs (nI k + 2).toNatClampNeg), .int (xs (nI k + 3).toNatClampNeg)] [] (D4_set S.1 S.2.1) gL_law_X4_set rfl rfl rfl 3 (by decide +kernel) ⟨Nat.le_of_ble_eq_true rfl, Nat.le_of_ble_eq_true rfl⟩ rfl rfl S.2.1.o rfl hl.1 rfl (Nat.le_of_ble_eq_true rfl) dL_law_144 ⟨Nat.le_of_ble_eq_true rfl, Nat.le_of_ble_eq_true rfl⟩ (fun r1 f1 H locs hv1 hS => ?_)
  refine lv_aload_n hx hb dL_law_147 rfl (lv_at hl 1 rfl) ?_
  refine lv_aload_n hx hb dL_law_148 rfl (lv_at hl 3 rfl) ?_
  refine lv_iload_n hx hb dL_law_149 rfl (lv_at hl 0 rfl) ?_
  refine lv_iconst (v := 1) hx hb dL_law_150 (by decide) ?_
  refine lv_iadd hx hb dL_law_151 ?_
  refine va_sld hx hb hX hbl hbA hS.2.2.1 i1 dL_law_152 ?_
  refine lv_aload_n hx hb dL_law_153 rfl (lv_at hl 3 rfl) ?_
  refine lv_iload_n hx hb dL_law_154 rfl (lv_at hl 0 rfl) ?_
  refine lv_iconst (v := 2) hx hb dL_law_155 (by decide) ?_
  refine lv_iadd hx hb dL_law_156 ?_
  refine va_sld hx hb hX hbl hbA hS.2.2.1 i2 dL_law_157 ?_
  refine lv_aload_n hx hb dL_law_158 rfl (lv_at hl 3 rfl) ?_
  refine lv_iload_n hx hb dL_law_159 rfl (lv_at hl 0 rfl) ?_
  refine lv_iconst (v := 3) hx hb dL_law_160 (by decide) ?_
  refine lv_iadd hx hb dL_law_161 ?_
  refine va_sld hx hb hX hbl hbA hS.2.2.1 i3 dL_law_162 ?_
  refine fw_callVi hx hb hml hown hts hK hS [.int (xs (nI k + 1).toNatClampNeg), .int (xs (nI k + 2).toNatClampNeg), .int (xs (nI k + 3).toNatClampNeg)] [.int r1] (D5_set S.1 (S.ref hv1.2)) gL_law_X5_set rfl rfl rfl 3 (by decide +kernel) ⟨Nat.le_of_ble_eq_true rfl, Nat.le_of_ble_eq_true rfl⟩ rfl rfl (S.ref hv1.2).o rfl hl.1 rfl (Nat.le_of_ble_eq_true rfl) dL_law_163 ⟨Nat.le_of_ble_eq_true rfl, Nat.le_of_ble_eq_true rfl⟩ (fun r2 f2 H locs hv2 hS => ?_)
  exact lv_icmp_eq (tgt := 604) hx hb dL_law_166 (by decide) (fun _ => hnext _ _ f2 H locs (S.next S.1.aset hv1.2 hv2.2) hS) (fun c2 => absurd (hv1.1.trans hv2.1.symm) c2)
set_option maxRecDepth 100000 in
set_option maxHeartbeats 4000000 in
theorem lcase_add {p : Program} {e : Env} {s : State} {m : MethodId} {below : List Frame} {meth : Method} {c : Code} {b L : Nat} {xs : Nat → Int32} {E : cx} (C : lwC p s m meth c b L xs E) {ad : Nat → Nat} {h ab as R wd k : Nat} {A : regs} {cf : Int × Nat} {f : hm} {ls : Array Slot} {H : Heap} {locs : List Loc} (S : lwS E ad h ab as R wd A cf f) (hl : lv_has ls 4 [(3, .int (nI k)), (2, .ref h), (1, .ref (ad 0)), (0, .ref b)]) (hS : wS E.2.1 vwCl (lwA s) s.heap f H locs) (hk : k + 4 ≤ L) (hnext : ∀ (A' : regs) (cf' : Int × Nat) (f' : hm) (H' : Heap) (locs' : List Loc), lwS E ad h ab as R wd A' cf' f' → wS E.2.1 vwCl (lwA s) s.heap f' H' locs' → W p E.1 e room_1 s m #[Value.ref b] below meth c H' locs' 98 1936 (lw_Z below #[Value.ref b] s) (F0 m 604 ls [])) : W p E.1 e room_1 s m #[Value.ref b] below meth c H locs 98 1936 (lw_Z below #[Value.ref b] s) (F0 m 171 ls []) := by
  obtain ⟨⟨hx, hb, hr, hml, hown, hts0, hX, hbl, hlocks, hgv⟩, hK, hL⟩ := C
  have hown : s.vm.findClass RL = some m.cls := hown
  have hts : ∀ w ∈ wsL_law, w.before #[Value.ref b] s = true := fun w h => hts0 w (law_in w h)
  have hbA : ¬ lwA s b := Nat.not_le.mpr hbl
  have i1 : vp_in (nI k + 1) L := by rw [show (1 : Int32) = nI 1 from rfl, nI_add]; exact vp_in_nI (by omega) (by omega)
  have i2 : vp_in (nI k + 2) L := by rw [show (2 : Int32) = nI 2 from rfl, nI_add]; exact vp_in_nI (by omega) (by omega)
  have i3 : vp_in (nI k + 3) L := by rw [show (3 : Int32) = nI 3 from rfl, nI_add]; exact vp_in_nI (by omega) (by omega)
  refine lv_aload_n hx hb dL_law_171 rfl (lv_at hl 2 rfl) ?_
  refine lv_aload_n hx hb dL_law_172 rfl (lv_at hl 3 rfl) ?_
  refine lv_iload_n hx hb dL_law_173 rfl (lv_at hl 0 rfl) ?_
  refine lv_iconst (v := 1) hx hb dL_law_174 (by decide) ?_
  refine lv_iadd hx hb dL_law_175 ?_
  refine va_sld hx hb hX hbl hbA hS.2.2.1 i1 dL_law_176 ?_
  refine lv_aload_n hx hb dL_law_177 rfl (lv_at hl 3 rfl) ?_
  refine lv_iload_n hx hb dL_law_178 rfl (lv_at hl 0 rfl) ?_
  refine lv_iconst (v := 2) hx hb dL_law_179 (by decide) ?_
  refine lv_iadd hx hb dL_law_180 ?_
  refine va_sld hx hb hX hbl hbA hS.2.2.1 i2 dL_law_181 ?_
  refine lv_aload_n hx hb dL_law_182 rfl (lv_at hl 3 rfl) ?_
  refine lv_iload_n hx hb dL_law_183 rfl (lv_at hl 0 rfl) ?_
  refine lv_iconst (v := 3) hx hb dL_law_184 (by decide) ?_
  refine lv_iadd hx hb dL_law_185 ?_
  refine va_sld hx hb hX hbl hbA hS.2.2.1 i3 dL_law_186 ?_
  refine fw_callVi hx hb hml hown hts hK hS [.int (xs (nI k + 1).toNatClampNeg), .int (xs (nI k + 2).toNatClampNeg), .int (xs (nI k + 3).toNatClampNeg)] [] (D4_add S.1 S.2.1) gL_law_X4_add rfl rfl rfl 3 (by decide +kernel) ⟨Nat.le_of_ble_eq_true rfl, Nat.le_of_ble_eq_true rfl⟩ rfl rfl S.2.1.o rfl hl.1 rfl (Nat.le_of_ble_eq_true rfl) dL_law_187 ⟨Nat.le_of_ble_eq_true rfl, Nat.le_of_ble_eq_true rfl⟩ (fun r1 f1 H locs hv1 hS => ?_)
  refine lv_aload_n hx hb dL_law_190 rfl (lv_at hl 1 rfl) ?_
  refine lv_aload_n hx hb dL_law_191 rfl (lv_at hl 3 rfl) ?_
  refine lv_iload_n hx hb dL_law_192 rfl (lv_at hl 0 rfl) ?_
  refine lv_iconst (v := 1) hx hb dL_law_193 (by decide) ?_
  refine lv_iadd hx hb dL_law_194 ?_
  refine va_sld hx hb hX hbl hbA hS.2.2.1 i1 dL_law_195 ?_
  refine lv_aload_n hx hb dL_law_196 rfl (lv_at hl 3 rfl) ?_
  refine lv_iload_n hx hb dL_law_197 rfl (lv_at hl 0 rfl) ?_
  refine lv_iconst (v := 2) hx hb dL_law_198 (by decide) ?_
  refine lv_iadd hx hb dL_law_199 ?_
  refine va_sld hx hb hX hbl hbA hS.2.2.1 i2 dL_law_200 ?_
  refine lv_aload_n hx hb dL_law_201 rfl (lv_at hl 3 rfl) ?_
  refine lv_iload_n hx hb dL_law_202 rfl (lv_at hl 0 rfl) ?_
  refine lv_iconst (v := 3) hx hb dL_law_203 (by decide) ?_
  refine lv_iadd hx hb dL_law_204 ?_
  refine va_sld hx hb hX hbl hbA hS.2.2.1 i3 dL_law_205 ?_
  refine fw_callVi hx hb hml hown hts hK hS [.int (xs (nI k + 1).toNatClampNeg), .int (xs (nI k + 2).toNatClampNeg), .int (xs (nI k + 3).toNatClampNeg)] [.int r1] (D5_add S.1 (S.ref hv1.2)) gL_law_X5_add rfl rfl rfl 3 (by decide +kernel) ⟨Nat.le_of_ble_eq_true rfl, Nat.le_of_ble_eq_true rfl⟩ rfl rfl (S.ref hv1.2).o rfl hl.1 rfl (Nat.le_of_ble_eq_true rfl) dL_law_206 ⟨Nat.le_of_ble_eq_true rfl, Nat.le_of_ble_eq_true rfl⟩ (fun r2 f2 H locs hv2 hS => ?_)
  exact lv_icmp_eq (tgt := 604) hx hb dL_law_209 (by decide) (fun _ => hnext _ _ f2 H locs (S.next S.1.aadd hv1.2 hv2.2) hS) (fun c2 => absurd (hv1.1.trans hv2.1.symm) c2)
set_option maxRecDepth 100000 in
set_option maxHeartbeats 4000000 in
theorem lcase_sub {p : Program} {e : Env} {s : State} {m : MethodId} {below : List Frame} {meth : Method} {c : Code} {b L : Nat} {xs : Nat → Int32} {E : cx} (C : lwC p s m meth c b L xs E) {ad : Nat → Nat} {h ab as R wd k : Nat} {A : regs} {cf : Int × Nat} {f : hm} {ls : Array Slot} {H : Heap} {locs : List Loc} (S : lwS E ad h ab as R wd A cf f) (hl : lv_has ls 4 [(3, .int (nI k)), (2, .ref h), (1, .ref (ad 0)), (0, .ref b)]) (hS : wS E.2.1 vwCl (lwA s) s.heap f H locs) (hk : k + 4 ≤ L) (hnext : ∀ (A' : regs) (cf' : Int × Nat) (f' : hm) (H' : Heap) (locs' : List Loc), lwS E ad h ab as R wd A' cf' f' → wS E.2.1 vwCl (lwA s) s.heap f' H' locs' → W p E.1 e room_1 s m #[Value.ref b] below meth c H' locs' 98 1936 (lw_Z below #[Value.ref b] s) (F0 m 604 ls [])) : W p E.1 e room_1 s m #[Value.ref b] below meth c H locs 98 1936 (lw_Z below #[Value.ref b] s) (F0 m 214 ls []) := by
  obtain ⟨⟨hx, hb, hr, hml, hown, hts0, hX, hbl, hlocks, hgv⟩, hK, hL⟩ := C
  have hown : s.vm.findClass RL = some m.cls := hown
  have hts : ∀ w ∈ wsL_law, w.before #[Value.ref b] s = true := fun w h => hts0 w (law_in w h)
  have hbA : ¬ lwA s b := Nat.not_le.mpr hbl
  have i1 : vp_in (nI k + 1) L := by rw [show (1 : Int32) = nI 1 from rfl, nI_add]; exact vp_in_nI (by omega) (by omega)
  have i2 : vp_in (nI k + 2) L := by rw [show (2 : Int32) = nI 2 from rfl, nI_add]; exact vp_in_nI (by omega) (by omega)
  have i3 : vp_in (nI k + 3) L := by rw [show (3 : Int32) = nI 3 from rfl, nI_add]; exact vp_in_nI (by omega) (by omega)
  refine lv_aload_n hx hb dL_law_214 rfl (lv_at hl 2 rfl) ?_
  refine lv_aload_n hx hb dL_law_215 rfl (lv_at hl 3 rfl) ?_
  refine lv_iload_n hx hb dL_law_216 rfl (lv_at hl 0 rfl) ?_
  refine lv_iconst (v := 1) hx hb dL_law_217 (by decide) ?_
  refine lv_iadd hx hb dL_law_218 ?_
  refine va_sld hx hb hX hbl hbA hS.2.2.1 i1 dL_law_219 ?_
  refine lv_aload_n hx hb dL_law_220 rfl (lv_at hl 3 rfl) ?_
  refine lv_iload_n hx hb dL_law_221 rfl (lv_at hl 0 rfl) ?_
  refine lv_iconst (v := 2) hx hb dL_law_222 (by decide) ?_
  refine lv_iadd hx hb dL_law_223 ?_
  refine va_sld hx hb hX hbl hbA hS.2.2.1 i2 dL_law_224 ?_
  refine lv_aload_n hx hb dL_law_225 rfl (lv_at hl 3 rfl) ?_
  refine lv_iload_n hx hb dL_law_226 rfl (lv_at hl 0 rfl) ?_
  refine lv_iconst (v := 3) hx hb dL_law_227 (by decide) ?_
  refine lv_iadd hx hb dL_law_228 ?_
  refine va_sld hx hb hX hbl hbA hS.2.2.1 i3 dL_law_229 ?_
  refine fw_callVi hx hb hml hown hts hK hS [.int (xs (nI k + 1).toNatClampNeg), .int (xs (nI k + 2).toNatClampNeg), .int (xs (nI k + 3).toNatClampNeg)] [] (D4_sub S.1 S.2.1) gL_law_X4_sub rfl rfl rfl 3 (by decide +kernel) ⟨Nat.le_of_ble_eq_true rfl, Nat.le_of_ble_eq_true rfl⟩ rfl rfl S.2.1.o rfl hl.1 rfl (Nat.le_of_ble_eq_true rfl) dL_law_230 ⟨Nat.le_of_ble_eq_true rfl, Nat.le_of_ble_eq_true rfl⟩ (fun r1 f1 H locs hv1 hS => ?_)
  refine lv_aload_n hx hb dL_law_233 rfl (lv_at hl 1 rfl) ?_
  refine lv_aload_n hx hb dL_law_234 rfl (lv_at hl 3 rfl) ?_
  refine lv_iload_n hx hb dL_law_235 rfl (lv_at hl 0 rfl) ?_
  refine lv_iconst (v := 1) hx hb dL_law_236 (by decide) ?_
  refine lv_iadd hx hb dL_law_237 ?_
  refine va_sld hx hb hX hbl hbA hS.2.2.1 i1 dL_law_238 ?_
  refine lv_aload_n hx hb dL_law_239 rfl (lv_at hl 3 rfl) ?_
  refine lv_iload_n hx hb dL_law_240 rfl (lv_at hl 0 rfl) ?_
  refine lv_iconst (v := 2) hx hb dL_law_241 (by decide) ?_
  refine lv_iadd hx hb dL_law_242 ?_
  refine va_sld hx hb hX hbl hbA hS.2.2.1 i2 dL_law_243 ?_
  refine lv_aload_n hx hb dL_law_244 rfl (lv_at hl 3 rfl) ?_
  refine lv_iload_n hx hb dL_law_245 rfl (lv_at hl 0 rfl) ?_
  refine lv_iconst (v := 3) hx hb dL_law_246 (by decide) ?_
  refine lv_iadd hx hb dL_law_247 ?_
  refine va_sld hx hb hX hbl hbA hS.2.2.1 i3 dL_law_248 ?_
  refine fw_callVi hx hb hml hown hts hK hS [.int (xs (nI k + 1).toNatClampNeg), .int (xs (nI k + 2).toNatClampNeg), .int (xs (nI k + 3).toNatClampNeg)] [.int r1] (D5_sub S.1 (S.ref hv1.2)) gL_law_X5_sub rfl rfl rfl 3 (by decide +kernel) ⟨Nat.le_of_ble_eq_true rfl, Nat.le_of_ble_eq_true rfl⟩ rfl rfl (S.ref hv1.2).o rfl hl.1 rfl (Nat.le_of_ble_eq_true rfl) dL_law_249 ⟨Nat.le_of_ble_eq_true rfl, Nat.le_of_ble_eq_true rfl⟩ (fun r2 f2 H locs hv2 hS => ?_)
  exact lv_icmp_eq (tgt := 604) hx hb dL_law_252 (by decide) (fun _ => hnext _ _ f2 H locs (S.next S.1.asub hv1.2 hv2.2) hS) (fun c2 => absurd (hv1.1.trans hv2.1.symm) c2)
set_option maxRecDepth 100000 in
set_option maxHeartbeats 4000000 in
theorem lcase_mul {p : Program} {e : Env} {s : State} {m : MethodId} {below : List Frame} {meth : Method} {c : Code} {b L : Nat} {xs : Nat → Int32} {E : cx} (C : lwC p s m meth c b L xs E) {ad : Nat → Nat} {h ab as R wd k : Nat} {A : regs} {cf : Int × Nat} {f : hm} {ls : Array Slot} {H : Heap} {locs : List Loc} (S : lwS E ad h ab as R wd A cf f) (hl : lv_has ls 4 [(3, .int (nI k)), (2, .ref h), (1, .ref (ad 0)), (0, .ref b)]) (hS : wS E.2.1 vwCl (lwA s) s.heap f H locs) (hk : k + 4 ≤ L) (hnext : ∀ (A' : regs) (cf' : Int × Nat) (f' : hm) (H' : Heap) (locs' : List Loc), lwS E ad h ab as R wd A' cf' f' → wS E.2.1 vwCl (lwA s) s.heap f' H' locs' → W p E.1 e room_1 s m #[Value.ref b] below meth c H' locs' 98 1936 (lw_Z below #[Value.ref b] s) (F0 m 604 ls [])) : W p E.1 e room_1 s m #[Value.ref b] below meth c H locs 98 1936 (lw_Z below #[Value.ref b] s) (F0 m 257 ls []) := by
  obtain ⟨⟨hx, hb, hr, hml, hown, hts0, hX, hbl, hlocks, hgv⟩, hK, hL⟩ := C
  have hown : s.vm.findClass RL = some m.cls := hown
  have hts : ∀ w ∈ wsL_law, w.before #[Value.ref b] s = true := fun w h => hts0 w (law_in w h)
  have hbA : ¬ lwA s b := Nat.not_le.mpr hbl
  have i1 : vp_in (nI k + 1) L := by rw [show (1 : Int32) = nI 1 from rfl, nI_add]; exact vp_in_nI (by omega) (by omega)
  have i2 : vp_in (nI k + 2) L := by rw [show (2 : Int32) = nI 2 from rfl, nI_add]; exact vp_in_nI (by omega) (by omega)
  have i3 : vp_in (nI k + 3) L := by rw [show (3 : Int32) = nI 3 from rfl, nI_add]; exact vp_in_nI (by omega) (by omega)
  refine lv_aload_n hx hb dL_law_257 rfl (lv_at hl 2 rfl) ?_
  refine lv_aload_n hx hb dL_law_258 rfl (lv_at hl 3 rfl) ?_
  refine lv_iload_n hx hb dL_law_259 rfl (lv_at hl 0 rfl) ?_
  refine lv_iconst (v := 1) hx hb dL_law_260 (by decide) ?_
  refine lv_iadd hx hb dL_law_261 ?_
  refine va_sld hx hb hX hbl hbA hS.2.2.1 i1 dL_law_262 ?_
  refine lv_aload_n hx hb dL_law_263 rfl (lv_at hl 3 rfl) ?_
  refine lv_iload_n hx hb dL_law_264 rfl (lv_at hl 0 rfl) ?_
  refine lv_iconst (v := 2) hx hb dL_law_265 (by decide) ?_
  refine lv_iadd hx hb dL_law_266 ?_
  refine va_sld hx hb hX hbl hbA hS.2.2.1 i2 dL_law_267 ?_
  refine lv_aload_n hx hb dL_law_268 rfl (lv_at hl 3 rfl) ?_
  refine lv_iload_n hx hb dL_law_269 rfl (lv_at hl 0 rfl) ?_
  refine lv_iconst (v := 3) hx hb dL_law_270 (by decide) ?_
  refine lv_iadd hx hb dL_law_271 ?_
  refine va_sld hx hb hX hbl hbA hS.2.2.1 i3 dL_law_272 ?_
  refine fw_callVi hx hb hml hown hts hK hS [.int (xs (nI k + 1).toNatClampNeg), .int (xs (nI k + 2).toNatClampNeg), .int (xs (nI k + 3).toNatClampNeg)] [] (D4_mul S.1 S.2.1) gL_law_X4_mul rfl rfl rfl 3 (by decide +kernel) ⟨Nat.le_of_ble_eq_true rfl, Nat.le_of_ble_eq_true rfl⟩ rfl rfl S.2.1.o rfl hl.1 rfl (Nat.le_of_ble_eq_true rfl) dL_law_273 ⟨Nat.le_of_ble_eq_true rfl, Nat.le_of_ble_eq_true rfl⟩ (fun r1 f1 H locs hv1 hS => ?_)
  refine lv_aload_n hx hb dL_law_276 rfl (lv_at hl 1 rfl) ?_
  refine lv_aload_n hx hb dL_law_277 rfl (lv_at hl 3 rfl) ?_
  refine lv_iload_n hx hb dL_law_278 rfl (lv_at hl 0 rfl) ?_
  refine lv_iconst (v := 1) hx hb dL_law_279 (by decide) ?_
  refine lv_iadd hx hb dL_law_280 ?_
  refine va_sld hx hb hX hbl hbA hS.2.2.1 i1 dL_law_281 ?_
  refine lv_aload_n hx hb dL_law_282 rfl (lv_at hl 3 rfl) ?_
  refine lv_iload_n hx hb dL_law_283 rfl (lv_at hl 0 rfl) ?_
  refine lv_iconst (v := 2) hx hb dL_law_284 (by decide) ?_
  refine lv_iadd hx hb dL_law_285 ?_
  refine va_sld hx hb hX hbl hbA hS.2.2.1 i2 dL_law_286 ?_
  refine lv_aload_n hx hb dL_law_287 rfl (lv_at hl 3 rfl) ?_
  refine lv_iload_n hx hb dL_law_288 rfl (lv_at hl 0 rfl) ?_
  refine lv_iconst (v := 3) hx hb dL_law_289 (by decide) ?_
  refine lv_iadd hx hb dL_law_290 ?_
  refine va_sld hx hb hX hbl hbA hS.2.2.1 i3 dL_law_291 ?_
  refine fw_callVi hx hb hml hown hts hK hS [.int (xs (nI k + 1).toNatClampNeg), .int (xs (nI k + 2).toNatClampNeg), .int (xs (nI k + 3).toNatClampNeg)] [.int r1] (D5_mul S.1 (S.ref hv1.2)) gL_law_X5_mul rfl rfl rfl 3 (by decide +kernel) ⟨Nat.le_of_ble_eq_true rfl, Nat.le_of_ble_eq_true rfl⟩ rfl rfl (S.ref hv1.2).o rfl hl.1 rfl (Nat.le_of_ble_eq_true rfl) dL_law_292 ⟨Nat.le_of_ble_eq_true rfl, Nat.le_of_ble_eq_true rfl⟩ (fun r2 f2 H locs hv2 hS => ?_)
  exact lv_icmp_eq (tgt := 604) hx hb dL_law_295 (by decide) (fun _ => hnext _ _ f2 H locs (S.next S.1.amul hv1.2 hv2.2) hS) (fun c2 => absurd (hv1.1.trans hv2.1.symm) c2)
set_option maxRecDepth 100000 in
set_option maxHeartbeats 4000000 in
theorem lcase_div {p : Program} {e : Env} {s : State} {m : MethodId} {below : List Frame} {meth : Method} {c : Code} {b L : Nat} {xs : Nat → Int32} {E : cx} (C : lwC p s m meth c b L xs E) {ad : Nat → Nat} {h ab as R wd k : Nat} {A : regs} {cf : Int × Nat} {f : hm} {ls : Array Slot} {H : Heap} {locs : List Loc} (S : lwS E ad h ab as R wd A cf f) (hl : lv_has ls 4 [(3, .int (nI k)), (2, .ref h), (1, .ref (ad 0)), (0, .ref b)]) (hS : wS E.2.1 vwCl (lwA s) s.heap f H locs) (hk : k + 4 ≤ L) (hnext : ∀ (A' : regs) (cf' : Int × Nat) (f' : hm) (H' : Heap) (locs' : List Loc), lwS E ad h ab as R wd A' cf' f' → wS E.2.1 vwCl (lwA s) s.heap f' H' locs' → W p E.1 e room_1 s m #[Value.ref b] below meth c H' locs' 98 1936 (lw_Z below #[Value.ref b] s) (F0 m 604 ls [])) : W p E.1 e room_1 s m #[Value.ref b] below meth c H locs 98 1936 (lw_Z below #[Value.ref b] s) (F0 m 300 ls []) := by
  obtain ⟨⟨hx, hb, hr, hml, hown, hts0, hX, hbl, hlocks, hgv⟩, hK, hL⟩ := C
  have hown : s.vm.findClass RL = some m.cls := hown
  have hts : ∀ w ∈ wsL_law, w.before #[Value.ref b] s = true := fun w h => hts0 w (law_in w h)
  have hbA : ¬ lwA s b := Nat.not_le.mpr hbl
  have i1 : vp_in (nI k + 1) L := by rw [show (1 : Int32) = nI 1 from rfl, nI_add]; exact vp_in_nI (by omega) (by omega)
  have i2 : vp_in (nI k + 2) L := by rw [show (2 : Int32) = nI 2 from rfl, nI_add]; exact vp_in_nI (by omega) (by omega)
  have i3 : vp_in (nI k + 3) L := by rw [show (3 : Int32) = nI 3 from rfl, nI_add]; exact vp_in_nI (by omega) (by omega)
  refine lv_aload_n hx hb dL_law_300 rfl (lv_at hl 2 rfl) ?_
  refine lv_aload_n hx hb dL_law_301 rfl (lv_at hl 3 rfl) ?_
  refine lv_iload_n hx hb dL_law_302 rfl (lv_at hl 0 rfl) ?_
  refine lv_iconst (v := 1) hx hb dL_law_303 (by decide) ?_
  refine lv_iadd hx hb dL_law_304 ?_
  refine va_sld hx hb hX hbl hbA hS.2.2.1 i1 dL_law_305 ?_
  refine lv_aload_n hx hb dL_law_306 rfl (lv_at hl 3 rfl) ?_
  refine lv_iload_n hx hb dL_law_307 rfl (lv_at hl 0 rfl) ?_
  refine lv_iconst (v := 2) hx hb dL_law_308 (by decide) ?_
  refine lv_iadd hx hb dL_law_309 ?_
  refine va_sld hx hb hX hbl hbA hS.2.2.1 i2 dL_law_310 ?_
  refine lv_aload_n hx hb dL_law_311 rfl (lv_at hl 3 rfl) ?_
  refine lv_iload_n hx hb dL_law_312 rfl (lv_at hl 0 rfl) ?_
  refine lv_iconst (v := 3) hx hb dL_law_313 (by decide) ?_
  refine lv_iadd hx hb dL_law_314 ?_
  refine va_sld hx hb hX hbl hbA hS.2.2.1 i3 dL_law_315 ?_
  refine fw_callVi hx hb hml hown hts hK hS [.int (xs (nI k + 1).toNatClampNeg), .int (xs (nI k + 2).toNatClampNeg), .int (xs (nI k + 3).toNatClampNeg)] [] (D4_div S.1 S.2.1) gL_law_X4_div rfl rfl rfl 3 (by decide +kernel) ⟨Nat.le_of_ble_eq_true rfl, Nat.le_of_ble_eq_true rfl⟩ rfl rfl S.2.1.o rfl hl.1 rfl (Nat.le_of_ble_eq_true rfl) dL_law_316 ⟨Nat.le_of_ble_eq_true rfl, Nat.le_of_ble_eq_true rfl⟩ (fun r1 f1 H locs hv1 hS => ?_)
  refine lv_aload_n hx hb dL_law_319 rfl (lv_at hl 1 rfl) ?_
  refine lv_aload_n hx hb dL_law_320 rfl (lv_at hl 3 rfl) ?_
  refine lv_iload_n hx hb dL_law_321 rfl (lv_at hl 0 rfl) ?_
  refine lv_iconst (v := 1) hx hb dL_law_322 (by decide) ?_
  refine lv_iadd hx hb dL_law_323 ?_
  refine va_sld hx hb hX hbl hbA hS.2.2.1 i1 dL_law_324 ?_
  refine lv_aload_n hx hb dL_law_325 rfl (lv_at hl 3 rfl) ?_
  refine lv_iload_n hx hb dL_law_326 rfl (lv_at hl 0 rfl) ?_
  refine lv_iconst (v := 2) hx hb dL_law_327 (by decide) ?_
  refine lv_iadd hx hb dL_law_328 ?_
  refine va_sld hx hb hX hbl hbA hS.2.2.1 i2 dL_law_329 ?_
  refine lv_aload_n hx hb dL_law_330 rfl (lv_at hl 3 rfl) ?_
  refine lv_iload_n hx hb dL_law_331 rfl (lv_at hl 0 rfl) ?_
  refine lv_iconst (v := 3) hx hb dL_law_332 (by decide) ?_
  refine lv_iadd hx hb dL_law_333 ?_
  refine va_sld hx hb hX hbl hbA hS.2.2.1 i3 dL_law_334 ?_
  refine fw_callVi hx hb hml hown hts hK hS [.int (xs (nI k + 1).toNatClampNeg), .int (xs (nI k + 2).toNatClampNeg), .int (xs (nI k + 3).toNatClampNeg)] [.int r1] (D5_div S.1 (S.ref hv1.2)) gL_law_X5_div rfl rfl rfl 3 (by decide +kernel) ⟨Nat.le_of_ble_eq_true rfl, Nat.le_of_ble_eq_true rfl⟩ rfl rfl (S.ref hv1.2).o rfl hl.1 rfl (Nat.le_of_ble_eq_true rfl) dL_law_335 ⟨Nat.le_of_ble_eq_true rfl, Nat.le_of_ble_eq_true rfl⟩ (fun r2 f2 H locs hv2 hS => ?_)
  exact lv_icmp_eq (tgt := 604) hx hb dL_law_338 (by decide) (fun _ => hnext _ _ f2 H locs (S.next S.1.adiv hv1.2 hv2.2) hS) (fun c2 => absurd (hv1.1.trans hv2.1.symm) c2)
set_option maxRecDepth 100000 in
set_option maxHeartbeats 4000000 in
theorem lcase_cmp {p : Program} {e : Env} {s : State} {m : MethodId} {below : List Frame} {meth : Method} {c : Code} {b L : Nat} {xs : Nat → Int32} {E : cx} (C : lwC p s m meth c b L xs E) {ad : Nat → Nat} {h ab as R wd k : Nat} {A : regs} {cf : Int × Nat} {f : hm} {ls : Array Slot} {H : Heap} {locs : List Loc} (S : lwS E ad h ab as R wd A cf f) (hl : lv_has ls 4 [(3, .int (nI k)), (2, .ref h), (1, .ref (ad 0)), (0, .ref b)]) (hS : wS E.2.1 vwCl (lwA s) s.heap f H locs) (hk : k + 4 ≤ L) (hnext : ∀ (A' : regs) (cf' : Int × Nat) (f' : hm) (H' : Heap) (locs' : List Loc), lwS E ad h ab as R wd A' cf' f' → wS E.2.1 vwCl (lwA s) s.heap f' H' locs' → W p E.1 e room_1 s m #[Value.ref b] below meth c H' locs' 98 1936 (lw_Z below #[Value.ref b] s) (F0 m 604 ls [])) : W p E.1 e room_1 s m #[Value.ref b] below meth c H locs 98 1936 (lw_Z below #[Value.ref b] s) (F0 m 343 ls []) := by
  obtain ⟨⟨hx, hb, hr, hml, hown, hts0, hX, hbl, hlocks, hgv⟩, hK, hL⟩ := C
  have hown : s.vm.findClass RL = some m.cls := hown
  have hts : ∀ w ∈ wsL_law, w.before #[Value.ref b] s = true := fun w h => hts0 w (law_in w h)
  have hbA : ¬ lwA s b := Nat.not_le.mpr hbl
  have i1 : vp_in (nI k + 1) L := by rw [show (1 : Int32) = nI 1 from rfl, nI_add]; exact vp_in_nI (by omega) (by omega)
  have i2 : vp_in (nI k + 2) L := by rw [show (2 : Int32) = nI 2 from rfl, nI_add]; exact vp_in_nI (by omega) (by omega)
  have i3 : vp_in (nI k + 3) L := by rw [show (3 : Int32) = nI 3 from rfl, nI_add]; exact vp_in_nI (by omega) (by omega)
  refine lv_aload_n hx hb dL_law_343 rfl (lv_at hl 2 rfl) ?_
  refine lv_aload_n hx hb dL_law_344 rfl (lv_at hl 3 rfl) ?_
  refine lv_iload_n hx hb dL_law_345 rfl (lv_at hl 0 rfl) ?_
  refine lv_iconst (v := 1) hx hb dL_law_346 (by decide) ?_
  refine lv_iadd hx hb dL_law_347 ?_
  refine va_sld hx hb hX hbl hbA hS.2.2.1 i1 dL_law_348 ?_
  refine lv_aload_n hx hb dL_law_349 rfl (lv_at hl 3 rfl) ?_
  refine lv_iload_n hx hb dL_law_350 rfl (lv_at hl 0 rfl) ?_
  refine lv_iconst (v := 2) hx hb dL_law_351 (by decide) ?_
  refine lv_iadd hx hb dL_law_352 ?_
  refine va_sld hx hb hX hbl hbA hS.2.2.1 i2 dL_law_353 ?_
  refine fw_callVi hx hb hml hown hts hK hS [.int (xs (nI k + 1).toNatClampNeg), .int (xs (nI k + 2).toNatClampNeg)] [] (D4_cmp S.1 S.2.1) gL_law_X4_cmp rfl rfl rfl 2 (by decide +kernel) ⟨Nat.le_of_ble_eq_true rfl, Nat.le_of_ble_eq_true rfl⟩ rfl rfl S.2.1.o rfl hl.1 rfl (Nat.le_of_ble_eq_true rfl) dL_law_354 ⟨Nat.le_of_ble_eq_true rfl, Nat.le_of_ble_eq_true rfl⟩ (fun r1 f1 H locs hv1 hS => ?_)
  refine lv_aload_n hx hb dL_law_357 rfl (lv_at hl 1 rfl) ?_
  refine lv_aload_n hx hb dL_law_358 rfl (lv_at hl 3 rfl) ?_
  refine lv_iload_n hx hb dL_law_359 rfl (lv_at hl 0 rfl) ?_
  refine lv_iconst (v := 1) hx hb dL_law_360 (by decide) ?_
  refine lv_iadd hx hb dL_law_361 ?_
  refine va_sld hx hb hX hbl hbA hS.2.2.1 i1 dL_law_362 ?_
  refine lv_aload_n hx hb dL_law_363 rfl (lv_at hl 3 rfl) ?_
  refine lv_iload_n hx hb dL_law_364 rfl (lv_at hl 0 rfl) ?_
  refine lv_iconst (v := 2) hx hb dL_law_365 (by decide) ?_
  refine lv_iadd hx hb dL_law_366 ?_
  refine va_sld hx hb hX hbl hbA hS.2.2.1 i2 dL_law_367 ?_
  refine fw_callVi hx hb hml hown hts hK hS [.int (xs (nI k + 1).toNatClampNeg), .int (xs (nI k + 2).toNatClampNeg)] [.int r1] (D5_cmp S.1 (S.ref hv1.2)) gL_law_X5_cmp rfl rfl rfl 2 (by decide +kernel) ⟨Nat.le_of_ble_eq_true rfl, Nat.le_of_ble_eq_true rfl⟩ rfl rfl (S.ref hv1.2).o rfl hl.1 rfl (Nat.le_of_ble_eq_true rfl) dL_law_368 ⟨Nat.le_of_ble_eq_true rfl, Nat.le_of_ble_eq_true rfl⟩ (fun r2 f2 H locs hv2 hS => ?_)
  exact lv_icmp_eq (tgt := 604) hx hb dL_law_371 (by decide) (fun _ => hnext _ _ f2 H locs (S.next S.1 hv1.2 hv2.2) hS) (fun c2 => absurd (hv1.1.trans hv2.1.symm) c2)
set_option maxRecDepth 100000 in
set_option maxHeartbeats 4000000 in
theorem lcase_fits {p : Program} {e : Env} {s : State} {m : MethodId} {below : List Frame} {meth : Method} {c : Code} {b L : Nat} {xs : Nat → Int32} {E : cx} (C : lwC p s m meth c b L xs E) {ad : Nat → Nat} {h ab as R wd k : Nat} {A : regs} {cf : Int × Nat} {f : hm} {ls : Array Slot} {H : Heap} {locs : List Loc} (S : lwS E ad h ab as R wd A cf f) (hl : lv_has ls 4 [(3, .int (nI k)), (2, .ref h), (1, .ref (ad 0)), (0, .ref b)]) (hS : wS E.2.1 vwCl (lwA s) s.heap f H locs) (hk : k + 4 ≤ L) (hnext : ∀ (A' : regs) (cf' : Int × Nat) (f' : hm) (H' : Heap) (locs' : List Loc), lwS E ad h ab as R wd A' cf' f' → wS E.2.1 vwCl (lwA s) s.heap f' H' locs' → W p E.1 e room_1 s m #[Value.ref b] below meth c H' locs' 98 1936 (lw_Z below #[Value.ref b] s) (F0 m 604 ls [])) : W p E.1 e room_1 s m #[Value.ref b] below meth c H locs 98 1936 (lw_Z below #[Value.ref b] s) (F0 m 376 ls []) := by
  obtain ⟨⟨hx, hb, hr, hml, hown, hts0, hX, hbl, hlocks, hgv⟩, hK, hL⟩ := C
  have hown : s.vm.findClass RL = some m.cls := hown
  have hts : ∀ w ∈ wsL_law, w.before #[Value.ref b] s = true := fun w h => hts0 w (law_in w h)
  have hbA : ¬ lwA s b := Nat.not_le.mpr hbl
  have i1 : vp_in (nI k + 1) L := by rw [show (1 : Int32) = nI 1 from rfl, nI_add]; exact vp_in_nI (by omega) (by omega)
  have i2 : vp_in (nI k + 2) L := by rw [show (2 : Int32) = nI 2 from rfl, nI_add]; exact vp_in_nI (by omega) (by omega)
  have i3 : vp_in (nI k + 3) L := by rw [show (3 : Int32) = nI 3 from rfl, nI_add]; exact vp_in_nI (by omega) (by omega)
  refine lv_aload_n hx hb dL_law_376 rfl (lv_at hl 2 rfl) ?_
  refine lv_aload_n hx hb dL_law_377 rfl (lv_at hl 3 rfl) ?_
  refine lv_iload_n hx hb dL_law_378 rfl (lv_at hl 0 rfl) ?_
  refine lv_iconst (v := 1) hx hb dL_law_379 (by decide) ?_
  refine lv_iadd hx hb dL_law_380 ?_
  refine va_sld hx hb hX hbl hbA hS.2.2.1 i1 dL_law_381 ?_
  refine fw_callVi hx hb hml hown hts hK hS [.int (xs (nI k + 1).toNatClampNeg)] [] (D4_fits S.1 S.2.1) gL_law_X4_fits rfl rfl rfl 1 (by decide +kernel) ⟨Nat.le_of_ble_eq_true rfl, Nat.le_of_ble_eq_true rfl⟩ rfl rfl S.2.1.o rfl hl.1 rfl (Nat.le_of_ble_eq_true rfl) dL_law_382 ⟨Nat.le_of_ble_eq_true rfl, Nat.le_of_ble_eq_true rfl⟩ (fun r1 f1 H locs hv1 hS => ?_)
  refine lv_aload_n hx hb dL_law_385 rfl (lv_at hl 1 rfl) ?_
  refine lv_aload_n hx hb dL_law_386 rfl (lv_at hl 3 rfl) ?_
  refine lv_iload_n hx hb dL_law_387 rfl (lv_at hl 0 rfl) ?_
  refine lv_iconst (v := 1) hx hb dL_law_388 (by decide) ?_
  refine lv_iadd hx hb dL_law_389 ?_
  refine va_sld hx hb hX hbl hbA hS.2.2.1 i1 dL_law_390 ?_
  refine fw_callVi hx hb hml hown hts hK hS [.int (xs (nI k + 1).toNatClampNeg)] [.int r1] (D5_fits S.1 (S.ref hv1.2)) gL_law_X5_fits rfl rfl rfl 1 (by decide +kernel) ⟨Nat.le_of_ble_eq_true rfl, Nat.le_of_ble_eq_true rfl⟩ rfl rfl (S.ref hv1.2).o rfl hl.1 rfl (Nat.le_of_ble_eq_true rfl) dL_law_391 ⟨Nat.le_of_ble_eq_true rfl, Nat.le_of_ble_eq_true rfl⟩ (fun r2 f2 H locs hv2 hS => ?_)
  exact lv_icmp_eq (tgt := 604) hx hb dL_law_394 (by decide) (fun _ => hnext _ _ f2 H locs (S.next S.1 hv1.2 hv2.2) hS) (fun c2 => absurd (hv1.1.trans hv2.1.symm) c2)
set_option maxRecDepth 100000 in
set_option maxHeartbeats 4000000 in
theorem lcase_floorSmall {p : Program} {e : Env} {s : State} {m : MethodId} {below : List Frame} {meth : Method} {c : Code} {b L : Nat} {xs : Nat → Int32} {E : cx} (C : lwC p s m meth c b L xs E) {ad : Nat → Nat} {h ab as R wd k : Nat} {A : regs} {cf : Int × Nat} {f : hm} {ls : Array Slot} {H : Heap} {locs : List Loc} (S : lwS E ad h ab as R wd A cf f) (hl : lv_has ls 4 [(3, .int (nI k)), (2, .ref h), (1, .ref (ad 0)), (0, .ref b)]) (hS : wS E.2.1 vwCl (lwA s) s.heap f H locs) (hk : k + 4 ≤ L) (hnext : ∀ (A' : regs) (cf' : Int × Nat) (f' : hm) (H' : Heap) (locs' : List Loc), lwS E ad h ab as R wd A' cf' f' → wS E.2.1 vwCl (lwA s) s.heap f' H' locs' → W p E.1 e room_1 s m #[Value.ref b] below meth c H' locs' 98 1936 (lw_Z below #[Value.ref b] s) (F0 m 604 ls [])) : W p E.1 e room_1 s m #[Value.ref b] below meth c H locs 98 1936 (lw_Z below #[Value.ref b] s) (F0 m 399 ls []) := by
  obtain ⟨⟨hx, hb, hr, hml, hown, hts0, hX, hbl, hlocks, hgv⟩, hK, hL⟩ := C
  have hown : s.vm.findClass RL = some m.cls := hown
  have hts : ∀ w ∈ wsL_law, w.before #[Value.ref b] s = true := fun w h => hts0 w (law_in w h)
  have hbA : ¬ lwA s b := Nat.not_le.mpr hbl
  have i1 : vp_in (nI k + 1) L := by rw [show (1 : Int32) = nI 1 from rfl, nI_add]; exact vp_in_nI (by omega) (by omega)
  have i2 : vp_in (nI k + 2) L := by rw [show (2 : Int32) = nI 2 from rfl, nI_add]; exact vp_in_nI (by omega) (by omega)
  have i3 : vp_in (nI k + 3) L := by rw [show (3 : Int32) = nI 3 from rfl, nI_add]; exact vp_in_nI (by omega) (by omega)
  refine lv_aload_n hx hb dL_law_399 rfl (lv_at hl 2 rfl) ?_
  refine lv_aload_n hx hb dL_law_400 rfl (lv_at hl 3 rfl) ?_
  refine lv_iload_n hx hb dL_law_401 rfl (lv_at hl 0 rfl) ?_
  refine lv_iconst (v := 1) hx hb dL_law_402 (by decide) ?_
  refine lv_iadd hx hb dL_law_403 ?_
  refine va_sld hx hb hX hbl hbA hS.2.2.1 i1 dL_law_404 ?_
  refine fw_callVi hx hb hml hown hts hK hS [.int (xs (nI k + 1).toNatClampNeg)] [] (D4_floorSmall S.1 S.2.1) gL_law_X4_floorSmall rfl rfl rfl 1 (by decide +kernel) ⟨Nat.le_of_ble_eq_true rfl, Nat.le_of_ble_eq_true rfl⟩ rfl rfl S.2.1.o rfl hl.1 rfl (Nat.le_of_ble_eq_true rfl) dL_law_405 ⟨Nat.le_of_ble_eq_true rfl, Nat.le_of_ble_eq_true rfl⟩ (fun r1 f1 H locs hv1 hS => ?_)
  refine lv_aload_n hx hb dL_law_408 rfl (lv_at hl 1 rfl) ?_
  refine lv_aload_n hx hb dL_law_409 rfl (lv_at hl 3 rfl) ?_
  refine lv_iload_n hx hb dL_law_410 rfl (lv_at hl 0 rfl) ?_
  refine lv_iconst (v := 1) hx hb dL_law_411 (by decide) ?_
  refine lv_iadd hx hb dL_law_412 ?_
  refine va_sld hx hb hX hbl hbA hS.2.2.1 i1 dL_law_413 ?_
  refine fw_callVi hx hb hml hown hts hK hS [.int (xs (nI k + 1).toNatClampNeg)] [.int r1] (D5_floorSmall S.1 (S.ref hv1.2)) gL_law_X5_floorSmall rfl rfl rfl 1 (by decide +kernel) ⟨Nat.le_of_ble_eq_true rfl, Nat.le_of_ble_eq_true rfl⟩ rfl rfl (S.ref hv1.2).o rfl hl.1 rfl (Nat.le_of_ble_eq_true rfl) dL_law_414 ⟨Nat.le_of_ble_eq_true rfl, Nat.le_of_ble_eq_true rfl⟩ (fun r2 f2 H locs hv2 hS => ?_)
  exact lv_icmp_eq (tgt := 604) hx hb dL_law_417 (by decide) (fun _ => hnext _ _ f2 H locs (S.next S.1 hv1.2 hv2.2) hS) (fun c2 => absurd (hv1.1.trans hv2.1.symm) c2)
set_option maxRecDepth 100000 in
set_option maxHeartbeats 4000000 in
theorem lcase_cfStart {p : Program} {e : Env} {s : State} {m : MethodId} {below : List Frame} {meth : Method} {c : Code} {b L : Nat} {xs : Nat → Int32} {E : cx} (C : lwC p s m meth c b L xs E) {ad : Nat → Nat} {h ab as R wd k : Nat} {A : regs} {cf : Int × Nat} {f : hm} {ls : Array Slot} {H : Heap} {locs : List Loc} (S : lwS E ad h ab as R wd A cf f) (hl : lv_has ls 4 [(3, .int (nI k)), (2, .ref h), (1, .ref (ad 0)), (0, .ref b)]) (hS : wS E.2.1 vwCl (lwA s) s.heap f H locs) (hk : k + 4 ≤ L) (hnext : ∀ (A' : regs) (cf' : Int × Nat) (f' : hm) (H' : Heap) (locs' : List Loc), lwS E ad h ab as R wd A' cf' f' → wS E.2.1 vwCl (lwA s) s.heap f' H' locs' → W p E.1 e room_1 s m #[Value.ref b] below meth c H' locs' 98 1936 (lw_Z below #[Value.ref b] s) (F0 m 604 ls [])) : W p E.1 e room_1 s m #[Value.ref b] below meth c H locs 98 1936 (lw_Z below #[Value.ref b] s) (F0 m 422 ls []) := by
  obtain ⟨⟨hx, hb, hr, hml, hown, hts0, hX, hbl, hlocks, hgv⟩, hK, hL⟩ := C
  have hown : s.vm.findClass RL = some m.cls := hown
  have hts : ∀ w ∈ wsL_law, w.before #[Value.ref b] s = true := fun w h => hts0 w (law_in w h)
  have hbA : ¬ lwA s b := Nat.not_le.mpr hbl
  have i1 : vp_in (nI k + 1) L := by rw [show (1 : Int32) = nI 1 from rfl, nI_add]; exact vp_in_nI (by omega) (by omega)
  have i2 : vp_in (nI k + 2) L := by rw [show (2 : Int32) = nI 2 from rfl, nI_add]; exact vp_in_nI (by omega) (by omega)
  have i3 : vp_in (nI k + 3) L := by rw [show (3 : Int32) = nI 3 from rfl, nI_add]; exact vp_in_nI (by omega) (by omega)
  refine lv_aload_n hx hb dL_law_422 rfl (lv_at hl 2 rfl) ?_
  refine lv_aload_n hx hb dL_law_423 rfl (lv_at hl 3 rfl) ?_
  refine lv_iload_n hx hb dL_law_424 rfl (lv_at hl 0 rfl) ?_
  refine lv_iconst (v := 1) hx hb dL_law_425 (by decide) ?_
  refine lv_iadd hx hb dL_law_426 ?_
  refine va_sld hx hb hX hbl hbA hS.2.2.1 i1 dL_law_427 ?_
  refine fw_callVi hx hb hml hown hts hK hS [.int (xs (nI k + 1).toNatClampNeg)] [] (D4_cfStart S.1 S.2.1) gL_law_X4_cfStart rfl rfl rfl 1 (by decide +kernel) ⟨Nat.le_of_ble_eq_true rfl, Nat.le_of_ble_eq_true rfl⟩ rfl rfl S.2.1.o rfl hl.1 rfl (Nat.le_of_ble_eq_true rfl) dL_law_428 ⟨Nat.le_of_ble_eq_true rfl, Nat.le_of_ble_eq_true rfl⟩ (fun r1 f1 H locs hv1 hS => ?_)
  refine lv_aload_n hx hb dL_law_431 rfl (lv_at hl 1 rfl) ?_
  refine lv_aload_n hx hb dL_law_432 rfl (lv_at hl 3 rfl) ?_
  refine lv_iload_n hx hb dL_law_433 rfl (lv_at hl 0 rfl) ?_
  refine lv_iconst (v := 1) hx hb dL_law_434 (by decide) ?_
  refine lv_iadd hx hb dL_law_435 ?_
  refine va_sld hx hb hX hbl hbA hS.2.2.1 i1 dL_law_436 ?_
  refine fw_callVi hx hb hml hown hts hK hS [.int (xs (nI k + 1).toNatClampNeg)] [.int r1] (D5_cfStart S.1 (S.ref hv1.2)) gL_law_X5_cfStart rfl rfl rfl 1 (by decide +kernel) ⟨Nat.le_of_ble_eq_true rfl, Nat.le_of_ble_eq_true rfl⟩ rfl rfl (S.ref hv1.2).o rfl hl.1 rfl (Nat.le_of_ble_eq_true rfl) dL_law_437 ⟨Nat.le_of_ble_eq_true rfl, Nat.le_of_ble_eq_true rfl⟩ (fun r2 f2 H locs hv2 hS => ?_)
  exact lv_icmp_eq (tgt := 604) hx hb dL_law_440 (by decide) (fun _ => hnext _ _ f2 H locs (S.next S.1.acfs hv1.2 hv2.2) hS) (fun c2 => absurd (hv1.1.trans hv2.1.symm) c2)
set_option maxRecDepth 100000 in
set_option maxHeartbeats 4000000 in
theorem lcase_cfNext {p : Program} {e : Env} {s : State} {m : MethodId} {below : List Frame} {meth : Method} {c : Code} {b L : Nat} {xs : Nat → Int32} {E : cx} (C : lwC p s m meth c b L xs E) {ad : Nat → Nat} {h ab as R wd k : Nat} {A : regs} {cf : Int × Nat} {f : hm} {ls : Array Slot} {H : Heap} {locs : List Loc} (S : lwS E ad h ab as R wd A cf f) (hl : lv_has ls 4 [(3, .int (nI k)), (2, .ref h), (1, .ref (ad 0)), (0, .ref b)]) (hS : wS E.2.1 vwCl (lwA s) s.heap f H locs) (hk : k + 4 ≤ L) (hnext : ∀ (A' : regs) (cf' : Int × Nat) (f' : hm) (H' : Heap) (locs' : List Loc), lwS E ad h ab as R wd A' cf' f' → wS E.2.1 vwCl (lwA s) s.heap f' H' locs' → W p E.1 e room_1 s m #[Value.ref b] below meth c H' locs' 98 1936 (lw_Z below #[Value.ref b] s) (F0 m 604 ls [])) : W p E.1 e room_1 s m #[Value.ref b] below meth c H locs 98 1936 (lw_Z below #[Value.ref b] s) (F0 m 445 ls []) := by
  obtain ⟨⟨hx, hb, hr, hml, hown, hts0, hX, hbl, hlocks, hgv⟩, hK, hL⟩ := C
  have hown : s.vm.findClass RL = some m.cls := hown
  have hts : ∀ w ∈ wsL_law, w.before #[Value.ref b] s = true := fun w h => hts0 w (law_in w h)
  have hbA : ¬ lwA s b := Nat.not_le.mpr hbl
  have i1 : vp_in (nI k + 1) L := by rw [show (1 : Int32) = nI 1 from rfl, nI_add]; exact vp_in_nI (by omega) (by omega)
  have i2 : vp_in (nI k + 2) L := by rw [show (2 : Int32) = nI 2 from rfl, nI_add]; exact vp_in_nI (by omega) (by omega)
  have i3 : vp_in (nI k + 3) L := by rw [show (3 : Int32) = nI 3 from rfl, nI_add]; exact vp_in_nI (by omega) (by omega)
  refine lv_aload_n hx hb dL_law_445 rfl (lv_at hl 2 rfl) ?_
  refine fw_callVi hx hb hml hown hts hK hS [] [] (D4_cfNext S.1 S.2.1) gL_law_X4_cfNext rfl rfl rfl 0 (by decide +kernel) ⟨Nat.le_of_ble_eq_true rfl, Nat.le_of_ble_eq_true rfl⟩ rfl rfl S.2.1.o rfl hl.1 rfl (Nat.le_of_ble_eq_true rfl) dL_law_446 ⟨Nat.le_of_ble_eq_true rfl, Nat.le_of_ble_eq_true rfl⟩ (fun r1 f1 H locs hv1 hS => ?_)
  refine lv_aload_n hx hb dL_law_449 rfl (lv_at hl 1 rfl) ?_
  refine fw_callVi hx hb hml hown hts hK hS [] [.int r1] (D5_cfNext S.1 (S.ref hv1.2)) gL_law_X5_cfNext rfl rfl rfl 0 (by decide +kernel) ⟨Nat.le_of_ble_eq_true rfl, Nat.le_of_ble_eq_true rfl⟩ rfl rfl (S.ref hv1.2).o rfl hl.1 rfl (Nat.le_of_ble_eq_true rfl) dL_law_450 ⟨Nat.le_of_ble_eq_true rfl, Nat.le_of_ble_eq_true rfl⟩ (fun r2 f2 H locs hv2 hS => ?_)
  exact lv_icmp_eq (tgt := 604) hx hb dL_law_453 (by decide) (fun _ => hnext _ _ f2 H locs (S.next S.1.acfn hv1.2 hv2.2) hS) (fun c2 => absurd (hv1.1.trans hv2.1.symm) c2)
set_option maxRecDepth 100000 in
set_option maxHeartbeats 4000000 in
theorem lcase_cfDone {p : Program} {e : Env} {s : State} {m : MethodId} {below : List Frame} {meth : Method} {c : Code} {b L : Nat} {xs : Nat → Int32} {E : cx} (C : lwC p s m meth c b L xs E) {ad : Nat → Nat} {h ab as R wd k : Nat} {A : regs} {cf : Int × Nat} {f : hm} {ls : Array Slot} {H : Heap} {locs : List Loc} (S : lwS E ad h ab as R wd A cf f) (hl : lv_has ls 4 [(3, .int (nI k)), (2, .ref h), (1, .ref (ad 0)), (0, .ref b)]) (hS : wS E.2.1 vwCl (lwA s) s.heap f H locs) (hk : k + 4 ≤ L) (hnext : ∀ (A' : regs) (cf' : Int × Nat) (f' : hm) (H' : Heap) (locs' : List Loc), lwS E ad h ab as R wd A' cf' f' → wS E.2.1 vwCl (lwA s) s.heap f' H' locs' → W p E.1 e room_1 s m #[Value.ref b] below meth c H' locs' 98 1936 (lw_Z below #[Value.ref b] s) (F0 m 604 ls [])) : W p E.1 e room_1 s m #[Value.ref b] below meth c H locs 98 1936 (lw_Z below #[Value.ref b] s) (F0 m 458 ls []) := by
  obtain ⟨⟨hx, hb, hr, hml, hown, hts0, hX, hbl, hlocks, hgv⟩, hK, hL⟩ := C
  have hown : s.vm.findClass RL = some m.cls := hown
  have hts : ∀ w ∈ wsL_law, w.before #[Value.ref b] s = true := fun w h => hts0 w (law_in w h)
  have hbA : ¬ lwA s b := Nat.not_le.mpr hbl
  have i1 : vp_in (nI k + 1) L := by rw [show (1 : Int32) = nI 1 from rfl, nI_add]; exact vp_in_nI (by omega) (by omega)
  have i2 : vp_in (nI k + 2) L := by rw [show (2 : Int32) = nI 2 from rfl, nI_add]; exact vp_in_nI (by omega) (by omega)
  have i3 : vp_in (nI k + 3) L := by rw [show (3 : Int32) = nI 3 from rfl, nI_add]; exact vp_in_nI (by omega) (by omega)
  refine lv_aload_n hx hb dL_law_458 rfl (lv_at hl 2 rfl) ?_
  refine fw_callVi hx hb hml hown hts hK hS [] [] (D4_cfDone S.1 S.2.1) gL_law_X4_cfDone rfl rfl rfl 0 (by decide +kernel) ⟨Nat.le_of_ble_eq_true rfl, Nat.le_of_ble_eq_true rfl⟩ rfl rfl S.2.1.o rfl hl.1 rfl (Nat.le_of_ble_eq_true rfl) dL_law_459 ⟨Nat.le_of_ble_eq_true rfl, Nat.le_of_ble_eq_true rfl⟩ (fun r1 f1 H locs hv1 hS => ?_)
  refine lv_aload_n hx hb dL_law_462 rfl (lv_at hl 1 rfl) ?_
  refine fw_callVi hx hb hml hown hts hK hS [] [.int r1] (D5_cfDone (S.ref hv1.2)) gL_law_X5_cfDone rfl rfl rfl 0 (by decide +kernel) ⟨Nat.le_of_ble_eq_true rfl, Nat.le_of_ble_eq_true rfl⟩ rfl rfl (S.ref hv1.2).o rfl hl.1 rfl (Nat.le_of_ble_eq_true rfl) dL_law_463 ⟨Nat.le_of_ble_eq_true rfl, Nat.le_of_ble_eq_true rfl⟩ (fun r2 f2 H locs hv2 hS => ?_)
  exact lv_icmp_eq (tgt := 604) hx hb dL_law_466 (by decide) (fun _ => hnext _ _ f2 H locs (S.next S.1 hv1.2 hv2.2) hS) (fun c2 => absurd (hv1.1.trans hv2.1.symm) c2)
set_option maxRecDepth 100000 in
set_option maxHeartbeats 4000000 in
theorem lcase_numLimb {p : Program} {e : Env} {s : State} {m : MethodId} {below : List Frame} {meth : Method} {c : Code} {b L : Nat} {xs : Nat → Int32} {E : cx} (C : lwC p s m meth c b L xs E) {ad : Nat → Nat} {h ab as R wd k : Nat} {A : regs} {cf : Int × Nat} {f : hm} {ls : Array Slot} {H : Heap} {locs : List Loc} (S : lwS E ad h ab as R wd A cf f) (hl : lv_has ls 4 [(3, .int (nI k)), (2, .ref h), (1, .ref (ad 0)), (0, .ref b)]) (hS : wS E.2.1 vwCl (lwA s) s.heap f H locs) (hk : k + 4 ≤ L) (hnext : ∀ (A' : regs) (cf' : Int × Nat) (f' : hm) (H' : Heap) (locs' : List Loc), lwS E ad h ab as R wd A' cf' f' → wS E.2.1 vwCl (lwA s) s.heap f' H' locs' → W p E.1 e room_1 s m #[Value.ref b] below meth c H' locs' 98 1936 (lw_Z below #[Value.ref b] s) (F0 m 604 ls [])) : W p E.1 e room_1 s m #[Value.ref b] below meth c H locs 98 1936 (lw_Z below #[Value.ref b] s) (F0 m 471 ls []) := by
  obtain ⟨⟨hx, hb, hr, hml, hown, hts0, hX, hbl, hlocks, hgv⟩, hK, hL⟩ := C
  have hown : s.vm.findClass RL = some m.cls := hown
  have hts : ∀ w ∈ wsL_law, w.before #[Value.ref b] s = true := fun w h => hts0 w (law_in w h)
  have hbA : ¬ lwA s b := Nat.not_le.mpr hbl
  have i1 : vp_in (nI k + 1) L := by rw [show (1 : Int32) = nI 1 from rfl, nI_add]; exact vp_in_nI (by omega) (by omega)
  have i2 : vp_in (nI k + 2) L := by rw [show (2 : Int32) = nI 2 from rfl, nI_add]; exact vp_in_nI (by omega) (by omega)
  have i3 : vp_in (nI k + 3) L := by rw [show (3 : Int32) = nI 3 from rfl, nI_add]; exact vp_in_nI (by omega) (by omega)
  refine lv_aload_n hx hb dL_law_471 rfl (lv_at hl 2 rfl) ?_
  refine lv_aload_n hx hb dL_law_472 rfl (lv_at hl 3 rfl) ?_
  refine lv_iload_n hx hb dL_law_473 rfl (lv_at hl 0 rfl) ?_
  refine lv_iconst (v := 1) hx hb dL_law_474 (by decide) ?_
  refine lv_iadd hx hb dL_law_475 ?_
  refine va_sld hx hb hX hbl hbA hS.2.2.1 i1 dL_law_476 ?_
  refine lv_aload_n hx hb dL_law_477 rfl (lv_at hl 3 rfl) ?_
  refine lv_iload_n hx hb dL_law_478 rfl (lv_at hl 0 rfl) ?_
  refine lv_iconst (v := 2) hx hb dL_law_479 (by decide) ?_
  refine lv_iadd hx hb dL_law_480 ?_
  refine va_sld hx hb hX hbl hbA hS.2.2.1 i2 dL_law_481 ?_
  refine fw_callVi hx hb hml hown hts hK hS [.int (xs (nI k + 1).toNatClampNeg), .int (xs (nI k + 2).toNatClampNeg)] [] (D4_numLimb S.1 S.2.1) gL_law_X4_numLimb rfl rfl rfl 2 (by decide +kernel) ⟨Nat.le_of_ble_eq_true rfl, Nat.le_of_ble_eq_true rfl⟩ rfl rfl S.2.1.o rfl hl.1 rfl (Nat.le_of_ble_eq_true rfl) dL_law_482 ⟨Nat.le_of_ble_eq_true rfl, Nat.le_of_ble_eq_true rfl⟩ (fun r1 f1 H locs hv1 hS => ?_)
  refine lv_aload_n hx hb dL_law_485 rfl (lv_at hl 1 rfl) ?_
  refine lv_aload_n hx hb dL_law_486 rfl (lv_at hl 3 rfl) ?_
  refine lv_iload_n hx hb dL_law_487 rfl (lv_at hl 0 rfl) ?_
  refine lv_iconst (v := 1) hx hb dL_law_488 (by decide) ?_
  refine lv_iadd hx hb dL_law_489 ?_
  refine va_sld hx hb hX hbl hbA hS.2.2.1 i1 dL_law_490 ?_
  refine lv_aload_n hx hb dL_law_491 rfl (lv_at hl 3 rfl) ?_
  refine lv_iload_n hx hb dL_law_492 rfl (lv_at hl 0 rfl) ?_
  refine lv_iconst (v := 2) hx hb dL_law_493 (by decide) ?_
  refine lv_iadd hx hb dL_law_494 ?_
  refine va_sld hx hb hX hbl hbA hS.2.2.1 i2 dL_law_495 ?_
  refine fw_callVi hx hb hml hown hts hK hS [.int (xs (nI k + 1).toNatClampNeg), .int (xs (nI k + 2).toNatClampNeg)] [.int r1] (D5_numLimb S.1 (S.ref hv1.2)) gL_law_X5_numLimb rfl rfl rfl 2 (by decide +kernel) ⟨Nat.le_of_ble_eq_true rfl, Nat.le_of_ble_eq_true rfl⟩ rfl rfl (S.ref hv1.2).o rfl hl.1 rfl (Nat.le_of_ble_eq_true rfl) dL_law_496 ⟨Nat.le_of_ble_eq_true rfl, Nat.le_of_ble_eq_true rfl⟩ (fun r2 f2 H locs hv2 hS => ?_)
  exact lv_icmp_eq (tgt := 604) hx hb dL_law_499 (by decide) (fun _ => hnext _ _ f2 H locs (S.next S.1 hv1.2 hv2.2) hS) (fun c2 => absurd (hv1.1.trans hv2.1.symm) c2)
set_option maxRecDepth 100000 in
set_option maxHeartbeats 4000000 in
theorem lcase_denLimb {p : Program} {e : Env} {s : State} {m : MethodId} {below : List Frame} {meth : Method} {c : Code} {b L : Nat} {xs : Nat → Int32} {E : cx} (C : lwC p s m meth c b L xs E) {ad : Nat → Nat} {h ab as R wd k : Nat} {A : regs} {cf : Int × Nat} {f : hm} {ls : Array Slot} {H : Heap} {locs : List Loc} (S : lwS E ad h ab as R wd A cf f) (hl : lv_has ls 4 [(3, .int (nI k)), (2, .ref h), (1, .ref (ad 0)), (0, .ref b)]) (hS : wS E.2.1 vwCl (lwA s) s.heap f H locs) (hk : k + 4 ≤ L) (hnext : ∀ (A' : regs) (cf' : Int × Nat) (f' : hm) (H' : Heap) (locs' : List Loc), lwS E ad h ab as R wd A' cf' f' → wS E.2.1 vwCl (lwA s) s.heap f' H' locs' → W p E.1 e room_1 s m #[Value.ref b] below meth c H' locs' 98 1936 (lw_Z below #[Value.ref b] s) (F0 m 604 ls [])) : W p E.1 e room_1 s m #[Value.ref b] below meth c H locs 98 1936 (lw_Z below #[Value.ref b] s) (F0 m 504 ls []) := by
  obtain ⟨⟨hx, hb, hr, hml, hown, hts0, hX, hbl, hlocks, hgv⟩, hK, hL⟩ := C
  have hown : s.vm.findClass RL = some m.cls := hown
  have hts : ∀ w ∈ wsL_law, w.before #[Value.ref b] s = true := fun w h => hts0 w (law_in w h)
  have hbA : ¬ lwA s b := Nat.not_le.mpr hbl
  have i1 : vp_in (nI k + 1) L := by rw [show (1 : Int32) = nI 1 from rfl, nI_add]; exact vp_in_nI (by omega) (by omega)
  have i2 : vp_in (nI k + 2) L := by rw [show (2 : Int32) = nI 2 from rfl, nI_add]; exact vp_in_nI (by omega) (by omega)
  have i3 : vp_in (nI k + 3) L := by rw [show (3 : Int32) = nI 3 from rfl, nI_add]; exact vp_in_nI (by omega) (by omega)
  refine lv_aload_n hx hb dL_law_504 rfl (lv_at hl 2 rfl) ?_
  refine lv_aload_n hx hb dL_law_505 rfl (lv_at hl 3 rfl) ?_
  refine lv_iload_n hx hb dL_law_506 rfl (lv_at hl 0 rfl) ?_
  refine lv_iconst (v := 1) hx hb dL_law_507 (by decide) ?_
  refine lv_iadd hx hb dL_law_508 ?_
  refine va_sld hx hb hX hbl hbA hS.2.2.1 i1 dL_law_509 ?_
  refine lv_aload_n hx hb dL_law_510 rfl (lv_at hl 3 rfl) ?_
  refine lv_iload_n hx hb dL_law_511 rfl (lv_at hl 0 rfl) ?_
  refine lv_iconst (v := 2) hx hb dL_law_512 (by decide) ?_
  refine lv_iadd hx hb dL_law_513 ?_
  refine va_sld hx hb hX hbl hbA hS.2.2.1 i2 dL_law_514 ?_
  refine fw_callVi hx hb hml hown hts hK hS [.int (xs (nI k + 1).toNatClampNeg), .int (xs (nI k + 2).toNatClampNeg)] [] (D4_denLimb S.1 S.2.1) gL_law_X4_denLimb rfl rfl rfl 2 (by decide +kernel) ⟨Nat.le_of_ble_eq_true rfl, Nat.le_of_ble_eq_true rfl⟩ rfl rfl S.2.1.o rfl hl.1 rfl (Nat.le_of_ble_eq_true rfl) dL_law_515 ⟨Nat.le_of_ble_eq_true rfl, Nat.le_of_ble_eq_true rfl⟩ (fun r1 f1 H locs hv1 hS => ?_)
  refine lv_aload_n hx hb dL_law_518 rfl (lv_at hl 1 rfl) ?_
  refine lv_aload_n hx hb dL_law_519 rfl (lv_at hl 3 rfl) ?_
  refine lv_iload_n hx hb dL_law_520 rfl (lv_at hl 0 rfl) ?_
  refine lv_iconst (v := 1) hx hb dL_law_521 (by decide) ?_
  refine lv_iadd hx hb dL_law_522 ?_
  refine va_sld hx hb hX hbl hbA hS.2.2.1 i1 dL_law_523 ?_
  refine lv_aload_n hx hb dL_law_524 rfl (lv_at hl 3 rfl) ?_
  refine lv_iload_n hx hb dL_law_525 rfl (lv_at hl 0 rfl) ?_
  refine lv_iconst (v := 2) hx hb dL_law_526 (by decide) ?_
  refine lv_iadd hx hb dL_law_527 ?_
  refine va_sld hx hb hX hbl hbA hS.2.2.1 i2 dL_law_528 ?_
  refine fw_callVi hx hb hml hown hts hK hS [.int (xs (nI k + 1).toNatClampNeg), .int (xs (nI k + 2).toNatClampNeg)] [.int r1] (D5_denLimb S.1 (S.ref hv1.2)) gL_law_X5_denLimb rfl rfl rfl 2 (by decide +kernel) ⟨Nat.le_of_ble_eq_true rfl, Nat.le_of_ble_eq_true rfl⟩ rfl rfl (S.ref hv1.2).o rfl hl.1 rfl (Nat.le_of_ble_eq_true rfl) dL_law_529 ⟨Nat.le_of_ble_eq_true rfl, Nat.le_of_ble_eq_true rfl⟩ (fun r2 f2 H locs hv2 hS => ?_)
  exact lv_icmp_eq (tgt := 604) hx hb dL_law_532 (by decide) (fun _ => hnext _ _ f2 H locs (S.next S.1 hv1.2 hv2.2) hS) (fun c2 => absurd (hv1.1.trans hv2.1.symm) c2)
set_option maxRecDepth 100000 in
set_option maxHeartbeats 4000000 in
theorem lcase_sign {p : Program} {e : Env} {s : State} {m : MethodId} {below : List Frame} {meth : Method} {c : Code} {b L : Nat} {xs : Nat → Int32} {E : cx} (C : lwC p s m meth c b L xs E) {ad : Nat → Nat} {h ab as R wd k : Nat} {A : regs} {cf : Int × Nat} {f : hm} {ls : Array Slot} {H : Heap} {locs : List Loc} (S : lwS E ad h ab as R wd A cf f) (hl : lv_has ls 4 [(3, .int (nI k)), (2, .ref h), (1, .ref (ad 0)), (0, .ref b)]) (hS : wS E.2.1 vwCl (lwA s) s.heap f H locs) (hk : k + 4 ≤ L) (hnext : ∀ (A' : regs) (cf' : Int × Nat) (f' : hm) (H' : Heap) (locs' : List Loc), lwS E ad h ab as R wd A' cf' f' → wS E.2.1 vwCl (lwA s) s.heap f' H' locs' → W p E.1 e room_1 s m #[Value.ref b] below meth c H' locs' 98 1936 (lw_Z below #[Value.ref b] s) (F0 m 604 ls [])) : W p E.1 e room_1 s m #[Value.ref b] below meth c H locs 98 1936 (lw_Z below #[Value.ref b] s) (F0 m 537 ls []) := by
  obtain ⟨⟨hx, hb, hr, hml, hown, hts0, hX, hbl, hlocks, hgv⟩, hK, hL⟩ := C
  have hown : s.vm.findClass RL = some m.cls := hown
  have hts : ∀ w ∈ wsL_law, w.before #[Value.ref b] s = true := fun w h => hts0 w (law_in w h)
  have hbA : ¬ lwA s b := Nat.not_le.mpr hbl
  have i1 : vp_in (nI k + 1) L := by rw [show (1 : Int32) = nI 1 from rfl, nI_add]; exact vp_in_nI (by omega) (by omega)
  have i2 : vp_in (nI k + 2) L := by rw [show (2 : Int32) = nI 2 from rfl, nI_add]; exact vp_in_nI (by omega) (by omega)
  have i3 : vp_in (nI k + 3) L := by rw [show (3 : Int32) = nI 3 from rfl, nI_add]; exact vp_in_nI (by omega) (by omega)
  refine lv_aload_n hx hb dL_law_537 rfl (lv_at hl 2 rfl) ?_
  refine lv_aload_n hx hb dL_law_538 rfl (lv_at hl 3 rfl) ?_
  refine lv_iload_n hx hb dL_law_539 rfl (lv_at hl 0 rfl) ?_
  refine lv_iconst (v := 1) hx hb dL_law_540 (by decide) ?_
  refine lv_iadd hx hb dL_law_541 ?_
  refine va_sld hx hb hX hbl hbA hS.2.2.1 i1 dL_law_542 ?_
  refine fw_callVi hx hb hml hown hts hK hS [.int (xs (nI k + 1).toNatClampNeg)] [] (D4_sign S.1 S.2.1) gL_law_X4_sign rfl rfl rfl 1 (by decide +kernel) ⟨Nat.le_of_ble_eq_true rfl, Nat.le_of_ble_eq_true rfl⟩ rfl rfl S.2.1.o rfl hl.1 rfl (Nat.le_of_ble_eq_true rfl) dL_law_543 ⟨Nat.le_of_ble_eq_true rfl, Nat.le_of_ble_eq_true rfl⟩ (fun r1 f1 H locs hv1 hS => ?_)
  refine lv_aload_n hx hb dL_law_546 rfl (lv_at hl 1 rfl) ?_
  refine lv_aload_n hx hb dL_law_547 rfl (lv_at hl 3 rfl) ?_
  refine lv_iload_n hx hb dL_law_548 rfl (lv_at hl 0 rfl) ?_
  refine lv_iconst (v := 1) hx hb dL_law_549 (by decide) ?_
  refine lv_iadd hx hb dL_law_550 ?_
  refine va_sld hx hb hX hbl hbA hS.2.2.1 i1 dL_law_551 ?_
  refine fw_callVi hx hb hml hown hts hK hS [.int (xs (nI k + 1).toNatClampNeg)] [.int r1] (D5_sign S.1 (S.ref hv1.2)) gL_law_X5_sign rfl rfl rfl 1 (by decide +kernel) ⟨Nat.le_of_ble_eq_true rfl, Nat.le_of_ble_eq_true rfl⟩ rfl rfl (S.ref hv1.2).o rfl hl.1 rfl (Nat.le_of_ble_eq_true rfl) dL_law_552 ⟨Nat.le_of_ble_eq_true rfl, Nat.le_of_ble_eq_true rfl⟩ (fun r2 f2 H locs hv2 hS => ?_)
  exact lv_icmp_eq (tgt := 604) hx hb dL_law_555 (by decide) (fun _ => hnext _ _ f2 H locs (S.next S.1 hv1.2 hv2.2) hS) (fun c2 => absurd (hv1.1.trans hv2.1.symm) c2)
set_option maxRecDepth 100000 in
set_option maxHeartbeats 4000000 in
theorem lcase_best {p : Program} {e : Env} {s : State} {m : MethodId} {below : List Frame} {meth : Method} {c : Code} {b L : Nat} {xs : Nat → Int32} {E : cx} (C : lwC p s m meth c b L xs E) {ad : Nat → Nat} {h ab as R wd k : Nat} {A : regs} {cf : Int × Nat} {f : hm} {ls : Array Slot} {H : Heap} {locs : List Loc} (S : lwS E ad h ab as R wd A cf f) (hl : lv_has ls 4 [(3, .int (nI k)), (2, .ref h), (1, .ref (ad 0)), (0, .ref b)]) (hS : wS E.2.1 vwCl (lwA s) s.heap f H locs) (hk : k + 4 ≤ L) (hnext : ∀ (A' : regs) (cf' : Int × Nat) (f' : hm) (H' : Heap) (locs' : List Loc), lwS E ad h ab as R wd A' cf' f' → wS E.2.1 vwCl (lwA s) s.heap f' H' locs' → W p E.1 e room_1 s m #[Value.ref b] below meth c H' locs' 98 1936 (lw_Z below #[Value.ref b] s) (F0 m 604 ls [])) : W p E.1 e room_1 s m #[Value.ref b] below meth c H locs 98 1936 (lw_Z below #[Value.ref b] s) (F0 m 560 ls []) := by
  obtain ⟨⟨hx, hb, hr, hml, hown, hts0, hX, hbl, hlocks, hgv⟩, hK, hL⟩ := C
  have hown : s.vm.findClass RL = some m.cls := hown
  have hts : ∀ w ∈ wsL_law, w.before #[Value.ref b] s = true := fun w h => hts0 w (law_in w h)
  have hbA : ¬ lwA s b := Nat.not_le.mpr hbl
  have i1 : vp_in (nI k + 1) L := by rw [show (1 : Int32) = nI 1 from rfl, nI_add]; exact vp_in_nI (by omega) (by omega)
  have i2 : vp_in (nI k + 2) L := by rw [show (2 : Int32) = nI 2 from rfl, nI_add]; exact vp_in_nI (by omega) (by omega)
  have i3 : vp_in (nI k + 3) L := by rw [show (3 : Int32) = nI 3 from rfl, nI_add]; exact vp_in_nI (by omega) (by omega)
  refine lv_aload_n hx hb dL_law_560 rfl (lv_at hl 2 rfl) ?_
  refine lv_aload_n hx hb dL_law_561 rfl (lv_at hl 3 rfl) ?_
  refine lv_iload_n hx hb dL_law_562 rfl (lv_at hl 0 rfl) ?_
  refine lv_iconst (v := 1) hx hb dL_law_563 (by decide) ?_
  refine lv_iadd hx hb dL_law_564 ?_
  refine va_sld hx hb hX hbl hbA hS.2.2.1 i1 dL_law_565 ?_
  refine lv_aload_n hx hb dL_law_566 rfl (lv_at hl 3 rfl) ?_
  refine lv_iload_n hx hb dL_law_567 rfl (lv_at hl 0 rfl) ?_
  refine lv_iconst (v := 2) hx hb dL_law_568 (by decide) ?_
  refine lv_iadd hx hb dL_law_569 ?_
  refine va_sld hx hb hX hbl hbA hS.2.2.1 i2 dL_law_570 ?_
  refine lv_aload_n hx hb dL_law_571 rfl (lv_at hl 3 rfl) ?_
  refine lv_iload_n hx hb dL_law_572 rfl (lv_at hl 0 rfl) ?_
  refine lv_iconst (v := 3) hx hb dL_law_573 (by decide) ?_
  refine lv_iadd hx hb dL_law_574 ?_
  refine va_sld hx hb hX hbl hbA hS.2.2.1 i3 dL_law_575 ?_
  refine fw_callVl hx hb hml hown hts hK hS [.int (xs (nI k + 1).toNatClampNeg), .int (xs (nI k + 2).toNatClampNeg), .int (xs (nI k + 3).toNatClampNeg)] [] (D4_best S.1 S.2.1) gL_law_X4_best rfl rfl rfl 3 (by decide +kernel) ⟨Nat.le_of_ble_eq_true rfl, Nat.le_of_ble_eq_true rfl⟩ rfl rfl S.2.1.o rfl hl.1 rfl (Nat.le_of_ble_eq_true rfl) dL_law_576 ⟨Nat.le_of_ble_eq_true rfl, Nat.le_of_ble_eq_true rfl⟩ (fun r1 f1 H locs hv1 hS => ?_)
  refine lv_aload_n hx hb dL_law_579 rfl (lv_at hl 1 rfl) ?_
  refine lv_aload_n hx hb dL_law_580 rfl (lv_at hl 3 rfl) ?_
  refine lv_iload_n hx hb dL_law_581 rfl (lv_at hl 0 rfl) ?_
  refine lv_iconst (v := 1) hx hb dL_law_582 (by decide) ?_
  refine lv_iadd hx hb dL_law_583 ?_
  refine va_sld hx hb hX hbl hbA hS.2.2.1 i1 dL_law_584 ?_
  refine lv_aload_n hx hb dL_law_585 rfl (lv_at hl 3 rfl) ?_
  refine lv_iload_n hx hb dL_law_586 rfl (lv_at hl 0 rfl) ?_
  refine lv_iconst (v := 2) hx hb dL_law_587 (by decide) ?_
  refine lv_iadd hx hb dL_law_588 ?_
  refine va_sld hx hb hX hbl hbA hS.2.2.1 i2 dL_law_589 ?_
  refine lv_aload_n hx hb dL_law_590 rfl (lv_at hl 3 rfl) ?_
  refine lv_iload_n hx hb dL_law_591 rfl (lv_at hl 0 rfl) ?_
  refine lv_iconst (v := 3) hx hb dL_law_592 (by decide) ?_
  refine lv_iadd hx hb dL_law_593 ?_
  refine va_sld hx hb hX hbl hbA hS.2.2.1 i3 dL_law_594 ?_
  refine fw_callVl hx hb hml hown hts hK hS [.int (xs (nI k + 1).toNatClampNeg), .int (xs (nI k + 2).toNatClampNeg), .int (xs (nI k + 3).toNatClampNeg)] [.long r1] (D5_best S.1 (S.ref hv1.2)) gL_law_X5_best rfl rfl rfl 3 (by decide +kernel) ⟨Nat.le_of_ble_eq_true rfl, Nat.le_of_ble_eq_true rfl⟩ rfl rfl (S.ref hv1.2).o rfl hl.1 rfl (Nat.le_of_ble_eq_true rfl) dL_law_595 ⟨Nat.le_of_ble_eq_true rfl, Nat.le_of_ble_eq_true rfl⟩ (fun r2 f2 H locs hv2 hS => ?_)
  refine W.lcmp hx hb dL_law_598 ?_
  exact lv_if_eq (tgt := 604) hx hb dL_law_599 (by decide) (fun _ => hnext _ _ f2 H locs (S.next S.1 hv1.2 hv2.2) hS) (fun c2 => absurd (by rw [aBest_uni hv1.1 hv2.1]; exact lgc_eq.mpr rfl) c2)
