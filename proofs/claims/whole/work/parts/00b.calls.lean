/-! Calls, entries and ends over worlds that are functions. -/
section FC
variable {p : Program} {l : Launch} {e : Env} {R : Room} {s : State} {m : MethodId} {args : Array Value} {below : List Frame} {meth : Method} {c : Code} {H : Heap} {locs : List Loc} {cells slots : Nat} {Q : State → Prop}
variable {cc : ByteArray} {pc : Nat} {ls : Array Slot} {rest st0 : List Value} {D : va_G} {cl : List vw_C} {A : Nat → Prop} {a : Nat} {tys : List (ClassId × FieldType)} {f : hm} {H0 : Heap}
variable {y : MethodName} {bytes : ByteArray} {maxL nL n index : Nat} {ret : Option FieldType} {ws ws' Ts : List Cond} {rm : Room} {own C : String} {ci b : Nat} {q : vw_C} {As av : List Value}
theorem fw_hA (hS : wS D cl A H0 f H locs) : ∀ q : Nat, wA f H.size q → A q := by
  rintro q (h | h)
  · exact hS.2.1 q h
  · exact hS.2.2.2 q (Nat.le_trans hS.2.2.1.1 h)
theorem fw_blind {sz : Nat} : FrameBlind (va_Pc av (fun U => U.heap.size = sz ∧ wP D cl f U.heap ∧ va_K D cl tys U)) := by
  intro a U g mk q
  obtain ⟨q0, q1, qP, qK⟩ := q
  exact ⟨q0, q1, qP, va_K.moved (u := U) (U := U.calling g mk a) (Vm.Alike.refl U.vm) qK⟩
theorem fw_pre (hS : wS D cl A H0 f H locs) (hK : va_K D cl tys s) : ∀ U : State, U.heap = H → s.WarmedH U.vm → va_Pc av (fun U => U.heap.size = H.size ∧ wP D cl f U.heap ∧ va_K D cl tys U) av.toArray U := fun U hU hW => ⟨rfl, by rw [hU], by rw [hU]; exact hS.1, va_K.moved hW.alike hK⟩
theorem fw_recv (hK : va_K D cl tys s) (hS : wS D cl A H0 f H locs) (hc : cl[ci]? = some q) (ho : isO f b ci) : ∃ cell : Cell, H[b]? = some cell ∧ cell.vm.isStatics = false ∧ s.vm.findClass q.1 = some cell.cls := by
  obtain ⟨fs, h⟩ := ho
  exact va_recv hK (hS.1.one h) hc (q0 := 0) rfl
theorem fw_back {f' : hm} {t : State} {H1 : Heap} {locs1 : List Loc} (hS : wS D cl A H0 f H locs) (ht : t.heap = H1) (hB : wP D cl f' t.heap ∧ wD (wA f H.size) f') (hS1 : va_S A H0 H1 locs1) : wS D cl A H0 f' H1 locs1 := ⟨by rw [← ht]; exact hB.1, fun q hq => fw_hA hS q (hB.2 q hq), hS1, hS.2.2.2⟩
theorem fw_callVi {K : Int32 → hm → Prop} (hexec : p.tables.exec = Jvm.exec) (hb : c.code = cc) (hml : c.maxLocals = nL) (hown : s.vm.findClass own = some m.cls) (hts : ∀ w ∈ Ts, w.before args s = true) (hK : va_K D cl tys s) (hS : wS D cl A H0 f H locs) (As rest : List Value) (hM : MI l D cl tys y ws rm (.ref b :: As) f K) (hG : GoodIn Ts (wsV own index C y ws)) (hw : ws = Cond.code y bytes maxL ret :: ws') (h0c : rm.cells = 0) (h0s : rm.slots = 0) (n : Nat)
    (hd : y.cls = C ∧ y.cls ≠ "java/lang/invoke/MethodHandle" ∧ y.cls ≠ "java/lang/invoke/VarHandle" ∧ (parseMethodDescriptor y.desc).map (fun d => d.parameters.length) = some n) (hR : rm.frames + 1 ≤ R.frames ∧ 8 + (maxL + 11) + rm.locals ≤ R.locals) (hc : cl[ci]? = some q) (hq : q.1 = C) (ho : isO f b ci) (hn : As.length = n) (hsz : ls.size = nL) (hst : st0 = As.reverse ++ .ref b :: rest) (hroom : (rest.map fun v => v.category).sum ≤ 8) (hdg : decode cc pc = .ok (.invokevirtual index, 3)) (hf : cells ≤ R.cells ∧ slots ≤ R.slots)
    (kk : ∀ (r : Int32) (f' : hm) (H1 : Heap) (locs1 : List Loc), K r f' → wS D cl A H0 f' H1 locs1 → W p l e R s m args below meth c H1 locs1 cells slots Q (F0 m (pc + 3) ls (.int r :: rest))) : W p l e R s m args below meth c H locs cells slots Q (F0 m pc ls st0) := by
  subst hq
  refine va_calli (va_runV (As := As) (rest := rest) ⟨hexec, hb, hml, hown, hts⟩ (hM H.size) (cwV n hts hG hw rfl rfl hd hR) ⟨fw_blind, fw_recv hK hS hc ho, fw_pre hS hK⟩ rfl hn hsz hst (lv_room hroom) hdg (by rw [h0c, h0s]; exact hf)) hS.2.2.1 (fun q _ h => fw_hA hS q h) (fw_hA hS) (fun r u t H1 locs1 ht hvm hw1 hB hz1 hk1 hS1 => ?_)
  exact W.cs (by rw [h0c]; rfl) (by rw [h0s]; rfl) (kk r u H1 locs1 hw1 (fw_back hS ht hB hS1))
theorem fw_callVl {K : Int64 → hm → Prop} (hexec : p.tables.exec = Jvm.exec) (hb : c.code = cc) (hml : c.maxLocals = nL) (hown : s.vm.findClass own = some m.cls) (hts : ∀ w ∈ Ts, w.before args s = true) (hK : va_K D cl tys s) (hS : wS D cl A H0 f H locs) (As rest : List Value) (hM : ML l D cl tys y ws rm (.ref b :: As) f K) (hG : GoodIn Ts (wsV own index C y ws)) (hw : ws = Cond.code y bytes maxL ret :: ws') (h0c : rm.cells = 0) (h0s : rm.slots = 0) (n : Nat)
    (hd : y.cls = C ∧ y.cls ≠ "java/lang/invoke/MethodHandle" ∧ y.cls ≠ "java/lang/invoke/VarHandle" ∧ (parseMethodDescriptor y.desc).map (fun d => d.parameters.length) = some n) (hR : rm.frames + 1 ≤ R.frames ∧ 8 + (maxL + 11) + rm.locals ≤ R.locals) (hc : cl[ci]? = some q) (hq : q.1 = C) (ho : isO f b ci) (hn : As.length = n) (hsz : ls.size = nL) (hst : st0 = As.reverse ++ .ref b :: rest) (hroom : (rest.map fun v => v.category).sum ≤ 8) (hdg : decode cc pc = .ok (.invokevirtual index, 3)) (hf : cells ≤ R.cells ∧ slots ≤ R.slots)
    (kk : ∀ (r : Int64) (f' : hm) (H1 : Heap) (locs1 : List Loc), K r f' → wS D cl A H0 f' H1 locs1 → W p l e R s m args below meth c H1 locs1 cells slots Q (F0 m (pc + 3) ls (.long r :: rest))) : W p l e R s m args below meth c H locs cells slots Q (F0 m pc ls st0) := by
  subst hq
  refine va_calll (va_runV (As := As) (rest := rest) ⟨hexec, hb, hml, hown, hts⟩ (hM H.size) (cwV n hts hG hw rfl rfl hd hR) ⟨fw_blind, fw_recv hK hS hc ho, fw_pre hS hK⟩ rfl hn hsz hst (lv_room hroom) hdg (by rw [h0c, h0s]; exact hf)) hS.2.2.1 (fun q _ h => fw_hA hS q h) (fw_hA hS) (fun r u t H1 locs1 ht hvm hw1 hB hz1 hk1 hS1 => ?_)
  exact W.cs (by rw [h0c]; rfl) (by rw [h0s]; rfl) (kk r u H1 locs1 hw1 (fw_back hS ht hB hS1))
theorem fw_callVv {K : hm → Prop} (hexec : p.tables.exec = Jvm.exec) (hb : c.code = cc) (hml : c.maxLocals = nL) (hown : s.vm.findClass own = some m.cls) (hts : ∀ w ∈ Ts, w.before args s = true) (hK : va_K D cl tys s) (hS : wS D cl A H0 f H locs) (As rest : List Value) (hM : MV l D cl tys y ws rm (.ref b :: As) f K) (hG : GoodIn Ts (wsV own index C y ws)) (hw : ws = Cond.code y bytes maxL ret :: ws') (h0c : rm.cells = 0) (h0s : rm.slots = 0) (n : Nat)
    (hd : y.cls = C ∧ y.cls ≠ "java/lang/invoke/MethodHandle" ∧ y.cls ≠ "java/lang/invoke/VarHandle" ∧ (parseMethodDescriptor y.desc).map (fun d => d.parameters.length) = some n) (hR : rm.frames + 1 ≤ R.frames ∧ 8 + (maxL + 11) + rm.locals ≤ R.locals) (hc : cl[ci]? = some q) (hq : q.1 = C) (ho : isO f b ci) (hn : As.length = n) (hsz : ls.size = nL) (hst : st0 = As.reverse ++ .ref b :: rest) (hroom : (rest.map fun v => v.category).sum ≤ 8) (hdg : decode cc pc = .ok (.invokevirtual index, 3)) (hf : cells ≤ R.cells ∧ slots ≤ R.slots)
    (kk : ∀ (f' : hm) (H1 : Heap) (locs1 : List Loc), K f' → wS D cl A H0 f' H1 locs1 → W p l e R s m args below meth c H1 locs1 cells slots Q (F0 m (pc + 3) ls rest)) : W p l e R s m args below meth c H locs cells slots Q (F0 m pc ls st0) := by
  subst hq
  refine va_callv (va_runV (As := As) (rest := rest) ⟨hexec, hb, hml, hown, hts⟩ (hM H.size) (cwV n hts hG hw rfl rfl hd hR) ⟨fw_blind, fw_recv hK hS hc ho, fw_pre hS hK⟩ rfl hn hsz hst (lv_room hroom) hdg (by rw [h0c, h0s]; exact hf)) hS.2.2.1 (fun q _ h => fw_hA hS q h) (fw_hA hS) (fun u t H1 locs1 ht hvm hw1 hB hz1 hk1 hS1 => ?_)
  exact W.cs (by rw [h0c]; rfl) (by rw [h0s]; rfl) (kk u H1 locs1 hw1 (fw_back hS ht hB hS1))
theorem fw_callSi {K : Int32 → hm → Prop} (hexec : p.tables.exec = Jvm.exec) (hb : c.code = cc) (hml : c.maxLocals = nL) (hown : s.vm.findClass own = some m.cls) (hts : ∀ w ∈ Ts, w.before args s = true) (hK : va_K D cl tys s) (hS : wS D cl A H0 f H locs) (As rest : List Value) (hM : MI l D cl tys y ws rm As f K) (hG : GoodIn Ts (va_wsS own index y ws)) (hw : ws = Cond.code y bytes maxL ret :: ws') (h0c : rm.cells = 0) (h0s : rm.slots = 0) (n : Nat)
    (hd : y.cls ≠ "java/lang/invoke/MethodHandle" ∧ y.cls ≠ "java/lang/invoke/VarHandle" ∧ (parseMethodDescriptor y.desc).map (fun d => d.parameters.length) = some n) (hR : rm.frames + 1 ≤ R.frames ∧ 8 + (maxL + 11) + rm.locals ≤ R.locals) (hn : As.length = n) (hsz : ls.size = nL) (hst : st0 = As.reverse ++ rest) (hroom : (rest.map fun v => v.category).sum ≤ 8) (hdg : decode cc pc = .ok (.invokestatic index, 3)) (hf : cells ≤ R.cells ∧ slots ≤ R.slots)
    (kk : ∀ (r : Int32) (f' : hm) (H1 : Heap) (locs1 : List Loc), K r f' → wS D cl A H0 f' H1 locs1 → W p l e R s m args below meth c H1 locs1 cells slots Q (F0 m (pc + 3) ls (.int r :: rest))) : W p l e R s m args below meth c H locs cells slots Q (F0 m pc ls st0) := by
  refine va_calli (va_runS (As := As) (rest := rest) ⟨hexec, hb, hml, hown, hts⟩ (hM H.size) (va_cwS n hts hG hw rfl rfl hd hR) ⟨fw_blind, fw_pre hS hK⟩ rfl hn hsz hst (lv_room hroom) hdg (by rw [h0c, h0s]; exact hf)) hS.2.2.1 (fun q _ h => fw_hA hS q h) (fw_hA hS) (fun r u t H1 locs1 ht hvm hw1 hB hz1 hk1 hS1 => ?_)
  exact W.cs (by rw [h0c]; rfl) (by rw [h0s]; rfl) (kk r u H1 locs1 hw1 (fw_back hS ht hB hS1))
theorem fw_callSl {K : Int64 → hm → Prop} (hexec : p.tables.exec = Jvm.exec) (hb : c.code = cc) (hml : c.maxLocals = nL) (hown : s.vm.findClass own = some m.cls) (hts : ∀ w ∈ Ts, w.before args s = true) (hK : va_K D cl tys s) (hS : wS D cl A H0 f H locs) (As rest : List Value) (hM : ML l D cl tys y ws rm As f K) (hG : GoodIn Ts (va_wsS own index y ws)) (hw : ws = Cond.code y bytes maxL ret :: ws') (h0c : rm.cells = 0) (h0s : rm.slots = 0) (n : Nat)
    (hd : y.cls ≠ "java/lang/invoke/MethodHandle" ∧ y.cls ≠ "java/lang/invoke/VarHandle" ∧ (parseMethodDescriptor y.desc).map (fun d => d.parameters.length) = some n) (hR : rm.frames + 1 ≤ R.frames ∧ 8 + (maxL + 11) + rm.locals ≤ R.locals) (hn : As.length = n) (hsz : ls.size = nL) (hst : st0 = As.reverse ++ rest) (hroom : (rest.map fun v => v.category).sum ≤ 8) (hdg : decode cc pc = .ok (.invokestatic index, 3)) (hf : cells ≤ R.cells ∧ slots ≤ R.slots)
    (kk : ∀ (r : Int64) (f' : hm) (H1 : Heap) (locs1 : List Loc), K r f' → wS D cl A H0 f' H1 locs1 → W p l e R s m args below meth c H1 locs1 cells slots Q (F0 m (pc + 3) ls (.long r :: rest))) : W p l e R s m args below meth c H locs cells slots Q (F0 m pc ls st0) := by
  refine va_calll (va_runS (As := As) (rest := rest) ⟨hexec, hb, hml, hown, hts⟩ (hM H.size) (va_cwS n hts hG hw rfl rfl hd hR) ⟨fw_blind, fw_pre hS hK⟩ rfl hn hsz hst (lv_room hroom) hdg (by rw [h0c, h0s]; exact hf)) hS.2.2.1 (fun q _ h => fw_hA hS q h) (fw_hA hS) (fun r u t H1 locs1 ht hvm hw1 hB hz1 hk1 hS1 => ?_)
  exact W.cs (by rw [h0c]; rfl) (by rw [h0s]; rfl) (kk r u H1 locs1 hw1 (fw_back hS ht hB hS1))
/-- what a body starts with -/
def wB (D : va_G) (cl : List vw_C) (tys : List (ClassId × FieldType)) (y : MethodName) (cc : ByteArray) (maxL : Nat) (ret : Option FieldType) (ws : List Cond) (av : List Value) (f : hm) (p : Program) (s : State) (m : MethodId) (meth : Method) (c : Code) : Prop :=
  p.tables.exec = Jvm.exec ∧ c.code = cc ∧ c.maxLocals = maxL ∧ s.vm.findClass y.cls = some m.cls ∧ (∀ w ∈ ws, w.before av.toArray s = true) ∧ meth.sig.returnType = ret ∧ meth.locks = false ∧ meth.name = y.name ∧ va_K D cl tys s ∧ wS D cl (wA f s.heap.size) s.heap f s.heap []
abbrev wQi (f : hm) (D : va_G) (cl : List vw_C) (K : Int32 → hm → Prop) (s : State) : Array Value → State → Outcome → State → Prop := va_Qi (S := hm) K (fun f' t => wP D cl f' t.heap ∧ wD (wA f s.heap.size) f') (wA f s.heap.size)
abbrev wQl (f : hm) (D : va_G) (cl : List vw_C) (K : Int64 → hm → Prop) (s : State) : Array Value → State → Outcome → State → Prop := va_Ql (S := hm) K (fun f' t => wP D cl f' t.heap ∧ wD (wA f s.heap.size) f') (wA f s.heap.size)
abbrev wQv (f : hm) (D : va_G) (cl : List vw_C) (K : hm → Prop) (s : State) : Array Value → State → Outcome → State → Prop := va_Qv (S := hm) K (fun f' t => wP D cl f' t.heap ∧ wD (wA f s.heap.size) f') (wA f s.heap.size)
theorem MI_of {K : Int32 → hm → Prop} (hy : plainName y.cls = true) (hw : ws = Cond.code y cc maxL ret :: ws')
    (body : ∀ (p : Program) (e : Env) (s : State) (m : MethodId) (below : List Frame) (meth : Method) (c : Code), wB D cl tys y cc maxL ret ws av f p s m meth c → W p l e rm s m av.toArray below meth c s.heap [] 0 0 (MQ below (wQi f D cl K s) av.toArray s rm.cells rm.slots (wA f s.heap.size)) (entryFrame m av.toArray maxL)) : MI l D cl tys y ws rm av f K := by
  intro sz
  refine Met.ofW (cc := cc) (maxL := maxL) (ret := ret) hy hw ?_
  intro p e s m args below meth c s₁ B hml hv
  obtain ⟨rfl, hsz, hP, hK⟩ := hv
  subst hsz
  exact body p e s m below meth c ⟨B.exec, B.bytes, hml, findClass_of_methodNamed B.named, atoms_spec (ws := ws) B.pre, B.returns, B.notSynchronized, (name_of_methodNamed B.named B.method).1, hK, hP, fun q hq => Or.inl hq, va_S.rf, fun q hq => Or.inr hq⟩
theorem ML_of {K : Int64 → hm → Prop} (hy : plainName y.cls = true) (hw : ws = Cond.code y cc maxL ret :: ws')
    (body : ∀ (p : Program) (e : Env) (s : State) (m : MethodId) (below : List Frame) (meth : Method) (c : Code), wB D cl tys y cc maxL ret ws av f p s m meth c → W p l e rm s m av.toArray below meth c s.heap [] 0 0 (MQ below (wQl f D cl K s) av.toArray s rm.cells rm.slots (wA f s.heap.size)) (entryFrame m av.toArray maxL)) : ML l D cl tys y ws rm av f K := by
  intro sz
  refine Met.ofW (cc := cc) (maxL := maxL) (ret := ret) hy hw ?_
  intro p e s m args below meth c s₁ B hml hv
  obtain ⟨rfl, hsz, hP, hK⟩ := hv
  subst hsz
  exact body p e s m below meth c ⟨B.exec, B.bytes, hml, findClass_of_methodNamed B.named, atoms_spec (ws := ws) B.pre, B.returns, B.notSynchronized, (name_of_methodNamed B.named B.method).1, hK, hP, fun q hq => Or.inl hq, va_S.rf, fun q hq => Or.inr hq⟩
theorem MV_of {K : hm → Prop} (hy : plainName y.cls = true) (hw : ws = Cond.code y cc maxL ret :: ws')
    (body : ∀ (p : Program) (e : Env) (s : State) (m : MethodId) (below : List Frame) (meth : Method) (c : Code), wB D cl tys y cc maxL ret ws av f p s m meth c → W p l e rm s m av.toArray below meth c s.heap [] 0 0 (MQ below (wQv f D cl K s) av.toArray s rm.cells rm.slots (wA f s.heap.size)) (entryFrame m av.toArray maxL)) : MV l D cl tys y ws rm av f K := by
  intro sz
  refine Met.ofW (cc := cc) (maxL := maxL) (ret := ret) hy hw ?_
  intro p e s m args below meth c s₁ B hml hv
  obtain ⟨rfl, hsz, hP, hK⟩ := hv
  subst hsz
  exact body p e s m below meth c ⟨B.exec, B.bytes, hml, findClass_of_methodNamed B.named, atoms_spec (ws := ws) B.pre, B.returns, B.notSynchronized, (name_of_methodNamed B.named B.method).1, hK, hP, fun q hq => Or.inl hq, va_S.rf, fun q hq => Or.inr hq⟩
variable {f0 : hm}
theorem fw_iret {K : Int32 → hm → Prop} {v : Int32} (hexec : p.tables.exec = Jvm.exec) (hb : c.code = cc) (hr : meth.sig.returnType = some .int) (hlk : meth.locks = false) (hS : wS D cl (wA f0 s.heap.size) s.heap f H locs) (hk : K v f) (hdg : decode cc pc = .ok (.ireturn, 1)) : W p l e R s m args below meth c H locs cells slots (MQ below (wQi f0 D cl K s) args s cells slots (wA f0 s.heap.size)) (F0 m pc ls [.int v]) :=
  W.iret hexec hb hr (fun t ht hW => ⟨⟨v, f, rfl, hk, by rw [ht]; exact hS.1, hS.2.1⟩, hS.2.2.1.F ht⟩) hS.2.2.1.2.2 hdg hlk
theorem fw_zret {K : Int32 → hm → Prop} {v : Int32} (hexec : p.tables.exec = Jvm.exec) (hb : c.code = cc) (hr : meth.sig.returnType = some .boolean) (hlk : meth.locks = false) (hS : wS D cl (wA f0 s.heap.size) s.heap f H locs) (hk : narrow .boolean (.int v) = .int v ∧ K v f) (hdg : decode cc pc = .ok (.ireturn, 1)) : W p l e R s m args below meth c H locs cells slots (MQ below (wQi f0 D cl K s) args s cells slots (wA f0 s.heap.size)) (F0 m pc ls [.int v]) :=
  W.zret hexec hb hr hk.1 (fun t ht hW => ⟨⟨v, f, rfl, hk.2, by rw [ht]; exact hS.1, hS.2.1⟩, hS.2.2.1.F ht⟩) hS.2.2.1.2.2 hdg hlk
theorem fw_lret {K : Int64 → hm → Prop} {v : Int64} (hexec : p.tables.exec = Jvm.exec) (hb : c.code = cc) (hr : meth.sig.returnType = some .long) (hlk : meth.locks = false) (hS : wS D cl (wA f0 s.heap.size) s.heap f H locs) (hk : K v f) (hdg : decode cc pc = .ok (.lreturn, 1)) : W p l e R s m args below meth c H locs cells slots (MQ below (wQl f0 D cl K s) args s cells slots (wA f0 s.heap.size)) (F0 m pc ls [.long v]) :=
  W.lret hexec hb hr (fun t ht hW => ⟨⟨v, f, rfl, hk, by rw [ht]; exact hS.1, hS.2.1⟩, hS.2.2.1.F ht⟩) hS.2.2.1.2.2 hdg hlk
theorem fw_vret {K : hm → Prop} (hexec : p.tables.exec = Jvm.exec) (hb : c.code = cc) (hr : meth.sig.returnType = none) (hlk : meth.locks = false) (hS : wS D cl (wA f0 s.heap.size) s.heap f H locs) (hk : K f) (hdg : decode cc pc = .ok (.return_, 1)) : W p l e R s m args below meth c H locs cells slots (MQ below (wQv f0 D cl K s) args s cells slots (wA f0 s.heap.size)) (F0 m pc ls []) :=
  W.vret hexec hb hr (fun t ht hW => ⟨⟨f, rfl, hk, by rw [ht]; exact hS.1, hS.2.1⟩, hS.2.2.1.F ht⟩) hS.2.2.1.2.2 hdg hlk
end FC
/-- steps that end: a measure that falls -/
theorem st_ind {P : Nat → Prop} (h : ∀ n, (∀ k, k < n → P k) → P n) : ∀ n, P n := fun n => Nat.strongRecOn n h
