/-! New objects and rows; constructors' calls (private ones of nest mates). -/
abbrev hostN : String := "ContinuedRatios"
/-- what the tables say of the nest's private constructors, and of the row of Fractions -/
def zN (U : State) : Prop := va_Nw (.methodLinkNest RX4 13 yX0_init hostN) U ∧ va_Nw (.methodLinkNest RX0 15 yX1_init hostN) U ∧ va_Nw (.methodLinkNest RX4 25 yX3_init hostN) U ∧ va_Nw (.methodLinkNest RX3 9 yX1_init hostN) U ∧ va_Nw (.methodLinkNest RX4 32 yX2_init hostN) U ∧ va_Nw (.methodLinkNest RX2 24 yX1_init hostN) U ∧ va_Nw (.methodLinkNest RX4 39 yX1_init hostN) U ∧ va_AO RX0 U
theorem zN.warm {s U : State} (hW : s.WarmedH U.vm) (h : zN s) : zN U := ⟨va_Nw.warmM hW h.1, va_Nw.warmM hW h.2.1, va_Nw.warmM hW h.2.2.1, va_Nw.warmM hW h.2.2.2.1, va_Nw.warmM hW h.2.2.2.2.1, va_Nw.warmM hW h.2.2.2.2.2.1, va_Nw.warmM hW h.2.2.2.2.2.2.1, va_AO.moved hW.alike h.2.2.2.2.2.2.2⟩
theorem zN.same {s U : State} (hv : s.vm = U.vm) (h : zN s) : zN U := ⟨va_Nw.same rfl hv h.1, va_Nw.same rfl hv h.2.1, va_Nw.same rfl hv h.2.2.1, va_Nw.same rfl hv h.2.2.2.1, va_Nw.same rfl hv h.2.2.2.2.1, va_Nw.same rfl hv h.2.2.2.2.2.1, va_Nw.same rfl hv h.2.2.2.2.2.2.1, va_AO.moved (by rw [hv]; exact Vm.Alike.refl _) h.2.2.2.2.2.2.2⟩
def MZ (l : Launch) (D : va_G) (cl : List vw_C) (tys : List (ClassId × FieldType)) (y : MethodName) (ws : List Cond) (rm : Room) (av : List Value) (f : hm) (K : hm → Prop) : Prop :=
  ∀ sz : Nat, Met l y ws rm (va_Pc av (fun U => U.heap.size = sz ∧ wP D cl f U.heap ∧ va_K D cl tys U ∧ zN U)) (va_Qv (S := hm) K (fun f' t => wP D cl f' t.heap ∧ wD (wA f sz) f') (wA f sz)) rm.cells rm.slots (wA f sz)
theorem MZ.mono {l : Launch} {D : va_G} {cl : List vw_C} {tys : List (ClassId × FieldType)} {y : MethodName} {ws : List Cond} {rm : Room} {av : List Value} {f : hm} {K K' : hm → Prop} (h : MZ l D cl tys y ws rm av f K) (hk : ∀ f', K f' → K' f') : MZ l D cl tys y ws rm av f K' := by
  intro sz
  refine (h sz).post ?_
  rintro a st o t ⟨⟨u, h1, h2, h3⟩, h4⟩
  exact ⟨⟨u, h1, hk _ h2, h3⟩, h4⟩
section FN
variable {p : Program} {l : Launch} {e : Env} {R : Room} {s : State} {m : MethodId} {args : Array Value} {below : List Frame} {meth : Method} {c : Code} {H : Heap} {locs : List Loc} {cells slots : Nat} {Q : State → Prop}
variable {cc : ByteArray} {pc : Nat} {ls : Array Slot} {rest st0 : List Value} {D : va_G} {cl : List vw_C} {A : Nat → Prop} {a : Nat} {tys : List (ClassId × FieldType)} {f f' : hm} {H0 : Heap}
variable {y : MethodName} {bytes : ByteArray} {maxL nL n index : Nat} {ret : Option FieldType} {ws ws' Ts : List Cond} {rm : Room} {own C : String} {ci b : Nat} {q : vw_C} {As av : List Value}
theorem wS.push {e1 : va_E} {H1 : Heap} (hS : wS D cl A H0 f H locs) (he : va_at D cl (H.size, e1) H1) (z1 : H1.size = H.size + 1) (o1 : ∀ q : Nat, q < H.size → H1[q]? = H[q]?) : wS D cl A H0 (hp f H.size e1) H1 locs :=
  ⟨hS.1.push he o1, hS.2.1.put (hS.2.2.2 _ hS.2.2.1.1), ⟨Nat.le_trans hS.2.2.1.1 (by omega), fun x h1 h2 => (o1 x (Nat.lt_of_lt_of_le h1 hS.2.2.1.1)).trans (hS.2.2.1.2.1 x h1 h2), hS.2.2.1.2.2⟩, hS.2.2.2⟩
theorem fw_new (hexec : p.tables.exec = Jvm.exec) (hb : c.code = cc) {T : u_T} {N : Nat} (hts : ∀ w ∈ Ts, w.before args s = true) (hin : ∀ w ∈ u_ws C T N, w ∈ Ts) (ty : Nat → FieldType) (hty : ∀ k, k < N → parseFieldDescriptor (T k).2.2.1 = some (ty k)) (hown : s.vm.findClass own = some m.cls) (hcl : Cond.classLink own index C ∈ Ts) (hinst : Cond.instantiable C N ∈ Ts) (hini : Cond.initialized C ∈ Ts)
    (hK : va_K D cl tys s) (hS : wS D cl A H0 f H locs) (hc : cl[ci]? = some (C, T, N)) (fs : List Value) (hfs : ∀ j, j < N → defaultValue (ty j) = vp_V fs j) (hcells : cells + 1 ≤ R.cells) (hslots : slots + N ≤ R.slots) (hdg : decode cc pc = .ok (.new index, 3))
    (kk : ∀ (q : Nat) (H1 : Heap), f q = none → wS D cl A H0 (hp f q (.inr (ci, fs))) H1 locs → W p l e R s m args below meth c H1 locs (cells + 1) (slots + N) Q (F0 m (pc + 3) ls (.ref q :: rest))) : W p l e R s m args below meth c H locs cells slots Q (F0 m pc ls rest) := by
  have hKn := hK.1 ci _ hc
  refine W.newcK hexec hb hown (hts _ hcl) (hts _ hinst) (hts _ hini) rfl hdg hcells hslots hKn.2.1 rfl fun H1 kC hkC e1 z1 o1 => ?_
  exact kk H.size H1 (hS.1.fresh (Nat.le_refl _)) (hS.push ⟨_, hc, (u_born ty hts hin hKn hkC e1 hty).to hfs⟩ z1 o1)
/-- a new row of ints -/
theorem fw_newa (hexec : p.tables.exec = Jvm.exec) (hb : c.code = cc) (hts : ∀ w ∈ Ts, w.before args s = true) (harr : Cond.arrayClass .int ∈ Ts) (hK : va_K D cl tys s) (hS : wS D cl A H0 f H locs) (t0 : Nat) {cA : ClassId} (ht : tys[t0]? = some (cA, .int)) {n : Int32} (N' : Nat) (hn : ¬ n < 0) (hN : n.toNatClampNeg = N') (hbytes : N' * 4 ≤ 536870912) (hcells : cells + 1 ≤ R.cells) (hslots : slots + N' ≤ R.slots) (hdg : decode cc pc = .ok (.newarray .int, 2))
    (kk : ∀ (q : Nat) (H1 : Heap), f q = none → wS D cl A H0 (hp f q (.inl (cA, N', .inl (fun _ => 0)))) H1 locs → W p l e R s m args below meth c H1 locs (cells + 1) (slots + N') Q (F0 m (pc + 2) ls (.ref q :: rest))) : W p l e R s m args below meth c H locs cells slots Q (F0 m pc ls (.int n :: rest)) := by
  refine va_newaK (atype := .int) hexec hb (hts _ harr) rfl hdg rfl hn hN hbytes hcells hslots rfl fun H1 cB e1 z1 o1 hAr hNm => ?_
  have e2 : s.vm.findClass ("[" ++ (FieldType.int).toString) = some cA := (hK.2 t0 _ ht).2
  have e3 : s.vm.findClass ("[" ++ (FieldType.int).toString) = some cB := hNm
  obtain rfl : cB = cA := Option.some.inj (e3.symm.trans e2)
  refine kk H.size H1 (hS.1.fresh (Nat.le_refl _)) (hS.push ?_ z1 o1)
  show H1[H.size]? = some (vp_cell _ _)
  rw [vp_cell_i]
  exact e1
/-- a new row of references -/
theorem fw_newq (hexec : p.tables.exec = Jvm.exec) (hb : c.code = cc) (hts : ∀ w ∈ Ts, w.before args s = true) (hown : s.vm.findClass own = some m.cls) (hclink : Cond.classLink own index C ∈ Ts) (hover : va_AO C s) (hK : va_K D cl tys s) (hS : wS D cl A H0 f H locs) (t0 : Nat) {cA : ClassId} (ht : tys[t0]? = some (cA, .object C)) {n : Int32} (N' : Nat) (hn : ¬ n < 0) (hN : n.toNatClampNeg = N') (hbytes : N' * 4 ≤ 536870912) (hcells : cells + 1 ≤ R.cells) (hslots : slots + N' ≤ R.slots) (hdg : decode cc pc = .ok (.anewarray index, 3))
    (kk : ∀ (q : Nat) (H1 : Heap), f q = none → wS D cl A H0 (hp f q (.inl (cA, N', .inr (.inr (.inr (.inr (fun _ => none))))))) H1 locs → W p l e R s m args below meth c H1 locs (cells + 1) (slots + N') Q (F0 m (pc + 3) ls (.ref q :: rest))) : W p l e R s m args below meth c H locs cells slots Q (F0 m pc ls (.int n :: rest)) := by
  subst hN
  refine W.anew hexec hb hown (hts _ hclink) (va_AO.use hover) rfl hdg rfl hn hbytes hcells hslots fun cB kA comp f1 f2 f3 f4 => ?_
  obtain ⟨kA', comp', -, -, -, e4⟩ := (hK.2 t0 _ ht).2
  obtain rfl : cB = cA := Option.some.inj (f1.symm.trans e4)
  generalize hH1 : H.push ({ cls := cB, slots := Array.replicate n.toNatClampNeg .null, vm := .none } : Cell) = H1
  have z1 : H1.size = H.size + 1 := by rw [← hH1, Array.size_push]
  have e1 : H1[H.size]? = some (arrV cB n.toNatClampNeg (fun _ => .null)) := by rw [← hH1, Array.getElem?_push_size, ← arrV_new]
  have o1 : ∀ q : Nat, q < H.size → H1[q]? = H[q]? := fun q hq => by rw [← hH1, Array.getElem?_push, if_neg (Nat.ne_of_lt hq)]
  refine kk H.size H1 (hS.1.fresh (Nat.le_refl _)) (hS.push ?_ z1 o1)
  show H1[H.size]? = some (vp_cell _ _)
  rw [vp_cell_q]
  exact e1
theorem fw_aast (hexec : p.tables.exec = Jvm.exec) (hb : c.code = cc) (hK : va_K D cl tys s) (hS : wS D cl A H0 f H locs) (t0 : Nat) {cA : ClassId} {r : vw_C} (ht : tys[t0]? = some (cA, .object r.1)) {i : Int32} {v : Nat} (hr : wrQ cA f a i v = some f') (hc : cl[ci]? = some r) (ho : isO f v ci) (hdg : decode cc pc = .ok (.aastore, 1))
    (kk : ∀ (H1 : Heap) (locs1 : List Loc), wS D cl A H0 f' H1 locs1 → W p l e R s m args below meth c H1 locs1 cells slots Q (F0 m (pc + 1) ls rest)) : W p l e R s m args below meth c H locs cells slots Q (F0 m pc ls (.ref v :: .int i :: .ref a :: rest)) := by
  obtain ⟨n, g, ha, hin, rfl⟩ := wrQ_sp hr
  obtain ⟨vs, hv⟩ := ho
  have hlt : i.toNatClampNeg < n := Nat.not_le.mp fun q => hin (Or.inr q)
  have h0 : ¬ i < 0 := fun q => hin (Or.inl q)
  obtain ⟨r', hr', cellV, g1, g2, g3, -⟩ := hS.1 v _ hv
  have hcls := (hK.1 ci r hc).2
  obtain ⟨kA, comp, k1, k2, k3, -⟩ := (hK.2 t0 _ ht).2
  have hcomp : comp = D.1 ci := Option.some.inj (k3.symm.trans hcls.1)
  subst hcomp
  obtain ⟨kC, hkC, -⟩ := hcls.2
  have hAa : A a := hS.2.1 a (by rw [ha]; exact fun h => by cases h)
  refine W.aast hexec hb (hS.1 a _ ha) (fun q h => by cases h) (fun h => by cases h) k1 k2 rfl hkC ⟨h0, by show _ < (arrV _ _ _).slots.size; rw [arrV_size]; exact hlt⟩ g1 (fun q h => by rw [g3] at h; cases h) (by rw [g2]; exact hkC) (by rw [g2]; exact va_assign hcls) rfl rfl hdg fun H1 e z oq => ?_
  refine kk H1 _ ⟨hS.1.put ?_ oq, hS.2.1.put hAa, hS.2.2.1.put z oq hAa, hS.2.2.2⟩
  show H1[a]? = some (vp_cell _ _)
  rw [e]
  rw [vp_cell_q, vp_cell_q, arrV_store]
  congr 2
  funext q
  by_cases hq : q = i.toNatClampNeg
  · subst hq
    simp [updV, va_up, va_rf]
  · simp [updV, va_up, hq]
theorem fw_blindZ {sz : Nat} : FrameBlind (va_Pc av (fun U => U.heap.size = sz ∧ wP D cl f U.heap ∧ va_K D cl tys U ∧ zN U)) := by
  intro a U g mk q
  obtain ⟨q0, q1, qP, qK, qZ⟩ := q
  exact ⟨q0, q1, qP, va_K.moved (u := U) (U := U.calling g mk a) (Vm.Alike.refl U.vm) qK, zN.same (s := U) (U := U.calling g mk a) rfl qZ⟩
theorem fw_preZ (hS : wS D cl A H0 f H locs) (hK : va_K D cl tys s) (hZ : zN s) : ∀ U : State, U.heap = H → s.WarmedH U.vm → va_Pc av (fun U => U.heap.size = H.size ∧ wP D cl f U.heap ∧ va_K D cl tys U ∧ zN U) av.toArray U := fun U hU hW => ⟨rfl, by rw [hU], by rw [hU]; exact hS.1, va_K.moved hW.alike hK, hZ.warm hW⟩
/-- a private constructor of a nest mate -/
theorem fw_callIN {K : hm → Prop} {host : String} (hexec : p.tables.exec = Jvm.exec) (hb : c.code = cc) (hml : c.maxLocals = nL) (hown : s.vm.findClass own = some m.cls) (hts : ∀ w ∈ Ts, w.before args s = true) (hK : va_K D cl tys s) (hZ : zN s) (hS : wS D cl A H0 f H locs) (As rest : List Value) (hM : MZ l D cl tys y ws rm (.ref b :: As) f K) (hG : GoodIn Ts ws) (hw : ws = Cond.code y bytes maxL none :: ws') (n : Nat) (hl : va_Nw (.methodLinkNest own index y host) s) (hini : Cond.initialized y.cls ∈ Ts) (hin : Cond.instanceMethod y ∈ Ts) (hy1 : y.name = "<init>")
    (hd : y.cls ≠ "java/lang/invoke/MethodHandle" ∧ y.cls ≠ "java/lang/invoke/VarHandle" ∧ (parseMethodDescriptor y.desc).map (fun d => d.parameters.length) = some n) (hR : rm.frames + 1 ≤ R.frames ∧ 8 + (maxL + 11) + rm.locals ≤ R.locals) (hn : As.length = n) (hsz : ls.size = nL) (hst : st0 = As.reverse ++ .ref b :: rest) (hroom : (rest.map fun v => v.category).sum ≤ 8) (hdg : decode cc pc = .ok (.invokespecial index, 3)) (hf : cells + rm.cells ≤ R.cells ∧ slots + rm.slots ≤ R.slots)
    (kk : ∀ (f' : hm) (H1 : Heap) (locs1 : List Loc), K f' → wS D cl A H0 f' H1 locs1 → W p l e R s m args below meth c H1 locs1 (cells + rm.cells) (slots + rm.slots) Q (F0 m (pc + 3) ls rest)) : W p l e R s m args below meth c H locs cells slots Q (F0 m pc ls st0) := by
  refine va_callv (va_runIN (As := As) (rest := rest) ⟨hexec, hb, hml, hown, hts⟩ (hM H.size) ⟨va_cnB n hts hG hw rfl rfl hl (hts _ hini) hd hR, hy1, hts _ hin⟩ ⟨fw_blindZ, fw_preZ hS hK hZ⟩ rfl hn hsz hst (lv_room hroom) hdg hf) hS.2.2.1 (fun q _ h => fw_hA hS q h) (fw_hA hS) (fun u t H1 locs1 ht hvm hw1 hB hz1 hk1 hS1 => ?_)
  exact kk u H1 locs1 hw1 (fw_back hS ht hB hS1)
/-- a constructor -/
theorem fw_callI {K : hm → Prop} (hexec : p.tables.exec = Jvm.exec) (hb : c.code = cc) (hml : c.maxLocals = nL) (hown : s.vm.findClass own = some m.cls) (hts : ∀ w ∈ Ts, w.before args s = true) (hK : va_K D cl tys s) (hZ : zN s) (hS : wS D cl A H0 f H locs) (As rest : List Value) (hM : MZ l D cl tys y ws rm (.ref b :: As) f K) (hG : GoodIn Ts ws) (hw : ws = Cond.code y bytes maxL none :: ws') (n : Nat) (hl : Cond.methodLink own index y ∈ Ts) (hini : Cond.initialized y.cls ∈ Ts) (hin : Cond.instanceMethod y ∈ Ts) (hy1 : y.name = "<init>")
    (hd : y.cls ≠ "java/lang/invoke/MethodHandle" ∧ y.cls ≠ "java/lang/invoke/VarHandle" ∧ (parseMethodDescriptor y.desc).map (fun d => d.parameters.length) = some n) (hR : rm.frames + 1 ≤ R.frames ∧ 8 + (maxL + 11) + rm.locals ≤ R.locals) (hn : As.length = n) (hsz : ls.size = nL) (hst : st0 = As.reverse ++ .ref b :: rest) (hroom : (rest.map fun v => v.category).sum ≤ 8) (hdg : decode cc pc = .ok (.invokespecial index, 3)) (hf : cells + rm.cells ≤ R.cells ∧ slots + rm.slots ≤ R.slots)
    (kk : ∀ (f' : hm) (H1 : Heap) (locs1 : List Loc), K f' → wS D cl A H0 f' H1 locs1 → W p l e R s m args below meth c H1 locs1 (cells + rm.cells) (slots + rm.slots) Q (F0 m (pc + 3) ls rest)) : W p l e R s m args below meth c H locs cells slots Q (F0 m pc ls st0) := by
  refine va_callv (va_runI (As := As) (rest := rest) ⟨hexec, hb, hml, hown, hts⟩ (hM H.size) (cwI n hts hG hw rfl rfl (hts _ hini) (hts _ hl) (hts _ hin) hy1 hd hR) ⟨fw_blindZ, fw_preZ hS hK hZ⟩ rfl hn hsz hst (lv_room hroom) hdg hf) hS.2.2.1 (fun q _ h => fw_hA hS q h) (fw_hA hS) (fun u t H1 locs1 ht hvm hw1 hB hz1 hk1 hS1 => ?_)
  exact kk u H1 locs1 hw1 (fw_back hS ht hB hS1)
theorem MZ_of {K : hm → Prop} (hy : plainName y.cls = true) (hw : ws = Cond.code y cc maxL ret :: ws')
    (body : ∀ (p : Program) (e : Env) (s : State) (m : MethodId) (below : List Frame) (meth : Method) (c : Code), wB D cl tys y cc maxL ret ws av f p s m meth c → zN s → W p l e rm s m av.toArray below meth c s.heap [] 0 0 (MQ below (wQv f D cl K s) av.toArray s rm.cells rm.slots (wA f s.heap.size)) (entryFrame m av.toArray maxL)) : MZ l D cl tys y ws rm av f K := by
  intro sz
  refine Met.ofW (cc := cc) (maxL := maxL) (ret := ret) hy hw ?_
  intro p e s m args below meth c s₁ B hml hv
  obtain ⟨rfl, hsz, hP, hK, hZ⟩ := hv
  subst hsz
  exact body p e s m below meth c ⟨B.exec, B.bytes, hml, findClass_of_methodNamed B.named, atoms_spec (ws := ws) B.pre, B.returns, B.notSynchronized, (name_of_methodNamed B.named B.method).1, hK, hP, fun q hq => Or.inl hq, va_S.rf, fun q hq => Or.inr hq⟩ hZ
end FN
