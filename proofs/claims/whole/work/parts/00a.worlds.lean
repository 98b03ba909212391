/-! Worlds as functions of the address (what lies where), and the rows of reads, writes, calls and ends over them. -/
abbrev hm : Type := Nat → Option va_E
def wP (D : va_G) (cl : List vw_C) (f : hm) (H : Heap) : Prop := ∀ (a : Nat) (e : va_E), f a = some e → va_at D cl (a, e) H
def wA (f : hm) (sz : Nat) : Nat → Prop := fun q => f q ≠ none ∨ sz ≤ q
def wD (A : Nat → Prop) (f : hm) : Prop := ∀ q : Nat, f q ≠ none → A q
/-- the world f with e at a -/
def hp (f : hm) (a : Nat) (e : va_E) : hm := va_up f a (some e)
theorem hp_self (f : hm) (a : Nat) (e : va_E) : hp f a e a = some e := va_up_self _ _ _
theorem hp_ne (f : hm) {a b : Nat} (e : va_E) (h : b ≠ a) : hp f a e b = f b := va_up_ne _ _ h
theorem hp_hp (f : hm) (a : Nat) (e e2 : va_E) : hp (hp f a e) a e2 = hp f a e2 := bx_uu _ _ _ _
theorem hp_id {f : hm} {a : Nat} {e : va_E} (h : f a = some e) : hp f a e = f := by
  funext q
  by_cases hq : q = a
  · subst hq; rw [hp_self, h]
  · rw [hp_ne _ _ hq]
theorem hp_comm (f : hm) {a b : Nat} (e e2 : va_E) (h : a ≠ b) : hp (hp f a e) b e2 = hp (hp f b e2) a e := by
  funext q
  by_cases hq : q = a
  · subst hq; rw [hp_ne _ _ h, hp_self, hp_self]
  · rw [hp_ne _ _ hq]
    by_cases hb : q = b
    · subst hb; rw [hp_self, hp_self]
    · rw [hp_ne _ _ hb, hp_ne _ _ hb, hp_ne _ _ hq]
/-- a field's value -/
def rdV (f : hm) (a ci k : Nat) : Option Value := match f a with
  | some (.inr (c, fs)) => if c = ci then fs[k]? else none
  | _ => none
def wrV (f : hm) (a ci k : Nat) (v : Value) : Option hm := match f a with
  | some (.inr (c, fs)) => if c = ci ∧ k < fs.length then some (hp f a (.inr (c, fs.set k v))) else none
  | _ => none
/-- a row of ints -/
def rdA (cA : ClassId) (f : hm) (a : Nat) (i : Int32) : Option Int32 := match f a with
  | some (.inl (c, n, .inl g)) => if c = cA ∧ ¬ (i < 0 ∨ n ≤ i.toNatClampNeg) then some (g i.toNatClampNeg) else none
  | _ => none
def wrA (cA : ClassId) (f : hm) (a : Nat) (i x : Int32) : Option hm := match f a with
  | some (.inl (c, n, .inl g)) => if c = cA ∧ ¬ (i < 0 ∨ n ≤ i.toNatClampNeg) then some (hp f a (.inl (c, n, .inl (upd g i.toNatClampNeg x)))) else none
  | _ => none
/-- a row of references -/
def rdQ (cA : ClassId) (f : hm) (a : Nat) (i : Int32) : Option (Option Nat) := match f a with
  | some (.inl (c, n, .inr (.inr (.inr (.inr g))))) => if c = cA ∧ ¬ (i < 0 ∨ n ≤ i.toNatClampNeg) then some (g i.toNatClampNeg) else none
  | _ => none
def wrQ (cA : ClassId) (f : hm) (a : Nat) (i : Int32) (v : Nat) : Option hm := match f a with
  | some (.inl (c, n, .inr (.inr (.inr (.inr g))))) => if c = cA ∧ ¬ (i < 0 ∨ n ≤ i.toNatClampNeg) then some (hp f a (.inl (c, n, .inr (.inr (.inr (.inr (va_up g i.toNatClampNeg (some v)))))))) else none
  | _ => none
def rdN (cA : ClassId) (f : hm) (a : Nat) : Option Nat := match f a with
  | some (.inl (c, n, _)) => if c = cA then some n else none
  | _ => none
def isO (f : hm) (a ci : Nat) : Prop := ∃ fs : List Value, f a = some (.inr (ci, fs))
theorem rdV_sp {f : hm} {a ci k : Nat} {v : Value} (h : rdV f a ci k = some v) : ∃ fs : List Value, f a = some (.inr (ci, fs)) ∧ fs[k]? = some v := by
  unfold rdV at h
  split at h
  · rename_i c fs hf
    split at h
    · rename_i hc
      subst hc
      exact ⟨fs, hf, h⟩
    · cases h
  · cases h
theorem wrV_sp {f f' : hm} {a ci k : Nat} {v : Value} (h : wrV f a ci k v = some f') : ∃ fs : List Value, f a = some (.inr (ci, fs)) ∧ k < fs.length ∧ f' = hp f a (.inr (ci, fs.set k v)) := by
  unfold wrV at h
  split at h
  · rename_i c fs hf
    split at h
    · rename_i hc
      obtain ⟨hc, hk⟩ := hc
      subst hc
      exact ⟨fs, hf, hk, (Option.some.inj h).symm⟩
    · cases h
  · cases h
theorem rdA_sp {cA : ClassId} {f : hm} {a : Nat} {i v : Int32} (h : rdA cA f a i = some v) : ∃ (n : Nat) (g : Nat → Int32), f a = some (.inl (cA, n, .inl g)) ∧ vp_in i n ∧ g i.toNatClampNeg = v := by
  unfold rdA at h
  split at h
  · rename_i c n g hf
    split at h
    · rename_i hc
      obtain ⟨hc, hk⟩ := hc
      subst hc
      exact ⟨n, g, hf, hk, Option.some.inj h⟩
    · cases h
  · cases h
theorem wrA_sp {cA : ClassId} {f f' : hm} {a : Nat} {i x : Int32} (h : wrA cA f a i x = some f') : ∃ (n : Nat) (g : Nat → Int32), f a = some (.inl (cA, n, .inl g)) ∧ vp_in i n ∧ f' = hp f a (.inl (cA, n, .inl (upd g i.toNatClampNeg x))) := by
  unfold wrA at h
  split at h
  · rename_i c n g hf
    split at h
    · rename_i hc
      obtain ⟨hc, hk⟩ := hc
      subst hc
      exact ⟨n, g, hf, hk, (Option.some.inj h).symm⟩
    · cases h
  · cases h
theorem rdQ_sp {cA : ClassId} {f : hm} {a : Nat} {i : Int32} {v : Option Nat} (h : rdQ cA f a i = some v) : ∃ (n : Nat) (g : Nat → Option Nat), f a = some (.inl (cA, n, .inr (.inr (.inr (.inr g))))) ∧ vp_in i n ∧ g i.toNatClampNeg = v := by
  unfold rdQ at h
  split at h
  · rename_i c n g hf
    split at h
    · rename_i hc
      obtain ⟨hc, hk⟩ := hc
      subst hc
      exact ⟨n, g, hf, hk, Option.some.inj h⟩
    · cases h
  · cases h
theorem wrQ_sp {cA : ClassId} {f f' : hm} {a : Nat} {i : Int32} {v : Nat} (h : wrQ cA f a i v = some f') : ∃ (n : Nat) (g : Nat → Option Nat), f a = some (.inl (cA, n, .inr (.inr (.inr (.inr g))))) ∧ vp_in i n ∧ f' = hp f a (.inl (cA, n, .inr (.inr (.inr (.inr (va_up g i.toNatClampNeg (some v))))))) := by
  unfold wrQ at h
  split at h
  · rename_i c n g hf
    split at h
    · rename_i hc
      obtain ⟨hc, hk⟩ := hc
      subst hc
      exact ⟨n, g, hf, hk, (Option.some.inj h).symm⟩
    · cases h
  · cases h
theorem rdN_sp {cA : ClassId} {f : hm} {a n : Nat} (h : rdN cA f a = some n) : ∃ x : vp_A, f a = some (.inl (cA, x)) ∧ x.1 = n := by
  unfold rdN at h
  split at h
  · rename_i c n g hf
    split at h
    · rename_i hc
      subst hc
      exact ⟨(n, g), hf, Option.some.inj h⟩
    · cases h
  · cases h
theorem wP.one {D : va_G} {cl : List vw_C} {f : hm} {H : Heap} {a : Nat} {e : va_E} (h : wP D cl f H) (hf : f a = some e) : va_P D cl [(a, e)] H := by
  intro k q hk
  match k, hk with
  | 0, hk => cases hk; exact h a e hf
  | k + 1, hk => simp at hk
theorem wP.put {D : va_G} {cl : List vw_C} {f : hm} {H H1 : Heap} {a : Nat} {e : va_E} (h : wP D cl f H) (he : va_at D cl (a, e) H1) (oq : ∀ q : Nat, q ≠ a → H1[q]? = H[q]?) : wP D cl (hp f a e) H1 := by
  intro q x hq
  by_cases hqa : q = a
  · subst hqa
    rw [hp_self] at hq
    cases hq
    exact he
  · rw [hp_ne _ _ hqa] at hq
    exact (h q x hq).kept (oq q hqa)
/-- a new cell -/
theorem wP.push {D : va_G} {cl : List vw_C} {f : hm} {H H1 : Heap} {e : va_E} (h : wP D cl f H) (he : va_at D cl (H.size, e) H1) (oq : ∀ q : Nat, q < H.size → H1[q]? = H[q]?) : wP D cl (hp f H.size e) H1 := by
  intro q x hq
  by_cases hqa : q = H.size
  · subst hqa
    rw [hp_self] at hq
    cases hq
    exact he
  · rw [hp_ne _ _ hqa] at hq
    exact (h q x hq).kept (oq q (h q x hq).lt)
theorem wP.fresh {D : va_G} {cl : List vw_C} {f : hm} {H : Heap} (h : wP D cl f H) {q : Nat} (hq : H.size ≤ q) : f q = none := by
  cases he : f q with
  | none => rfl
  | some e => exact absurd (h q e he).lt (Nat.not_lt.mpr hq)
theorem wD.put {A : Nat → Prop} {f : hm} {a : Nat} {e : va_E} (h : wD A f) (ha : A a) : wD A (hp f a e) := by
  intro q hq
  by_cases hqa : q = a
  · subst hqa; exact ha
  · rw [hp_ne _ _ hqa] at hq; exact h q hq
/-- where a walk stands: the world f lies in the heap, within A; nothing else has changed since H0 -/
def wS (D : va_G) (cl : List vw_C) (A : Nat → Prop) (H0 : Heap) (f : hm) (H : Heap) (locs : List Loc) : Prop := wP D cl f H ∧ wD A f ∧ va_S A H0 H locs ∧ ∀ q : Nat, H0.size ≤ q → A q
section FW
variable {p : Program} {l : Launch} {e : Env} {R : Room} {s : State} {m : MethodId} {args : Array Value} {below : List Frame} {meth : Method} {c : Code} {H : Heap} {locs : List Loc} {cells slots : Nat} {Q : State → Prop}
variable {cc : ByteArray} {pc : Nat} {ls : Array Slot} {rest : List Value} {D : va_G} {cl : List vw_C} {A : Nat → Prop} {a : Nat} {tys : List (ClassId × FieldType)} {f f' : hm} {H0 : Heap}
theorem fw_get (hexec : p.tables.exec = Jvm.exec) (hb : c.code = cc) {own ref C : String} {T : u_T} {N ci index : Nat} {Ts : List Cond} (hts : ∀ w ∈ Ts, w.before args s = true) (hin : ∀ w ∈ u_ws C T N, w ∈ Ts) (hown : s.vm.findClass own = some m.cls) (hK : va_K D cl tys s) (hS : wS D cl A H0 f H locs) (k : Nat) {v : Value} (hr : rdV f a ci k = some v) (hc : cl[ci]? = some (C, T, N)) (hk : k < N) (hlink : Cond.fieldLink own index ref (T k).2.1 (T k).2.2.1 ∈ Ts) (hsame : (T k).1 = ref) (hdg : decode cc pc = .ok (.getfield index, 3))
    (kk : W p l e R s m args below meth c H locs cells slots Q (F0 m (pc + 3) ls (v :: rest))) : W p l e R s m args below meth c H locs cells slots Q (F0 m pc ls (.ref a :: rest)) := by
  obtain ⟨fs, h1, h2⟩ := rdV_sp hr
  subst hsame
  exact va_get hexec hb hts hin hown hK (hS.1.one h1) 0 rfl hc k hk (hts _ hlink) (fun _ h9 => h9) h2 hdg kk
theorem fw_put (hexec : p.tables.exec = Jvm.exec) (hb : c.code = cc) {own ref C : String} {T : u_T} {N ci index : Nat} {Ts : List Cond} (hts : ∀ w ∈ Ts, w.before args s = true) (hin : ∀ w ∈ u_ws C T N, w ∈ Ts) (ty0 : Nat → FieldType) (hty : ∀ k, k < N → parseFieldDescriptor (T k).2.2.1 = some (ty0 k)) (hnm : ∀ a, a < N → ∀ b, b < N → a ≠ b → (T a).2.1 ≠ (T b).2.1) (hown : s.vm.findClass own = some m.cls) (hK : va_K D cl tys s) (hS : wS D cl A H0 f H locs) (k : Nat) {v : Value} (hr : wrV f a ci k v = some f') (hc : cl[ci]? = some (C, T, N)) (hk : k < N) (hlink : Cond.fieldLink own index ref (T k).2.1 (T k).2.2.1 ∈ Ts) (hsame : (T k).1 = ref) (hfin : (T k).2.2.2 = false) (hn : narrow (ty0 k) v = v) (hfit : fits (ty0 k) v = true)
    (hdg : decode cc pc = .ok (.putfield index, 3)) (kk : ∀ (H1 : Heap) (locs1 : List Loc), wS D cl A H0 f' H1 locs1 → W p l e R s m args below meth c H1 locs1 cells slots Q (F0 m (pc + 3) ls rest)) : W p l e R s m args below meth c H locs cells slots Q (F0 m pc ls (v :: .ref a :: rest)) := by
  obtain ⟨fs, he, hl, rfl⟩ := wrV_sp hr
  subst hsame
  have hap := va_apart (own := own) hts hin ty0 hty hnm hK hc
  obtain ⟨r, h1, cell, q1, q2, q3, q4⟩ := hS.1 a _ he
  have hr : r = (C, T, N) := Option.some.inj (h1.symm.trans hc)
  subst hr
  obtain ⟨hSl, hfc, kC, hkC, hkind⟩ := hK.1 ci _ hc
  obtain ⟨cf, kf, fi, fd, hi, hsl⟩ := hSl k hk
  have hlay := hts _ (hin _ (u_in_lay hk))
  unfold u_lay at hlay
  rw [if_neg (by rw [hfin]; decide)] at hlay
  have hst := (u_facts hfc hkC (u_lays hts hin hk) hi).1
  have h6 := u_store hfc hkC hkind hlay hi (hty k hk) hn hfit
  refine W.putK hexec hb (f := fd) ⟨hown, hts _ hlink, ⟨_, _, _, hi⟩, hst⟩ (by rw [q2]; exact h6) q1 q3 (by rw [hsl]; exact k2_hasslot (q4 k hk)) rfl rfl hdg fun H' e1 e2 e3 => ?_
  rw [hsl] at e1 ⊢
  have hAa : A a := hS.2.1 a (by rw [he]; exact fun h => by cases h)
  exact kk H' _ ⟨hS.1.put ⟨_, hc, t_OB.to (V := updV (vp_V fs) k v) ⟨_, e1, q2, q3, t_set q4 hap hk v⟩ (fun j _ => vp_updV_set hl v j)⟩ e3, hS.2.1.put hAa, hS.2.2.1.put e2 e3 hAa, hS.2.2.2⟩
/-- a final field, in a constructor -/
theorem fw_putF (hexec : p.tables.exec = Jvm.exec) (hb : c.code = cc) {own ref C : String} {T : u_T} {N ci index : Nat} {Ts : List Cond} (hts : ∀ w ∈ Ts, w.before args s = true) (hin : ∀ w ∈ u_ws C T N, w ∈ Ts) (ty0 : Nat → FieldType) (hty : ∀ k, k < N → parseFieldDescriptor (T k).2.2.1 = some (ty0 k)) (hnm : ∀ a, a < N → ∀ b, b < N → a ≠ b → (T a).2.1 ≠ (T b).2.1) (hown : s.vm.findClass own = some m.cls) (hK : va_K D cl tys s) (hS : wS D cl A H0 f H locs) (k : Nat) {v : Value} (hr : wrV f a ci k v = some f') (hc : cl[ci]? = some (C, T, N)) (hk : k < N) (hlink : Cond.fieldLink own index ref (T k).2.1 (T k).2.2.1 ∈ Ts) (hsame : (T k).1 = ref) (hfin : (T k).2.2.2 = true) (hin2 : meth.name = "<init>") (hdecl : (T k).1 = own) (hn : narrow (ty0 k) v = v) (hfit : fits (ty0 k) v = true)
    (hdg : decode cc pc = .ok (.putfield index, 3)) (kk : ∀ (H1 : Heap) (locs1 : List Loc), wS D cl A H0 f' H1 locs1 → W p l e R s m args below meth c H1 locs1 cells slots Q (F0 m (pc + 3) ls rest)) : W p l e R s m args below meth c H locs cells slots Q (F0 m pc ls (v :: .ref a :: rest)) := by
  obtain ⟨fs, he, hl, rfl⟩ := wrV_sp hr
  subst hsame
  have hap := va_apart (own := own) hts hin ty0 hty hnm hK hc
  obtain ⟨r, h1, cell, q1, q2, q3, q4⟩ := hS.1 a _ he
  have hr : r = (C, T, N) := Option.some.inj (h1.symm.trans hc)
  subst hr
  obtain ⟨hSl, hfc, kC, hkC, hkind⟩ := hK.1 ci _ hc
  obtain ⟨cf, kf, fi, fd, hi, hsl⟩ := hSl k hk
  have hlay := hts _ (hin _ (u_in_lay hk))
  unfold u_lay at hlay
  rw [if_pos hfin] at hlay
  have hst := (u_facts hfc hkC (u_lays hts hin hk) hi).1
  have hcf : m.cls = cf := by
    obtain ⟨_, _, c', _, _, _, -, -, hf', -, -, -, hown2, -⟩ := Cond.laysFinal_spec hlay
    have e1 : c' = cf := by have := hi.symm.trans hf'; simp at this; exact this.1.symm
    rw [hdecl] at hown2
    rw [← e1]; exact Option.some.inj (hown.symm.trans hown2)
  have h6 := u_fits hfc hkC hkind (Or.inr hlay) hi (hty k hk) hn hfit
  refine W.putFinK hexec hb hown (hts _ hlink) hi hst hcf hin2 (by rw [q2]; exact h6) q1 q3 (by rw [hsl]; exact k2_hasslot (q4 k hk)) rfl rfl hdg fun H' e1 e2 e3 => ?_
  rw [hsl] at e1 ⊢
  have hAa : A a := hS.2.1 a (by rw [he]; exact fun h => by cases h)
  exact kk H' _ ⟨hS.1.put ⟨_, hc, t_OB.to (V := updV (vp_V fs) k v) ⟨_, e1, q2, q3, t_set q4 hap hk v⟩ (fun j _ => vp_updV_set hl v j)⟩ e3, hS.2.1.put hAa, hS.2.2.1.put e2 e3 hAa, hS.2.2.2⟩
theorem fw_ald (hexec : p.tables.exec = Jvm.exec) (hb : c.code = cc) (hK : va_K D cl tys s) (hS : wS D cl A H0 f H locs) (t0 : Nat) {cA : ClassId} (ht : tys[t0]? = some (cA, .int)) {i v : Int32} (hr : rdA cA f a i = some v) (hdg : decode cc pc = .ok (.iaload, 1))
    (kk : W p l e R s m args below meth c H locs cells slots Q (F0 m (pc + 1) ls (.int v :: rest))) : W p l e R s m args below meth c H locs cells slots Q (F0 m pc ls (.int i :: .ref a :: rest)) := by
  obtain ⟨n, g, h1, h2, rfl⟩ := rdA_sp hr
  exact va_iald hexec hb hK (hS.1.one h1) 0 t0 rfl ht h2 hdg kk
theorem fw_ast (hexec : p.tables.exec = Jvm.exec) (hb : c.code = cc) (hK : va_K D cl tys s) (hS : wS D cl A H0 f H locs) (t0 : Nat) {cA : ClassId} (ht : tys[t0]? = some (cA, .int)) {i x : Int32} (hr : wrA cA f a i x = some f') (hdg : decode cc pc = .ok (.iastore, 1))
    (kk : ∀ (H1 : Heap) (locs1 : List Loc), wS D cl A H0 f' H1 locs1 → W p l e R s m args below meth c H1 locs1 cells slots Q (F0 m (pc + 1) ls rest)) : W p l e R s m args below meth c H locs cells slots Q (F0 m pc ls (.int x :: .int i :: .ref a :: rest)) := by
  obtain ⟨n, g, ha, hin, rfl⟩ := wrA_sp hr
  refine W.iast hexec hb (hS.1 a _ ha) ((hK.2 t0 _ ht).1 n (fun j => .int (g j))) (fun q => by cases q) (by show ¬ (i < 0 ∨ (arrV _ _ _).slots.size ≤ _); rw [arrV_size]; exact hin) rfl rfl hdg fun H1 e1 z oq => ?_
  have hAa : A a := hS.2.1 a (by rw [ha]; exact fun h => by cases h)
  refine kk H1 _ ⟨hS.1.put ?_ oq, hS.2.1.put hAa, hS.2.2.1.put z oq hAa, hS.2.2.2⟩
  show H1[a]? = some (vp_cell _ _)
  rw [e1]
  rw [vp_cell_i, vp_cell_i, arrV_store]
  congr 2
  funext q
  by_cases hq : q = i.toNatClampNeg
  · subst hq
    simp [updV, upd]
  · simp [updV, upd, hq]
theorem fw_alen (hexec : p.tables.exec = Jvm.exec) (hb : c.code = cc) (hK : va_K D cl tys s) (hS : wS D cl A H0 f H locs) (t0 : Nat) {cA : ClassId} {ty : FieldType} (ht : tys[t0]? = some (cA, ty)) {n : Nat} (hr : rdN cA f a = some n) (hdg : decode cc pc = .ok (.arraylength, 1))
    (kk : W p l e R s m args below meth c H locs cells slots Q (F0 m (pc + 1) ls (.int (nI n) :: rest))) : W p l e R s m args below meth c H locs cells slots Q (F0 m pc ls (.ref a :: rest)) := by
  obtain ⟨x, h1, rfl⟩ := rdN_sp hr
  exact va_alen hexec hb hK (hS.1.one h1) 0 t0 rfl ht rfl hdg kk
theorem fw_aald (hexec : p.tables.exec = Jvm.exec) (hb : c.code = cc) (hK : va_K D cl tys s) (hS : wS D cl A H0 f H locs) (t0 : Nat) {cA : ClassId} {C : String} (ht : tys[t0]? = some (cA, .object C)) {i : Int32} {v : Nat} (hr : rdQ cA f a i = some (some v)) (hdg : decode cc pc = .ok (.aaload, 1))
    (kk : W p l e R s m args below meth c H locs cells slots Q (F0 m (pc + 1) ls (.ref v :: rest))) : W p l e R s m args below meth c H locs cells slots Q (F0 m pc ls (.int i :: .ref a :: rest)) := by
  obtain ⟨n, g, h1, h2, h3⟩ := rdQ_sp hr
  refine va_aldq hexec hb hK (hS.1.one h1) 0 t0 rfl ht h2 hdg ?_
  rw [h3]
  exact kk
end FW
/-- a method's contract over worlds: from the world f, the answer r and the world f' with K -/
def MI (l : Launch) (D : va_G) (cl : List vw_C) (tys : List (ClassId × FieldType)) (y : MethodName) (ws : List Cond) (rm : Room) (av : List Value) (f : hm) (K : Int32 → hm → Prop) : Prop :=
  ∀ sz : Nat, Met l y ws rm (va_Pc av (fun U => U.heap.size = sz ∧ wP D cl f U.heap ∧ va_K D cl tys U)) (va_Qi (S := hm) K (fun f' t => wP D cl f' t.heap ∧ wD (wA f sz) f') (wA f sz)) rm.cells rm.slots (wA f sz)
def ML (l : Launch) (D : va_G) (cl : List vw_C) (tys : List (ClassId × FieldType)) (y : MethodName) (ws : List Cond) (rm : Room) (av : List Value) (f : hm) (K : Int64 → hm → Prop) : Prop :=
  ∀ sz : Nat, Met l y ws rm (va_Pc av (fun U => U.heap.size = sz ∧ wP D cl f U.heap ∧ va_K D cl tys U)) (va_Ql (S := hm) K (fun f' t => wP D cl f' t.heap ∧ wD (wA f sz) f') (wA f sz)) rm.cells rm.slots (wA f sz)
def MV (l : Launch) (D : va_G) (cl : List vw_C) (tys : List (ClassId × FieldType)) (y : MethodName) (ws : List Cond) (rm : Room) (av : List Value) (f : hm) (K : hm → Prop) : Prop :=
  ∀ sz : Nat, Met l y ws rm (va_Pc av (fun U => U.heap.size = sz ∧ wP D cl f U.heap ∧ va_K D cl tys U)) (va_Qv (S := hm) K (fun f' t => wP D cl f' t.heap ∧ wD (wA f sz) f') (wA f sz)) rm.cells rm.slots (wA f sz)
theorem Met.post {l : Launch} {y : MethodName} {ws : List Cond} {rm : Room} {Pc : Array Value → State → Prop} {Qc Qc' : Array Value → State → Outcome → State → Prop} {mc ms : Nat} {free : Addr → Prop} (h : Met l y ws rm Pc Qc mc ms free) (hq : ∀ a st o t, Qc a st o t → Qc' a st o t) : Met l y ws rm Pc Qc' mc ms free := by
  intro p e h1 h2 h3 s m args below h4 h5 h6 h7
  obtain ⟨n, o, a1, a2, a3, a4, a5⟩ := h p e h1 h2 h3 s m args below h4 h5 h6 h7
  exact ⟨n, o, a1, a2, a3, hq _ _ _ _ a4, a5⟩
theorem MI.mono {l : Launch} {D : va_G} {cl : List vw_C} {tys : List (ClassId × FieldType)} {y : MethodName} {ws : List Cond} {rm : Room} {av : List Value} {f : hm} {K K' : Int32 → hm → Prop} (h : MI l D cl tys y ws rm av f K) (hk : ∀ r f', K r f' → K' r f') : MI l D cl tys y ws rm av f K' := by
  intro sz
  refine (h sz).post ?_
  rintro a st o t ⟨⟨r, u, h1, h2, h3⟩, h4⟩
  exact ⟨⟨r, u, h1, hk _ _ h2, h3⟩, h4⟩
theorem ML.mono {l : Launch} {D : va_G} {cl : List vw_C} {tys : List (ClassId × FieldType)} {y : MethodName} {ws : List Cond} {rm : Room} {av : List Value} {f : hm} {K K' : Int64 → hm → Prop} (h : ML l D cl tys y ws rm av f K) (hk : ∀ r f', K r f' → K' r f') : ML l D cl tys y ws rm av f K' := by
  intro sz
  refine (h sz).post ?_
  rintro a st o t ⟨⟨r, u, h1, h2, h3⟩, h4⟩
  exact ⟨⟨r, u, h1, hk _ _ h2, h3⟩, h4⟩
theorem MV.mono {l : Launch} {D : va_G} {cl : List vw_C} {tys : List (ClassId × FieldType)} {y : MethodName} {ws : List Cond} {rm : Room} {av : List Value} {f : hm} {K K' : hm → Prop} (h : MV l D cl tys y ws rm av f K) (hk : ∀ f', K f' → K' f') : MV l D cl tys y ws rm av f K' := by
  intro sz
  refine (h sz).post ?_
  rintro a st o t ⟨⟨u, h1, h2, h3⟩, h4⟩
  exact ⟨⟨u, h1, hk _ h2, h3⟩, h4⟩
