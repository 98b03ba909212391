/-! The law's cell(); the law's state. -/
def cellv (L : Nat) (xs : Nat → Int32) (k : Nat) : Int32 := if k < L then xs k else 0
set_option maxRecDepth 100000 in
theorem c_cell (l : Launch) (b L : Nat) (xs : Nat → Int32) (hL : L < 2 ^ 30) (k : Nat) (hk : k < 2 ^ 30) : Met l yL_cell wsL_cell ({ frames := 0, cells := 0, slots := 0, locals := 0 }) (va_Pc [.ref b, .int (nI k)] (fun U => b < U.heap.size ∧ va_X b L xs U U.heap)) (va_Qi (fun (r : Int32) (_ : Unit) => r = cellv L xs k) (fun _ _ => True) (fun _ => False)) 0 0 (fun _ => False) := by
  refine Met.ofW (cc := cL_cell) (maxL := 2) (ret := some .int) (by decide) rfl ?_
  intro p e s m args below meth c s₁ B hml hv
  obtain ⟨rfl, hbl, hX⟩ := hv
  have hx := B.exec
  have hb := B.bytes
  have hr := B.returns
  have hlk := B.notSynchronized
  have hS : va_S (fun _ : Nat => False) s.heap s.heap [] := va_S.rf
  have hl := lv_entry ([.ref b, .int (nI k)]) (n := 2) (Nat.le_of_ble_eq_true rfl)
  rw [lg_entry_eq]
  generalize (lg_sl ([.ref b, .int (nI k)]) ++ List.replicate (2 - (lg_sl ([.ref b, .int (nI k)])).length) Slot.unset).toArray = ls at hl ⊢
  have hl : lv_has ls 2 [(0, .ref b), (1, .int (nI k))] := hl
  refine lv_iload_n hx hb dL_cell_0 rfl (lv_at hl 1 rfl) ?_
  refine lv_aload_n hx hb dL_cell_1 rfl (lv_at hl 0 rfl) ?_
  refine va_slen hx hb hX hbl (fun z => z) hS dL_cell_2 ?_
  refine lv_icmp_ge (tgt := 12) hx hb dL_cell_3 (by decide) (fun c1 => ?_) (fun c1 => ?_)
  · have h1 : L ≤ k := (nI_leI (by omega) (by omega)).mp c1
    refine lv_iconst (v := 0) hx hb dL_cell_12 (by decide) ?_
    exact W.iret (v := 0) hx hb hr (fun t ht hW => ⟨⟨0, (), rfl, by rw [cellv, if_neg (by omega)], trivial⟩, hS.F ht⟩) hS.2.2 dL_cell_13 hlk
  · have h1 : ¬ L ≤ k := fun z => c1 ((nI_leI (by omega) (by omega)).mpr z)
    refine lv_aload_n hx hb dL_cell_6 rfl (lv_at hl 0 rfl) ?_
    refine lv_iload_n hx hb dL_cell_7 rfl (lv_at hl 1 rfl) ?_
    refine va_sld hx hb hX hbl (fun z => z) hS (vp_in_nI (show k < L by omega) (by omega)) dL_cell_8 ?_
    refine lv_goto (tgt := 13) hx hb dL_cell_9 (by decide) ?_
    exact W.iret (v := xs (nI k).toNatClampNeg) hx hb hr (fun t ht hW => ⟨⟨_, (), rfl, by rw [cellv, if_pos (by omega), nI_clamp (by omega)], trivial⟩, hS.F ht⟩) hS.2.2 dL_cell_13 hlk
section LC
variable {p : Program} {l : Launch} {e : Env} {R : Room} {s : State} {m : MethodId} {args : Array Value} {below : List Frame} {meth : Method} {c : Code} {H : Heap} {locs : List Loc} {cells slots : Nat} {Q : State → Prop}
variable {cc : ByteArray} {pc : Nat} {ls : Array Slot} {rest st0 : List Value} {D : va_G} {cl : List vw_C} {A : Nat → Prop} {f : hm} {H0 : Heap} {nL : Nat} {Ts : List Cond}
/-- the law reads its script by cell() -/
theorem fw_cell {b L k : Nat} {xs : Nat → Int32} (hexec : p.tables.exec = Jvm.exec) (hb : c.code = cc) (hml : c.maxLocals = nL) (hown : s.vm.findClass RL = some m.cls) (hts : ∀ w ∈ Ts, w.before args s = true) (hG : GoodIn Ts (va_wsS RL 9 yL_cell wsL_cell)) (hX : va_X b L xs s H0) (hbl : b < H0.size) (hbA : ¬ A b) (hS : wS D cl A H0 f H locs) (hL : L < 2 ^ 30) (hk : k < 2 ^ 30) (rest : List Value)
    (hR : 1 ≤ R.frames ∧ 21 ≤ R.locals) (hsz : ls.size = nL) (hst : st0 = .int (nI k) :: .ref b :: rest) (hroom : (rest.map fun v => v.category).sum ≤ 8) (hdg : decode cc pc = .ok (.invokestatic 9, 3)) (hf : cells ≤ R.cells ∧ slots ≤ R.slots)
    (kk : ∀ (H1 : Heap) (locs1 : List Loc), wS D cl A H0 f H1 locs1 → W p l e R s m args below meth c H1 locs1 cells slots Q (F0 m (pc + 3) ls (.int (cellv L xs k) :: rest))) : W p l e R s m args below meth c H locs cells slots Q (F0 m pc ls st0) := by
  have hbH : H[b]? = H0[b]? := hS.2.2.1.2.1 b hbl hbA
  refine va_calli (va_runS (As := [.ref b, .int (nI k)]) (rest := rest) ⟨hexec, hb, hml, hown, hts⟩ (c_cell l b L xs hL k hk) (va_cwS 2 hts hG rfl rfl rfl (by decide +kernel) hR) ⟨fun a U g mk q => ?_, fun U hU hW => ⟨rfl, ?_, ?_⟩⟩ rfl rfl hsz hst (lv_room hroom) hdg hf) hS.2.2.1 (fun q _ h => h.elim) (fun q h => h.elim) (fun r u t H1 locs1 ht hvm hw hB hz1 hk1 hS1 => ?_)
  · obtain ⟨q0, q1, q2⟩ := q
    exact ⟨q0, q1, va_X.moved (u := U) (U := U.calling g mk a) (Vm.Alike.refl U.vm) q2⟩
  · rw [hU]; exact Nat.lt_of_lt_of_le hbl hS.2.2.1.1
  · rw [hU]; exact (hX.kept hbH).moved hW.alike
  · subst hw
    exact kk H1 locs1 ⟨fun a e he => (hS.1 a e he).kept (hk1 a ((hS.1 a e he).lt) (fun z => z)), hS.2.1, hS1, hS.2.2.2⟩
end LC
/-! The law's state: class and reference stand at the same abstract state, apart from one another. -/
section LST
variable {E : cx} {ad : Nat → Nat} {h ab as R W : Nat} {A A' : regs} {cf cf' : Int × Nat} {f f1 f2 : hm}
def lwS (E : cx) (ad : Nat → Nat) (h ab as R W : Nat) (A : regs) (cf : Int × Nat) (f : hm) : Prop := aOK R W A cf ∧ cQ E ad R W f A cf f ∧ rQ E h ab as R W f A cf f ∧ ∀ c, cA R c → ad c ≠ h ∧ ad c ≠ ab ∧ ad c ≠ as
theorem cQ.frame {f0 : hm} (Q : cQ E ad R W f0 A cf f) : ∀ q, (∀ c, cA R c → q ≠ ad c) → f q = f0 q := by
  obtain ⟨V, sg, a, b, u, l, ou, ol, g, o, x, H, -⟩ := Q
  exact H.1.2.2.2
theorem rQ.frame {f0 : hm} (Q : rQ E h ab as R W f0 A cf f) : ∀ q, q ≠ h → q ≠ ab → q ≠ as → f q = f0 q := by
  obtain ⟨N, sn, sg, go, gs, ⟨b, H, -⟩, -⟩ := Q
  exact H.2.2.2.1
theorem rQ.o {f0 : hm} (Q : rQ E h ab as R W f0 A cf f) : isO f h 5 := by
  obtain ⟨N, sn, sg, go, gs, ⟨b, H, -⟩, -⟩ := Q
  exact H.o
theorem cQ.o {f0 : hm} (Q : cQ E ad R W f0 A cf f) : isO f (ad 0) 4 := by
  obtain ⟨V, sg, a, b, u, l, ou, ol, g, o, x, H, -⟩ := Q
  exact H.o0
theorem cQ.mv {f0 : hm} (Q : cQ E ad R W f0 A cf f) (h : ∀ c, cA R c → f1 (ad c) = f (ad c)) : cQ E ad R W f1 A cf f1 := by
  obtain ⟨V, sg, a, b, u, l, ou, ol, g, o, x, ⟨⟨k1, k2, k3, k4⟩, m1, ⟨gr, m2, m3⟩, m4, m5, m6⟩, hab, hG, hT⟩ := Q
  refine ⟨V, sg, a, b, u, l, ou, ol, g, o, x, ⟨⟨k1, k2, ⟨k3.1, fun k hk => (k3.2.1 k hk).kept (h _ (cA_n hk)) (h _ (cA_m hk)), fun _ _ => rfl⟩, fun _ _ => rfl⟩, ?_, ⟨gr, ?_, m3⟩, fun k hk => ?_, ?_, ?_⟩, hab, hG, hT⟩
  · rw [h 0 (cA_s (by decide)), m1]
  · rw [h 1 (cA_s (by decide)), m2]
  · rw [h _ (cA_F hk), m4 k hk]
  · rw [h 2 (cA_s (by decide)), m5]
  · rw [h 3 (cA_s (by decide)), m6]
theorem rQ.mv {f0 : hm} (Q : rQ E h ab as R W f0 A cf f) (h1 : f1 h = f h) (h2 : f1 ab = f ab) (h3 : f1 as = f as) : rQ E h ab as R W f1 A cf f1 := by
  obtain ⟨N, sn, sg, go, gs, ⟨b, ⟨k1, k2, k3, k4, k5, k6, k7⟩, hN⟩, hT⟩ := Q
  exact ⟨N, sn, sg, go, gs, ⟨b, ⟨k1, k2, k3, fun _ _ _ _ => rfl, by rw [h1, k5], by rw [h2, k6], by rw [h3, k7]⟩, hN⟩, hT⟩
/-- behind the class's call -/
theorem lwS.ref (S : lwS E ad h ab as R W A cf f) (Q : cQ E ad R W f A' cf' f1) : rQ E h ab as R W f1 A cf f1 :=
  S.2.2.1.mv (Q.frame _ (fun c hc => Ne.symm (S.2.2.2 c hc).1)) (Q.frame _ (fun c hc => Ne.symm (S.2.2.2 c hc).2.1)) (Q.frame _ (fun c hc => Ne.symm (S.2.2.2 c hc).2.2))
/-- behind both calls -/
theorem lwS.next (S : lwS E ad h ab as R W A cf f) (ok : aOK R W A' cf') (Q : cQ E ad R W f A' cf' f1) (P : rQ E h ab as R W f1 A' cf' f2) : lwS E ad h ab as R W A' cf' f2 :=
  ⟨ok, Q.mv (fun c hc => P.frame _ (S.2.2.2 c hc).1 (S.2.2.2 c hc).2.1 (S.2.2.2 c hc).2.2), P.mv rfl rfl rfl, S.2.2.2⟩
end LST
