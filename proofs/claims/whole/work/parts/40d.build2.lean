/-! What the nested constructors build. -/
abbrev frS (k c : Nat) : Prop := c = 4 + k ∨ (14 + 4 * k ≤ c ∧ c ≤ 17 + 4 * k)
abbrev rdS (c : Nat) : Prop := c = 2 ∨ (54 ≤ c ∧ c ≤ 59)
abbrev brS (c : Nat) : Prop := c = 3 ∨ (60 ≤ c ∧ c ≤ 73)
def gF (ad : Nat → Nat) (f : hm) (k : Nat) : Prop := f (ad (4 + k)) = some (.inr (0, [.int 0, .ref (cn ad (2 * k)), .ref (cn ad (2 * k + 1))]))
def gR (ad : Nat → Nat) (f : hm) : Prop := f (ad 2) = some (.inr (3, cR ad 20 21))
def gB (ad : Nat → Nat) (f : hm) : Prop := f (ad 3) = some (.inr (2, cB ad 0 1 1 0 23 24 25))
section BS2
variable {E : cx} {ad ad' nd : Nat → Nat} {S S2 : Nat → Prop} {f0 f f' : hm} {k : Nat}
theorem gF.mv (h : gF ad f k) (h1 : ad' (4 + k) = ad (4 + k)) (h2 : ad' (14 + 2 * (2 * k)) = ad (14 + 2 * (2 * k))) (h3 : ad' (14 + 2 * (2 * k + 1)) = ad (14 + 2 * (2 * k + 1))) (hf : f' (ad' (4 + k)) = f (ad (4 + k))) : gF ad' f' k := by
  unfold gF cn at *
  rw [hf, h, h2, h3]
theorem gR.mv (h : gR ad f) (hk : ∀ c, rdS c → ad' c = ad c) (hf : f' (ad' 2) = f (ad 2)) : gR ad' f' := by
  unfold gR cR cn at *
  rw [hf, h, hk (14 + 2 * 20) (by omega), hk (14 + 2 * 21) (by omega), hk (14 + 2 * 22) (by omega)]
theorem gB.mv (h : gB ad f) (hk : ∀ c, brS c → ad' c = ad c) (hf : f' (ad' 3) = f (ad 3)) : gB ad' f' := by
  unfold gB cB cn at *
  rw [hf, h, hk (14 + 2 * 23) (by omega), hk (14 + 2 * 24) (by omega), hk (14 + 2 * 25) (by omega), hk (14 + 2 * 26) (by omega), hk (14 + 2 * 27) (by omega), hk (14 + 2 * 28) (by omega), hk (14 + 2 * 29) (by omega)]
/-- a field gets a new Natural, the k-th -/
theorem stepN {Rst : hm → Prop} {c0 ci j : Nat} {L : List Value} (k : Nat) (B : bs E ad S f0 Z0 f) (hc : S c0) (h14 : c0 < 14) (hL : f (ad c0) = some (.inr (ci, L))) (hj : j < L.length) (hk : ∀ c, S c → ntS k c → False)
    (c : ∀ (ad' : Nat → Nat) (f' : hm), (∀ c, S c → ad' c = ad c) → (∀ (N : ∀ c, S c → f0 (ad c) = none), ∀ c, S c ∨ ntS k c → f0 (ad' c) = none) → bs E ad' (fun c => S c ∨ ntS k c) f0 Z0 f' → f' (ad' c0) = some (.inr (ci, L.set j (.ref (cn ad' k)))) → (∀ d, S d → d ≠ c0 → f' (ad' d) = f (ad d)) → Rst f') :
    ∀ q2, f q2 = none → S_X1_init E q2 (hp f q2 (.inr (1, [.null, .int 0]))) (fun f3 => ∃ f4 : hm, wrV f3 (ad c0) ci j (.ref q2) = some f4 ∧ Rst f4) := by
  refine I1_new (C := fun q2 f3 => ∃ f4 : hm, wrV f3 (ad c0) ci j (.ref q2) = some f4 ∧ Rst f4) k (fun q nd f3 hq B2 N2 => ?_)
  obtain ⟨ad', f4, w, a1, a2, B3, e1, e2, e3⟩ := B.link B2 N2 hk hc h14 hL hj (14 + 2 * k)
  rw [← a2 _ (Or.inl rfl)] at e1
  exact ⟨f4, by rw [← hq]; exact w, c ad' f4 a1 (fun N => B.fresh N a1 a2 N2) B3 e1 e2⟩
theorem I0_new {C : Nat → hm → Prop} (k : Nat) (hk : k < 10) (c : ∀ (q : Nat) (nd : Nat → Nat) (f' : hm), nd (4 + k) = q → bs E nd (frS k) f Z0 f' → (∀ c, frS k c → f (nd c) = none) → gF nd f' k → C q f') : ∀ q, f q = none → S_X0_init E q (hp f q (.inr (0, [.int 0, .null, .null]))) (C q) := by
  intro q hq
  refine T_X0_init ?_
  unfold X_X0_init_0
  have B0 : bs E (fun _ => q) (fun c => c = 4 + k) f Z0 (hp f q (.inr (0, [.int 0, .null, .null]))) := bs.one (by omega)
  refine ⟨_, wrV_of (hp_self _ _ _) (by simp), ?_⟩
  rw [hp_hp]
  have N0 : ∀ c, c = 4 + k → f ((fun _ => q : Nat → Nat) c) = none := fun _ _ => hq
  refine stepN (2 * k) (ad := fun _ => q) (c0 := 4 + k) B0 rfl (by omega) (hp_self _ _ _) (by simp) (fun c h1 h2 => by unfold ntS at h2; omega) (fun ad1 f1 a1 N1 B1 e1 o1 => ?_)
  have N1 := N1 N0
  have q1 : ad1 (4 + k) = q := a1 _ rfl
  have st := stepN (E := E) (Rst := fun f' => C q f') (2 * k + 1) (ad := ad1) (c0 := 4 + k) (j := 2) B1 (Or.inl rfl) (by omega) e1 (by simp) (fun c h1 h2 => by unfold ntS at h1 h2; omega) (fun ad2 f2 a2 N2 B2 e2 o2 => ?_)
  · rw [q1] at st
    exact st
  · have N2 := N2 N1
    have hS : ∀ c, ((c = 4 + k ∨ ntS (2 * k) c) ∨ ntS (2 * k + 1) c) ↔ frS k c := fun c => by unfold ntS frS; omega
    refine c q ad2 f2 (by rw [a2 _ (Or.inl rfl), q1]) (B2.iff hS) (fun c hc => N2 c ((hS c).mpr hc)) ?_
    unfold gF
    rw [e2]
    have : ad2 (14 + 2 * (2 * k)) = ad1 (14 + 2 * (2 * k)) := a2 _ (Or.inr (Or.inl rfl))
    unfold cn
    rw [this]
    rfl
theorem I3_new {C : Nat → hm → Prop} (c : ∀ (q : Nat) (nd : Nat → Nat) (f' : hm), nd 2 = q → bs E nd rdS f Z0 f' → (∀ c, rdS c → f (nd c) = none) → gR nd f' → C q f') : ∀ q, f q = none → S_X3_init E q (hp f q (.inr (3, [.null, .null, .null]))) (C q) := by
  intro q hq
  refine T_X3_init ?_
  unfold X_X3_init_0
  have B0 : bs E (fun _ => q) (fun c => c = 2) f Z0 (hp f q (.inr (3, [.null, .null, .null]))) := bs.one (by omega)
  have N0 : ∀ c, c = 2 → f ((fun _ => q : Nat → Nat) c) = none := fun _ _ => hq
  refine stepN 20 (ad := fun _ => q) (c0 := 2) B0 rfl (by omega) (hp_self _ _ _) (by simp) (fun c h1 h2 => by unfold ntS at h2; omega) (fun ad1 f1 a1 N1 B1 e1 o1 => ?_)
  have N1 := N1 N0
  have q1 : ad1 2 = q := a1 _ rfl
  have st := stepN (E := E) (Rst := fun f3 => ∀ q7 : Nat, f3 q7 = none → S_X1_init E q7 (hp f3 q7 (.inr (1, [.null, .int 0]))) (fun f8 => ∃ f9 : hm, wrV f8 q 3 2 (.ref q7) = some f9 ∧ C q f9)) 21 (ad := ad1) (c0 := 2) (j := 1) B1 (Or.inl rfl) (by omega) e1 (by simp) (fun c h1 h2 => by unfold ntS at h1 h2; omega) (fun ad2 f2 a2 N2 B2 e2 o2 => ?_)
  · rw [q1] at st
    exact st
  · have N2 := N2 N1
    have q2 : ad2 2 = q := by rw [a2 _ (Or.inl rfl), q1]
    have st := stepN (E := E) (Rst := fun f' => C q f') 22 (ad := ad2) (c0 := 2) (j := 2) B2 (Or.inl (Or.inl rfl)) (by omega) e2 (by simp) (fun c h1 h2 => by unfold ntS at h1 h2; omega) (fun ad3 f3 a3 N3 B3 e3 o3 => ?_)
    · rw [q2] at st
      exact st
    · have N3 := N3 N2
      have hS : ∀ c, (((c = 2 ∨ ntS 20 c) ∨ ntS 21 c) ∨ ntS 22 c) ↔ rdS c := fun c => by unfold ntS rdS; omega
      refine c q ad3 f3 (by rw [a3 _ (Or.inl (Or.inl rfl)), q2]) (B3.iff hS) (fun c hc => N3 c ((hS c).mpr hc)) ?_
      unfold gR cR
      rw [e3]
      have e4 : cn ad3 20 = cn ad1 20 := (a3 _ (Or.inl (Or.inr (Or.inl rfl)))).trans (a2 _ (Or.inr (Or.inl rfl)))
      have e5 : cn ad3 21 = cn ad2 21 := a3 _ (Or.inr (Or.inl rfl))
      rw [e4, e5]
      rfl
end BS2
