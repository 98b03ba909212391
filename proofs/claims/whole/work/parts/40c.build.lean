/-! What constructors build: cells by their codes, one after the other. -/
/-- the cells of the codes S lie at ad; Naturals among them hold V; all else is as in f0 -/
def bs (E : cx) (ad : Nat → Nat) (S : Nat → Prop) (f0 : hm) (V : Nat → Nat) (f : hm) : Prop := (∀ c d, S c → S d → ad c = ad d → c = d) ∧ (∀ c, S c → f (ad c) ≠ none) ∧ (∀ k, S (14 + 2 * k) ∨ S (15 + 2 * k) → S (14 + 2 * k) ∧ S (15 + 2 * k) ∧ nat1 E f (cn ad k) (cm ad k) (V k)) ∧ ∀ q, (∀ c, S c → q ≠ ad c) → f q = f0 q
section BS
variable {E : cx} {ad nd : Nat → Nat} {S S2 : Nat → Prop} {f0 f f1 f3 : hm} {V : Nat → Nat} {c0 ci j k : Nat} {L : List Value}
theorem bs.iff (B : bs E ad S f0 V f) (h : ∀ c, S c ↔ S2 c) : bs E ad S2 f0 V f := by
  have : S = S2 := funext (fun c => propext (h c))
  rw [← this]; exact B
theorem bs.congr {V' : Nat → Nat} (B : bs E ad S f0 V f) (h : ∀ k, S (14 + 2 * k) → V k = V' k) : bs E ad S f0 V' f := ⟨B.1, B.2.1, fun k hk => by
  obtain ⟨h1, h2, h3⟩ := B.2.2.1 k hk
  exact ⟨h1, h2, by rw [← h k h1]; exact h3⟩, B.2.2.2⟩
theorem bs.poke {e : va_E} (B : bs E ad S f0 V f) (hc : S c0) (h14 : c0 < 14) : bs E ad S f0 V (hp f (ad c0) e) := by
  refine ⟨B.1, fun c h => ?_, fun k hk => ?_, fun q hq => ?_⟩
  · by_cases w : ad c = ad c0
    · rw [w, hp_self]; exact fun z => by cases z
    · rw [hp_ne _ _ w]; exact B.2.1 c h
  · obtain ⟨h1, h2, h3⟩ := B.2.2.1 k hk
    refine ⟨h1, h2, h3.kept (hp_ne _ _ ?_) (hp_ne _ _ ?_)⟩
    · intro w; have := B.1 _ _ h1 hc w; omega
    · intro w; have := B.1 _ _ h2 hc w; omega
  · rw [hp_ne _ _ (hq c0 hc), B.2.2.2 q hq]
theorem bs.merge (B : bs E ad S f0 V f) (B2 : bs E nd S2 f V f1) (N2 : ∀ c, S2 c → f (nd c) = none) (dj : ∀ c, S c → S2 c → False) : ∃ ad' : Nat → Nat, (∀ c, S c → ad' c = ad c) ∧ (∀ c, S2 c → ad' c = nd c) ∧ bs E ad' (fun c => S c ∨ S2 c) f0 V f1 ∧ ∀ c, S c → f1 (ad c) = f (ad c) := by
  have ap : ∀ c d, S c → S2 d → ad c ≠ nd d := fun c d h1 h2 w => B.2.1 c h1 (by rw [w]; exact N2 d h2)
  have kp : ∀ c, S c → f1 (ad c) = f (ad c) := fun c hc => B2.2.2.2 _ (fun d hd => ap c d hc hd)
  refine ⟨fun c => @ite _ (S2 c) (Classical.propDecidable _) (nd c) (ad c), fun c hc => if_neg (fun w => dj c hc w), fun c hc => if_pos hc, ?_, kp⟩
  have e1 : ∀ c, S c → (@ite _ (S2 c) (Classical.propDecidable _) (nd c) (ad c)) = ad c := fun c hc => if_neg (fun w => dj c hc w)
  have e2 : ∀ c, S2 c → (@ite _ (S2 c) (Classical.propDecidable _) (nd c) (ad c)) = nd c := fun c hc => if_pos hc
  refine ⟨?_, ?_, ?_, ?_⟩
  · rintro c d (hc | hc) (hd | hd) w
    · dsimp only at w; rw [e1 c hc, e1 d hd] at w; exact B.1 c d hc hd w
    · dsimp only at w; rw [e1 c hc, e2 d hd] at w; exact absurd w (ap c d hc hd)
    · dsimp only at w; rw [e2 c hc, e1 d hd] at w; exact absurd w.symm (ap d c hd hc)
    · dsimp only at w; rw [e2 c hc, e2 d hd] at w; exact B2.1 c d hc hd w
  · rintro c (hc | hc)
    · dsimp only; rw [e1 c hc, kp c hc]; exact B.2.1 c hc
    · dsimp only; rw [e2 c hc]; exact B2.2.1 c hc
  · intro k hk
    have hk' : (S (14 + 2 * k) ∨ S (15 + 2 * k)) ∨ (S2 (14 + 2 * k) ∨ S2 (15 + 2 * k)) := by
      rcases hk with (h | h) | (h | h)
      · exact Or.inl (Or.inl h)
      · exact Or.inr (Or.inl h)
      · exact Or.inl (Or.inr h)
      · exact Or.inr (Or.inr h)
    rcases hk' with h | h
    · obtain ⟨h1, h2, h3⟩ := B.2.2.1 k h
      refine ⟨Or.inl h1, Or.inl h2, ?_⟩
      show nat1 E f1 (@ite _ (S2 (14 + 2 * k)) (Classical.propDecidable _) _ _) (@ite _ (S2 (15 + 2 * k)) (Classical.propDecidable _) _ _) (V k)
      rw [e1 _ h1, e1 _ h2]
      exact h3.kept (kp _ h1) (kp _ h2)
    · obtain ⟨h1, h2, h3⟩ := B2.2.2.1 k h
      refine ⟨Or.inr h1, Or.inr h2, ?_⟩
      show nat1 E f1 (@ite _ (S2 (14 + 2 * k)) (Classical.propDecidable _) _ _) (@ite _ (S2 (15 + 2 * k)) (Classical.propDecidable _) _ _) (V k)
      rw [e2 _ h1, e2 _ h2]
      exact h3
  · intro q hq
    have h1 : ∀ c, S c → q ≠ ad c := fun c hc => by have := hq c (Or.inl hc); dsimp only at this; rwa [e1 c hc] at this
    have h2 : ∀ c, S2 c → q ≠ nd c := fun c hc => by have := hq c (Or.inr hc); dsimp only at this; rwa [e2 c hc] at this
    rw [B2.2.2.2 q h2, B.2.2.2 q h1]
/-- a new part is built, and a field of an old one names it -/
theorem bs.link (B : bs E ad S f0 V f) (B2 : bs E nd S2 f V f3) (N2 : ∀ c, S2 c → f (nd c) = none) (dj : ∀ c, S c → S2 c → False) (hc : S c0) (h14 : c0 < 14) (hL : f (ad c0) = some (.inr (ci, L))) (hj : j < L.length) (cq : Nat) :
    ∃ (ad' : Nat → Nat) (f4 : hm), wrV f3 (ad c0) ci j (.ref (nd cq)) = some f4 ∧ (∀ c, S c → ad' c = ad c) ∧ (∀ c, S2 c → ad' c = nd c) ∧ bs E ad' (fun c => S c ∨ S2 c) f0 V f4 ∧ f4 (ad' c0) = some (.inr (ci, L.set j (.ref (nd cq)))) ∧ (∀ d, S d → d ≠ c0 → f4 (ad' d) = f (ad d)) ∧ ∀ d, S2 d → f4 (ad' d) = f3 (nd d) := by
  obtain ⟨ad', a1, a2, B3, kp⟩ := B.merge B2 N2 dj
  have h3 : f3 (ad' c0) = some (.inr (ci, L)) := by rw [a1 c0 hc, kp c0 hc, hL]
  refine ⟨ad', hp f3 (ad' c0) (.inr (ci, L.set j (.ref (nd cq)))), ?_, a1, a2, B3.poke (Or.inl hc) h14, hp_self _ _ _, fun d hd hne => ?_, fun d hd => ?_⟩
  · rw [← a1 c0 hc]; exact wrV_of h3 hj
  · rw [hp_ne _ _ (fun w => hne (B3.1 _ _ (Or.inl hd) (Or.inl hc) w)), a1 d hd, kp d hd]
  · rw [hp_ne _ _ (fun w => dj c0 hc (by rw [← B3.1 _ _ (Or.inr hd) (Or.inl hc) w]; exact hd)), a2 d hd]
/-- what is new behind two steps -/
theorem bs.fresh {ad' : Nat → Nat} (B : bs E ad S f0 V f) (N : ∀ c, S c → f0 (ad c) = none) (a1 : ∀ c, S c → ad' c = ad c) (a2 : ∀ c, S2 c → ad' c = nd c) (N2 : ∀ c, S2 c → f (nd c) = none) : ∀ c, S c ∨ S2 c → f0 (ad' c) = none := by
  rintro c (hc | hc)
  · rw [a1 c hc]; exact N c hc
  · rw [a2 c hc, ← B.2.2.2 (nd c) (fun d hd w => B.2.1 d hd (by rw [← w]; exact N2 c hc))]; exact N2 c hc
theorem bs.ns (B : bs E ad S f0 V f) : nS E (cn ad) (cm ad) (fun k => S (14 + 2 * k)) f V f := by
  refine ⟨⟨fun i j hi hj w => ?_, fun i j hi hj w => ?_, fun i j hi hj w => ?_⟩, fun k hk => (B.2.2.1 k (Or.inl hk)).2.2, fun _ _ => rfl⟩
  · have := B.1 _ _ hi (B.2.2.1 j (Or.inl hj)).2.1 w; omega
  · have := B.1 _ _ hi hj w; omega
  · have := B.1 _ _ (B.2.2.1 i (Or.inl hi)).2.1 (B.2.2.1 j (Or.inl hj)).2.1 w; omega
theorem bs.op {V' : Nat → Nat} (B : bs E ad S f0 V f) (h : nS E (cn ad) (cm ad) (fun k => S (14 + 2 * k)) f V' f1) : bs E ad S f0 V' f1 ∧ ∀ c, S c → c < 14 → f1 (ad c) = f (ad c) := by
  have kp : ∀ c, S c → c < 14 → f1 (ad c) = f (ad c) := fun c hc h14 => h.2.2 _ (fun k hk => ⟨fun w => by have := B.1 _ _ hc hk w; omega, fun w => by have := B.1 _ _ hc (B.2.2.1 k (Or.inl hk)).2.1 w; omega⟩)
  refine ⟨⟨B.1, fun c hc => ?_, fun k hk => ?_, fun q hq => ?_⟩, kp⟩
  · rcases Nat.lt_or_ge c 14 with w | w
    · rw [kp c hc w]; exact B.2.1 c hc
    · obtain ⟨k, hk⟩ : ∃ k, c = 14 + 2 * k ∨ c = 15 + 2 * k := ⟨(c - 14) / 2, by omega⟩
      rcases hk with rfl | rfl
      · obtain ⟨len, g, h1, -⟩ := h.2.1 k hc
        rw [h1.1]; exact fun z => by cases z
      · obtain ⟨len, g, h1, -⟩ := h.2.1 k (B.2.2.1 k (Or.inr hc)).1
        rw [h1.2]; exact fun z => by cases z
  · obtain ⟨h1, h2, -⟩ := B.2.2.1 k hk
    exact ⟨h1, h2, h.2.1 k h1⟩
  · rw [h.2.2 q (fun k hk => ⟨hq _ hk, hq _ (B.2.2.1 k (Or.inl hk)).2.1⟩), B.2.2.2 q hq]
/-- one object alone -/
theorem bs.one {q : Nat} {e : va_E} (h14 : c0 < 14) : bs E (fun _ => q) (fun c => c = c0) f V (hp f q e) := by
  refine ⟨fun c d hc hd _ => hc.trans hd.symm, ⟨fun c _ => ?_, ⟨fun k hk => ?_, fun q' hq' => hp_ne _ _ (hq' c0 rfl)⟩⟩⟩
  · show hp f q e q ≠ none
    rw [hp_self]
    exact fun z => by cases z
  · exfalso
    rcases hk with h | h
    · have h : 14 + 2 * k = c0 := h
      omega
    · have h : 15 + 2 * k = c0 := h
      omega
abbrev ntS (k c : Nat) : Prop := c = 14 + 2 * k ∨ c = 15 + 2 * k
abbrev Z0 : Nat → Nat := fun _ => 0
/-- a new Natural, the k-th -/
theorem I1_new {C : Nat → hm → Prop} (k : Nat) (c : ∀ (q : Nat) (nd : Nat → Nat) (f' : hm), nd (14 + 2 * k) = q → bs E nd (ntS k) f Z0 f' → (∀ c, ntS k c → f (nd c) = none) → C q f') : ∀ q, f q = none → S_X1_init E q (hp f q (.inr (1, [.null, .int 0]))) (C q) := by
  intro q hq
  refine T_X1_init ?_
  unfold X_X1_init_0
  intro m hm
  have hmq : m ≠ q := fun w => by rw [w, hp_self] at hm; cases hm
  rw [hp_ne _ _ hmq] at hm
  have h1 : hp (hp f q (.inr (1, [.null, .int 0]))) m (.inl (eI E, 20, .inl (fun _ => 0))) q = some (.inr (1, [.null, .int 0])) := by rw [hp_ne _ _ (Ne.symm hmq), hp_self]
  refine ⟨_, wrV_of h1 (by simp), _, wrV_of (hp_self _ _ _) (by simp), ?_⟩
  rw [hp_hp]
  obtain ⟨nd, n1, n2⟩ : ∃ nd : Nat → Nat, nd (14 + 2 * k) = q ∧ nd (15 + 2 * k) = m := ⟨fun c => if c = 14 + 2 * k then q else m, if_pos rfl, if_neg (by omega)⟩
  refine c q nd _ n1 ⟨?_, ?_, ?_, ?_⟩ ?_
  · rintro c d (rfl | rfl) (rfl | rfl) w
    · rfl
    · rw [n1, n2] at w; exact absurd w.symm hmq
    · rw [n1, n2] at w; exact absurd w hmq
    · rfl
  · rintro c (rfl | rfl)
    · rw [n1, hp_self]; exact fun z => by cases z
    · rw [n2, hp_ne _ _ hmq, hp_self]; exact fun z => by cases z
  · intro k' hk'
    have : k' = k := by omega
    subst this
    refine ⟨Or.inl rfl, Or.inr rfl, 0, fun _ => 0, ⟨?_, ?_⟩, ⟨show 0 < 4294967296 ^ 0 by decide, Or.inl rfl⟩, by omega, fun i _ => by show (0 : Int32) = nI (dg 4294967296 0 i); rw [dg_zero]; rfl⟩
    · show hp _ q _ (nd _) = some (.inr (1, [.ref (nd _), .int (nI 0)]))
      rw [n1, n2, hp_self]; rfl
    · show hp _ q _ (nd _) = _
      rw [n2, hp_ne _ _ hmq, hp_self]
  · intro x hx
    have x1 : x ≠ q := by have := hx (14 + 2 * k) (Or.inl rfl); rwa [n1] at this
    have x2 : x ≠ m := by have := hx (15 + 2 * k) (Or.inr rfl); rwa [n2] at this
    rw [hp_ne _ _ x1, hp_ne _ _ x2, hp_ne _ _ x1]
  · rintro c (rfl | rfl)
    · rw [n1]; exact hq
    · rw [n2]; exact hm
end BS
