/-! What the constructors of the search and of the class build. -/
section BS3
variable {E : cx} {ad ad' nd : Nat → Nat} {S S2 : Nat → Prop} {f0 f f' : hm} {k : Nat}
theorem I2_new {C : Nat → hm → Prop} (c : ∀ (q : Nat) (nd : Nat → Nat) (f' : hm), nd 3 = q → bs E nd brS f Z0 f' → (∀ c, brS c → f (nd c) = none) → gB nd f' → C q f') : ∀ q, f q = none → S_X2_init E q (hp f q (.inr (2, [.long 0, .long 0, .long 0, .long 0, .null, .null, .null, .null, .null, .null, .null]))) (C q) := by
  intro q hq
  refine T_X2_init ?_
  unfold X_X2_init_0
  refine ⟨_, wrV_of (hp_self _ _ _) (by simp), _, wrV_of (hp_self _ _ _) (by simp), _, wrV_of (hp_self _ _ _) (by simp), _, wrV_of (hp_self _ _ _) (by simp), ?_⟩
  rw [hp_hp, hp_hp, hp_hp, hp_hp]
  have B0 : bs E (fun _ => q) (fun c => c = 3) f Z0 (hp f q (.inr (2, [.long 0, .long 1, .long 1, .long 0, .null, .null, .null, .null, .null, .null, .null]))) := bs.one (by omega)
  have N0 : ∀ c, c = 3 → f ((fun _ => q : Nat → Nat) c) = none := fun _ _ => hq
  have e0 : hp f q (.inr (2, [.long 0, .long 1, .long 1, .long 0, .null, .null, .null, .null, .null, .null, .null])) ((fun _ => q : Nat → Nat) 3) = some (.inr (2, [.long 0, .long 1, .long 1, .long 0, .null, .null, .null, .null, .null, .null, .null])) := hp_self _ _ _
  have q0 : (fun _ => q : Nat → Nat) 3 = q := rfl
  have st := stepN (E := E) (Rst := fun f' => (∀ q1 : Nat, f' q1 = none → S_X1_init E q1 (hp f' q1 (.inr (1, [.null, .int 0]))) (fun g1 => ∃ h1 : hm, wrV g1 q 2 5 (.ref q1) = some h1 ∧ (∀ q2 : Nat, h1 q2 = none → S_X1_init E q2 (hp h1 q2 (.inr (1, [.null, .int 0]))) (fun g2 => ∃ h2 : hm, wrV g2 q 2 6 (.ref q2) = some h2 ∧ (∀ q3 : Nat, h2 q3 = none → S_X1_init E q3 (hp h2 q3 (.inr (1, [.null, .int 0]))) (fun g3 => ∃ h3 : hm, wrV g3 q 2 7 (.ref q3) = some h3 ∧ (∀ q4 : Nat, h3 q4 = none → S_X1_init E q4 (hp h3 q4 (.inr (1, [.null, .int 0]))) (fun g4 => ∃ h4 : hm, wrV g4 q 2 8 (.ref q4) = some h4 ∧ (∀ q5 : Nat, h4 q5 = none → S_X1_init E q5 (hp h4 q5 (.inr (1, [.null, .int 0]))) (fun g5 => ∃ h5 : hm, wrV g5 q 2 9 (.ref q5) = some h5 ∧ (∀ q6 : Nat, h5 q6 = none → S_X1_init E q6 (hp h5 q6 (.inr (1, [.null, .int 0]))) (fun g6 => ∃ h6 : hm, wrV g6 q 2 10 (.ref q6) = some h6 ∧ C q h6))))))))))))) 23 (ad := (fun _ => q)) (c0 := 3) (j := 4) B0 (rfl) (by omega) e0 (by simp) (fun c h1 h2 => by unfold ntS at h2; omega) (fun ad1 f1 a1 N1 B1 e1 o1 => ?_)
  · exact st
  · have N1 := N1 N0
    have q1 : ad1 3 = q := a1 _ rfl
    have st := stepN (E := E) (Rst := fun f' => (∀ q2 : Nat, f' q2 = none → S_X1_init E q2 (hp f' q2 (.inr (1, [.null, .int 0]))) (fun g2 => ∃ h2 : hm, wrV g2 q 2 6 (.ref q2) = some h2 ∧ (∀ q3 : Nat, h2 q3 = none → S_X1_init E q3 (hp h2 q3 (.inr (1, [.null, .int 0]))) (fun g3 => ∃ h3 : hm, wrV g3 q 2 7 (.ref q3) = some h3 ∧ (∀ q4 : Nat, h3 q4 = none → S_X1_init E q4 (hp h3 q4 (.inr (1, [.null, .int 0]))) (fun g4 => ∃ h4 : hm, wrV g4 q 2 8 (.ref q4) = some h4 ∧ (∀ q5 : Nat, h4 q5 = none → S_X1_init E q5 (hp h4 q5 (.inr (1, [.null, .int 0]))) (fun g5 => ∃ h5 : hm, wrV g5 q 2 9 (.ref q5) = some h5 ∧ (∀ q6 : Nat, h5 q6 = none → S_X1_init E q6 (hp h5 q6 (.inr (1, [.null, .int 0]))) (fun g6 => ∃ h6 : hm, wrV g6 q 2 10 (.ref q6) = some h6 ∧ C q h6))))))))))) 24 (ad := ad1) (c0 := 3) (j := 5) B1 (Or.inl rfl) (by omega) e1 (by simp) (fun c h1 h2 => by unfold ntS at h1 h2; omega) (fun ad2 f2 a2 N2 B2 e2 o2 => ?_)
    · rw [q1] at st
      exact st
    · have N2 := N2 N1
      have q2 : ad2 3 = q := by rw [a2 _ (Or.inl rfl), q1]
      have st := stepN (E := E) (Rst := fun f' => (∀ q3 : Nat, f' q3 = none → S_X1_init E q3 (hp f' q3 (.inr (1, [.null, .int 0]))) (fun g3 => ∃ h3 : hm, wrV g3 q 2 7 (.ref q3) = some h3 ∧ (∀ q4 : Nat, h3 q4 = none → S_X1_init E q4 (hp h3 q4 (.inr (1, [.null, .int 0]))) (fun g4 => ∃ h4 : hm, wrV g4 q 2 8 (.ref q4) = some h4 ∧ (∀ q5 : Nat, h4 q5 = none → S_X1_init E q5 (hp h4 q5 (.inr (1, [.null, .int 0]))) (fun g5 => ∃ h5 : hm, wrV g5 q 2 9 (.ref q5) = some h5 ∧ (∀ q6 : Nat, h5 q6 = none → S_X1_init E q6 (hp h5 q6 (.inr (1, [.null, .int 0]))) (fun g6 => ∃ h6 : hm, wrV g6 q 2 10 (.ref q6) = some h6 ∧ C q h6))))))))) 25 (ad := ad2) (c0 := 3) (j := 6) B2 (Or.inl (Or.inl rfl)) (by omega) e2 (by simp) (fun c h1 h2 => by unfold ntS at h1 h2; omega) (fun ad3 f3 a3 N3 B3 e3 o3 => ?_)
      · rw [q2] at st
        exact st
      · have N3 := N3 N2
        have q3 : ad3 3 = q := by rw [a3 _ (Or.inl (Or.inl rfl)), q2]
        have st := stepN (E := E) (Rst := fun f' => (∀ q4 : Nat, f' q4 = none → S_X1_init E q4 (hp f' q4 (.inr (1, [.null, .int 0]))) (fun g4 => ∃ h4 : hm, wrV g4 q 2 8 (.ref q4) = some h4 ∧ (∀ q5 : Nat, h4 q5 = none → S_X1_init E q5 (hp h4 q5 (.inr (1, [.null, .int 0]))) (fun g5 => ∃ h5 : hm, wrV g5 q 2 9 (.ref q5) = some h5 ∧ (∀ q6 : Nat, h5 q6 = none → S_X1_init E q6 (hp h5 q6 (.inr (1, [.null, .int 0]))) (fun g6 => ∃ h6 : hm, wrV g6 q 2 10 (.ref q6) = some h6 ∧ C q h6))))))) 26 (ad := ad3) (c0 := 3) (j := 7) B3 (Or.inl (Or.inl (Or.inl rfl))) (by omega) e3 (by simp) (fun c h1 h2 => by unfold ntS at h1 h2; omega) (fun ad4 f4 a4 N4 B4 e4 o4 => ?_)
        · rw [q3] at st
          exact st
        · have N4 := N4 N3
          have q4 : ad4 3 = q := by rw [a4 _ (Or.inl (Or.inl (Or.inl rfl))), q3]
          have st := stepN (E := E) (Rst := fun f' => (∀ q5 : Nat, f' q5 = none → S_X1_init E q5 (hp f' q5 (.inr (1, [.null, .int 0]))) (fun g5 => ∃ h5 : hm, wrV g5 q 2 9 (.ref q5) = some h5 ∧ (∀ q6 : Nat, h5 q6 = none → S_X1_init E q6 (hp h5 q6 (.inr (1, [.null, .int 0]))) (fun g6 => ∃ h6 : hm, wrV g6 q 2 10 (.ref q6) = some h6 ∧ C q h6))))) 27 (ad := ad4) (c0 := 3) (j := 8) B4 (Or.inl (Or.inl (Or.inl (Or.inl rfl)))) (by omega) e4 (by simp) (fun c h1 h2 => by unfold ntS at h1 h2; omega) (fun ad5 f5 a5 N5 B5 e5 o5 => ?_)
          · rw [q4] at st
            exact st
          · have N5 := N5 N4
            have q5 : ad5 3 = q := by rw [a5 _ (Or.inl (Or.inl (Or.inl (Or.inl rfl)))), q4]
            have st := stepN (E := E) (Rst := fun f' => (∀ q6 : Nat, f' q6 = none → S_X1_init E q6 (hp f' q6 (.inr (1, [.null, .int 0]))) (fun g6 => ∃ h6 : hm, wrV g6 q 2 10 (.ref q6) = some h6 ∧ C q h6))) 28 (ad := ad5) (c0 := 3) (j := 9) B5 (Or.inl (Or.inl (Or.inl (Or.inl (Or.inl rfl))))) (by omega) e5 (by simp) (fun c h1 h2 => by unfold ntS at h1 h2; omega) (fun ad6 f6 a6 N6 B6 e6 o6 => ?_)
            · rw [q5] at st
              exact st
            · have N6 := N6 N5
              have q6 : ad6 3 = q := by rw [a6 _ (Or.inl (Or.inl (Or.inl (Or.inl (Or.inl rfl))))), q5]
              have st := stepN (E := E) (Rst := fun f' => C q f') 29 (ad := ad6) (c0 := 3) (j := 10) B6 (Or.inl (Or.inl (Or.inl (Or.inl (Or.inl (Or.inl rfl)))))) (by omega) e6 (by simp) (fun c h1 h2 => by unfold ntS at h1 h2; omega) (fun ad7 f7 a7 N7 B7 e7 o7 => ?_)
              · rw [q6] at st
                exact st
              · have N7 := N7 N6
                have q7 : ad7 3 = q := by rw [a7 _ (Or.inl (Or.inl (Or.inl (Or.inl (Or.inl (Or.inl rfl)))))), q6]
                have hS : ∀ c, (((((((c = 3 ∨ ntS 23 c) ∨ ntS 24 c) ∨ ntS 25 c) ∨ ntS 26 c) ∨ ntS 27 c) ∨ ntS 28 c) ∨ ntS 29 c) ↔ brS c := fun c => by unfold ntS brS; omega
                refine c q ad7 f7 q7 (B7.iff hS) (fun c hc => N7 c ((hS c).mpr hc)) ?_
                unfold gB cB
                rw [e7]
                have k0 : cn ad7 23 = cn ad1 23 := (((((a7 _ (Or.inl (Or.inl (Or.inl (Or.inl (Or.inl (Or.inr (Or.inl rfl)))))))).trans (a6 _ (Or.inl (Or.inl (Or.inl (Or.inl (Or.inr (Or.inl rfl)))))))).trans (a5 _ (Or.inl (Or.inl (Or.inl (Or.inr (Or.inl rfl))))))).trans (a4 _ (Or.inl (Or.inl (Or.inr (Or.inl rfl)))))).trans (a3 _ (Or.inl (Or.inr (Or.inl rfl))))).trans (a2 _ (Or.inr (Or.inl rfl)))
                have k1 : cn ad7 24 = cn ad2 24 := ((((a7 _ (Or.inl (Or.inl (Or.inl (Or.inl (Or.inr (Or.inl rfl))))))).trans (a6 _ (Or.inl (Or.inl (Or.inl (Or.inr (Or.inl rfl))))))).trans (a5 _ (Or.inl (Or.inl (Or.inr (Or.inl rfl)))))).trans (a4 _ (Or.inl (Or.inr (Or.inl rfl))))).trans (a3 _ (Or.inr (Or.inl rfl)))
                have k2 : cn ad7 25 = cn ad3 25 := (((a7 _ (Or.inl (Or.inl (Or.inl (Or.inr (Or.inl rfl)))))).trans (a6 _ (Or.inl (Or.inl (Or.inr (Or.inl rfl)))))).trans (a5 _ (Or.inl (Or.inr (Or.inl rfl))))).trans (a4 _ (Or.inr (Or.inl rfl)))
                have k3 : cn ad7 26 = cn ad4 26 := ((a7 _ (Or.inl (Or.inl (Or.inr (Or.inl rfl))))).trans (a6 _ (Or.inl (Or.inr (Or.inl rfl))))).trans (a5 _ (Or.inr (Or.inl rfl)))
                have k4 : cn ad7 27 = cn ad5 27 := (a7 _ (Or.inl (Or.inr (Or.inl rfl)))).trans (a6 _ (Or.inr (Or.inl rfl)))
                have k5 : cn ad7 28 = cn ad6 28 := a7 _ (Or.inr (Or.inl rfl))
                rw [k0, k1, k2, k3, k4, k5]
                rfl
end BS3
