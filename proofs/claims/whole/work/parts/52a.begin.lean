/-! The law's start: what the tables say of classes and rows; both objects made. -/
theorem ly_0 : Cond.methodLinkNest RX4 13 yX0_init hostN ∈ lw_tbl := List.mem_of_getElem? (i := 57) (by decide +kernel)
theorem ly_1 : Cond.methodLinkNest RX0 15 yX1_init hostN ∈ lw_tbl := List.mem_of_getElem? (i := 63) (by decide +kernel)
theorem ly_2 : Cond.methodLinkNest RX4 25 yX3_init hostN ∈ lw_tbl := List.mem_of_getElem? (i := 91) (by decide +kernel)
theorem ly_3 : Cond.methodLinkNest RX3 9 yX1_init hostN ∈ lw_tbl := List.mem_of_getElem? (i := 96) (by decide +kernel)
theorem ly_4 : Cond.methodLinkNest RX4 32 yX2_init hostN ∈ lw_tbl := List.mem_of_getElem? (i := 110) (by decide +kernel)
theorem ly_5 : Cond.methodLinkNest RX2 24 yX1_init hostN ∈ lw_tbl := List.mem_of_getElem? (i := 115) (by decide +kernel)
theorem ly_6 : Cond.methodLinkNest RX4 39 yX1_init hostN ∈ lw_tbl := List.mem_of_getElem? (i := 153) (by decide +kernel)
theorem ly_7 : Cond.arrayOver (.object RX0) ∈ lw_tbl := List.mem_of_getElem? (i := 157) (by decide +kernel)
theorem lm_2 : Cond.initialized RX4 ∈ wsL_law := List.mem_of_getElem? (i := 2) (by decide +kernel)
theorem lm_5 : Cond.initialized RX5 ∈ wsL_law := List.mem_of_getElem? (i := 5) (by decide +kernel)
theorem lm_10 : Cond.methodLink RL 15 yX4_init ∈ wsL_law := List.mem_of_getElem? (i := 10) (by decide +kernel)
theorem lm_11 : Cond.instanceMethod yX4_init ∈ wsL_law := List.mem_of_getElem? (i := 11) (by decide +kernel)
theorem lm_93 : Cond.methodLink RL 20 yX5_init ∈ wsL_law := List.mem_of_getElem? (i := 93) (by decide +kernel)
theorem lm_94 : Cond.instanceMethod yX5_init ∈ wsL_law := List.mem_of_getElem? (i := 94) (by decide +kernel)
theorem law_zN {s : State} {a : Array Value} (hts : ∀ w ∈ lw_tbl, w.before a s = true) : zN s := ⟨va_Nw.of rfl (hts _ ly_0), va_Nw.of rfl (hts _ ly_1), va_Nw.of rfl (hts _ ly_2), va_Nw.of rfl (hts _ ly_3), va_Nw.of rfl (hts _ ly_4), va_Nw.of rfl (hts _ ly_5), va_Nw.of rfl (hts _ ly_6), va_AO.of (hts _ ly_7)⟩
/-- classes and rows, as the tables have them -/
theorem law_E (l : Launch) {s : State} {a : Array Value} (hts : ∀ w ∈ lw_tbl, w.before a s = true) : ∃ E : cx, E.1 = l ∧ va_K E.2.1 vwCl (eT E) s := by
  obtain ⟨c0, i0, k0⟩ := u_known (C := RX0) (T := TX0) (N := 3) (n := 3) hts lz_0 (hts _ lx_1_17)
  obtain ⟨c1, i1, k1⟩ := u_known (C := RX1) (T := TX1) (N := 2) (n := 2) hts lz_1 (hts _ lx_2_6)
  obtain ⟨c2, i2, k2⟩ := u_known (C := RX2) (T := TX2) (N := 11) (n := 11) hts lz_2 (hts _ lx_2_2)
  obtain ⟨c3, i3, k3⟩ := u_known (C := RX3) (T := TX3) (N := 3) (n := 3) hts lz_3 (hts _ lx_1_22)
  obtain ⟨c4, i4, k4⟩ := u_known (C := RX4) (T := TX4) (N := 14) (n := 14) hts lz_4 (hts _ lx_1_1)
  obtain ⟨c5, i5, k5⟩ := u_known (C := RX5) (T := TX5) (N := 7) (n := 7) hts lz_5 (hts _ lx_1_4)
  obtain ⟨cI, kI, compI, a1, a2, a3⟩ := Cond.arrayClass_spec (hts _ lx_3_5)
  obtain ⟨compF, cF, kF, b1, -, b3, b4, b5⟩ := Cond.arrayOver_spec (hts _ ly_7)
  refine ⟨(l, (fun k => if k = 0 then c0 else if k = 1 then c1 else if k = 2 then c2 else if k = 3 then c3 else if k = 4 then c4 else c5, fun k => if k = 0 then i0 else if k = 1 then i1 else if k = 2 then i2 else if k = 3 then i3 else if k = 4 then i4 else i5), cI, cF), rfl, ?_, ?_⟩
  · intro k q hq
    match k, hq with
    | 0, hq => cases hq; exact k0
    | 1, hq => cases hq; exact k1
    | 2, hq => cases hq; exact k2
    | 3, hq => cases hq; exact k3
    | 4, hq => cases hq; exact k4
    | 5, hq => cases hq; exact k5
    | k + 6, hq => simp [vwCl] at hq
  · intro k q hq
    match k, hq with
    | 0, hq => cases hq; exact ⟨fun n z => ⟨fun k h => (by cases h), kI, a2, compI, a3⟩, a1⟩
    | 1, hq => cases hq; exact ⟨fun n z => ⟨fun k h => (by cases h), kF, b3, compF, b4⟩, kF, compF, b3, b4, b1, b5⟩
    | k + 2, hq => simp [eT] at hq
theorem cQ.live {E : cx} {ad : Nat → Nat} {R W : Nat} {f0 f : hm} {A : regs} {cf : Int × Nat} (Q : cQ E ad R W f0 A cf f) : ∀ c, cA R c → f (ad c) ≠ none := by
  obtain ⟨V, sg, a, b, u, l, ou, ol, g, o, x, ⟨⟨k1, k2, k3, k4⟩, m1, ⟨gr, m2, m3⟩, m4, m5, m6⟩, -⟩ := Q
  intro c hc
  rcases hc with h | ⟨h, hF⟩ | ⟨h, hK⟩
  · rcases (show c = 0 ∨ c = 1 ∨ c = 2 ∨ c = 3 by omega) with rfl | rfl | rfl | rfl
    · rw [m1]; exact fun z => by cases z
    · rw [m2]; exact fun z => by cases z
    · rw [m5]; exact fun z => by cases z
    · rw [m6]; exact fun z => by cases z
  · obtain ⟨k, rfl⟩ : ∃ k, c = 4 + k := ⟨c - 4, by omega⟩
    rw [Nat.add_sub_cancel_left] at hF
    rw [m4 k hF]; exact fun z => by cases z
  · obtain ⟨len, gg, hr, -⟩ := k3.2.1 _ hK
    rcases (show c = 14 + 2 * ((c - 14) / 2) ∨ c = 15 + 2 * ((c - 14) / 2) by omega) with e | e
    · have := hr.1
      rw [e]
      show f (cn ad _) ≠ none
      rw [this]; exact fun z => by cases z
    · have := hr.2
      rw [e]
      show f (cm ad _) ≠ none
      rw [this]; exact fun z => by cases z
theorem aOK_0 {R W : Nat} (hR : 1 ≤ R ∧ R ≤ 8) (hW : 1 ≤ W ∧ W ≤ 8) : aOK R W A0 (0, 0) := by
  have h1 : 1 < 2 ^ (32 * W) := Nat.one_lt_two_pow (by omega)
  exact ⟨hR, hW, fun r _ => ⟨show 0 < 1 by decide, h1, by show (0 : Int).natAbs < _; exact Nat.lt_trans (by decide) h1, show Nat.gcd (0 : Int).natAbs 1 = 1 by decide⟩, by show (0 : Int).natAbs < _; exact Nat.lt_trans (by decide) h1, Nat.lt_trans (by decide) h1⟩
/-- both objects made: the law's state -/
theorem law_begin {E : cx} {ad : Nat → Nat} {h ab as R W : Nat} {f1 f2 f4 : hm} {e5 : va_E} (hR : 1 ≤ R ∧ R ≤ 8) (hW : 1 ≤ W ∧ W ≤ 8) (Q : cQ E ad R W f1 A0 (0, 0) f2) (hh : f2 h = none) (h1 : hp f2 h e5 ab = none) (h2 : hp f2 h e5 as = none) (P : rQ E h ab as R W (hp f2 h e5) A0 (0, 0) f4) : lwS E ad h ab as R W A0 (0, 0) f4 := by
  have n1 : ab ≠ h := fun w => by rw [w, hp_self] at h1; cases h1
  have n2 : as ≠ h := fun w => by rw [w, hp_self] at h2; cases h2
  rw [hp_ne _ _ n1] at h1
  rw [hp_ne _ _ n2] at h2
  have ap : ∀ c, cA R c → ad c ≠ h ∧ ad c ≠ ab ∧ ad c ≠ as := fun c hc => ⟨fun w => Q.live c hc (by rw [w]; exact hh), fun w => Q.live c hc (by rw [w]; exact h1), fun w => Q.live c hc (by rw [w]; exact h2)⟩
  refine ⟨aOK_0 hR hW, Q.mv (fun c hc => ?_), P.mv rfl rfl rfl, ap⟩
  rw [P.frame _ (ap c hc).1 (ap c hc).2.1 (ap c hc).2.2, hp_ne _ _ (ap c hc).1]
