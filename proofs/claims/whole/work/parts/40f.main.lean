/-! What the class's constructor builds. -/
/-- the code of the cell that field j names -/
def cd (j : Nat) : Nat := if j = 2 then 12 else if j = 3 then 13 else if j = 4 then 2 else if j = 5 then 3 else 14 + 2 * (24 + j)
/-- the class's fields, the first n of its parts named -/
def pL (ad : Nat → Nat) (n : Nat) : List Value := .int 0 :: .null :: (List.range 12).map (fun i => if i < n then .ref (ad (cd (i + 2))) else .null)
theorem pL_len (ad : Nat → Nat) (n : Nat) : (pL ad n).length = 14 := rfl
theorem pL_set : ∀ n, n < 12 → ∀ ad : Nat → Nat, (pL ad n).set (n + 2) (.ref (ad (cd (n + 2)))) = pL ad (n + 1)
  | 0, _, _ => rfl | 1, _, _ => rfl | 2, _, _ => rfl | 3, _, _ => rfl | 4, _, _ => rfl | 5, _, _ => rfl | 6, _, _ => rfl | 7, _, _ => rfl | 8, _, _ => rfl | 9, _, _ => rfl | 10, _, _ => rfl | 11, _, _ => rfl
  | n + 12, h, _ => absurd h (by omega)
theorem pL_congr {ad ad' : Nat → Nat} {n : Nat} (h : ∀ i, i < n → ad' (cd (i + 2)) = ad (cd (i + 2))) : pL ad n = pL ad' n := by
  unfold pL
  congr 2
  apply List.map_congr_left
  intro i _
  by_cases w : i < n
  · rw [if_pos w, if_pos w, h i w]
  · rw [if_neg w, if_neg w]
/-- the codes behind n parts -/
def mC (n c : Nat) : Prop := c = 0 ∨ (1 ≤ n ∧ frS 8 c) ∨ (2 ≤ n ∧ frS 9 c) ∨ (3 ≤ n ∧ rdS c) ∨ (4 ≤ n ∧ brS c) ∨ (74 ≤ c ∧ c < 74 + 2 * (n - 4))
theorem mC_cd {n i : Nat} (hi : i < n) (hn : n ≤ 12) : mC n (cd (i + 2)) := by
  unfold mC cd
  split
  · omega
  · split
    · omega
    · split
      · omega
      · split <;> omega
section BM
variable {E : cx} {f00 f : hm} {h n : Nat}
def mS (E : cx) (h : Nat) (f00 : hm) (n : Nat) (f : hm) : Prop := ∃ ad : Nat → Nat, ad 0 = h ∧ bs E ad (mC n) f00 Z0 f ∧ f (ad 0) = some (.inr (4, pL ad n)) ∧ (1 ≤ n → gF ad f 8) ∧ (2 ≤ n → gF ad f 9) ∧ (3 ≤ n → gR ad f) ∧ (4 ≤ n → gB ad f)
/-- one part more -/
theorem mS.step {S2 : Nat → Prop} {nd : Nat → Nat} {f3 : hm} (H : mS E h f00 n f) (hn : n < 12) (B2 : bs E nd S2 f Z0 f3) (N2 : ∀ c, S2 c → f (nd c) = none) (dj : ∀ c, mC n c → S2 c → False) (un : ∀ c, (mC n c ∨ S2 c) ↔ mC (n + 1) c) (hq : S2 (cd (n + 2)))
    (k8 : n = 0 → gF nd f3 8) (k9 : n = 1 → gF nd f3 9) (kr : n = 2 → gR nd f3) (kb : n = 3 → gB nd f3) : ∃ f4 : hm, wrV f3 h 4 (n + 2) (.ref (nd (cd (n + 2)))) = some f4 ∧ mS E h f00 (n + 1) f4 := by
  obtain ⟨ad, h0, B, hL, g8, g9, gr, gb⟩ := H
  obtain ⟨ad', f4, w, a1, a2, B3, e1, o1, o2⟩ := B.link B2 N2 dj (c0 := 0) (Or.inl rfl) (by omega) hL (j := n + 2) (by rw [pL_len]; omega) (cd (n + 2))
  have mm : ∀ c, mC n c → mC (n + 1) c := fun c hc => (un c).mp (Or.inl hc)
  refine ⟨f4, by rw [← h0]; exact w, ad', by rw [a1 0 (Or.inl rfl), h0], B3.iff un, ?_, fun h1 => ?_, fun h1 => ?_, fun h1 => ?_, fun h1 => ?_⟩
  · rw [e1, pL_congr (ad' := ad') (fun i hi => a1 _ (mC_cd hi (by omega))), ← a2 _ hq, pL_set n hn]
  · rcases Nat.eq_zero_or_pos n with z | z
    · have s2 : ∀ c, frS 8 c → S2 c := fun c hc => by
        rcases (un c).mpr (by unfold mC; omega) with q | q
        · exfalso; unfold mC at q; omega
        · exact q
      exact (k8 z).mv (a2 _ (s2 _ (by omega))) (a2 _ (s2 _ (by omega))) (a2 _ (s2 _ (by omega))) (o2 _ (s2 _ (by omega)))
    · have s1 : ∀ c, frS 8 c → mC n c := fun c hc => by unfold mC; omega
      exact (g8 z).mv (a1 _ (s1 _ (by omega))) (a1 _ (s1 _ (by omega))) (a1 _ (s1 _ (by omega))) (o1 _ (s1 _ (by omega)) (by omega))
  · rcases Nat.lt_or_ge n 2 with z | z
    · have s2 : ∀ c, frS 9 c → S2 c := fun c hc => by
        rcases (un c).mpr (by unfold mC; omega) with q | q
        · exfalso; unfold mC at q; omega
        · exact q
      exact (k9 (by omega)).mv (a2 _ (s2 _ (by omega))) (a2 _ (s2 _ (by omega))) (a2 _ (s2 _ (by omega))) (o2 _ (s2 _ (by omega)))
    · have s1 : ∀ c, frS 9 c → mC n c := fun c hc => by unfold mC; omega
      exact (g9 z).mv (a1 _ (s1 _ (by omega))) (a1 _ (s1 _ (by omega))) (a1 _ (s1 _ (by omega))) (o1 _ (s1 _ (by omega)) (by omega))
  · rcases Nat.lt_or_ge n 3 with z | z
    · have s2 : ∀ c, rdS c → S2 c := fun c hc => by
        rcases (un c).mpr (by unfold mC; omega) with q | q
        · exfalso; unfold mC at q; omega
        · exact q
      exact (kr (by omega)).mv (fun c hc => a2 _ (s2 c hc)) (o2 _ (s2 _ (by omega)))
    · have s1 : ∀ c, rdS c → mC n c := fun c hc => by unfold mC; omega
      exact (gr z).mv (fun c hc => a1 _ (s1 c hc)) (o1 _ (s1 _ (by omega)) (by omega))
  · rcases Nat.lt_or_ge n 4 with z | z
    · have s2 : ∀ c, brS c → S2 c := fun c hc => by
        rcases (un c).mpr (by unfold mC; omega) with q | q
        · exfalso; unfold mC at q; omega
        · exact q
      exact (kb (by omega)).mv (fun c hc => a2 _ (s2 c hc)) (o2 _ (s2 _ (by omega)))
    · have s1 : ∀ c, brS c → mC n c := fun c hc => by unfold mC; omega
      exact (gb z).mv (fun c hc => a1 _ (s1 c hc)) (o1 _ (s1 _ (by omega)) (by omega))
theorem mS.f8 {Rst : hm → Prop} (H : mS E h f00 0 f) (c : ∀ f', mS E h f00 1 f' → Rst f') : ∀ q, f q = none → S_X0_init E q (hp f q (.inr (0, [.int 0, .null, .null]))) (fun f3 => ∃ f4 : hm, wrV f3 h 4 2 (.ref q) = some f4 ∧ Rst f4) := by
  refine I0_new (C := fun q f3 => ∃ f4 : hm, wrV f3 h 4 2 (.ref q) = some f4 ∧ Rst f4) 8 (by omega) (fun q nd f3 hq B2 N2 g => ?_)
  obtain ⟨f4, w, H4⟩ := H.step (by omega) B2 N2 (fun c h1 h2 => by unfold mC at h1; omega) (fun c => by unfold mC; omega) (show frS 8 12 by omega) (fun _ => g) (fun z => by omega) (fun z => by omega) (fun z => by omega)
  exact ⟨f4, by rw [← hq]; exact w, c f4 H4⟩
theorem mS.f9 {Rst : hm → Prop} (H : mS E h f00 1 f) (c : ∀ f', mS E h f00 2 f' → Rst f') : ∀ q, f q = none → S_X0_init E q (hp f q (.inr (0, [.int 0, .null, .null]))) (fun f3 => ∃ f4 : hm, wrV f3 h 4 3 (.ref q) = some f4 ∧ Rst f4) := by
  refine I0_new (C := fun q f3 => ∃ f4 : hm, wrV f3 h 4 3 (.ref q) = some f4 ∧ Rst f4) 9 (by omega) (fun q nd f3 hq B2 N2 g => ?_)
  obtain ⟨f4, w, H4⟩ := H.step (by omega) B2 N2 (fun c h1 h2 => by unfold mC at h1; omega) (fun c => by unfold mC; omega) (show frS 9 13 by omega) (fun z => by omega) (fun _ => g) (fun z => by omega) (fun z => by omega)
  exact ⟨f4, by rw [← hq]; exact w, c f4 H4⟩
theorem mS.rd {Rst : hm → Prop} (H : mS E h f00 2 f) (c : ∀ f', mS E h f00 3 f' → Rst f') : ∀ q, f q = none → S_X3_init E q (hp f q (.inr (3, [.null, .null, .null]))) (fun f3 => ∃ f4 : hm, wrV f3 h 4 4 (.ref q) = some f4 ∧ Rst f4) := by
  refine I3_new (C := fun q f3 => ∃ f4 : hm, wrV f3 h 4 4 (.ref q) = some f4 ∧ Rst f4) (fun q nd f3 hq B2 N2 g => ?_)
  obtain ⟨f4, w, H4⟩ := H.step (by omega) B2 N2 (fun c h1 h2 => by unfold mC at h1; omega) (fun c => by unfold mC; omega) (show rdS 2 by omega) (fun z => by omega) (fun z => by omega) (fun _ => g) (fun z => by omega)
  exact ⟨f4, by rw [← hq]; exact w, c f4 H4⟩
theorem mS.br {Rst : hm → Prop} (H : mS E h f00 3 f) (c : ∀ f', mS E h f00 4 f' → Rst f') : ∀ q, f q = none → S_X2_init E q (hp f q (.inr (2, [.long 0, .long 0, .long 0, .long 0, .null, .null, .null, .null, .null, .null, .null]))) (fun f3 => ∃ f4 : hm, wrV f3 h 4 5 (.ref q) = some f4 ∧ Rst f4) := by
  refine I2_new (C := fun q f3 => ∃ f4 : hm, wrV f3 h 4 5 (.ref q) = some f4 ∧ Rst f4) (fun q nd f3 hq B2 N2 g => ?_)
  obtain ⟨f4, w, H4⟩ := H.step (by omega) B2 N2 (fun c h1 h2 => by unfold mC at h1; omega) (fun c => by unfold mC; omega) (show brS 3 by omega) (fun z => by omega) (fun z => by omega) (fun z => by omega) (fun _ => g)
  exact ⟨f4, by rw [← hq]; exact w, c f4 H4⟩
theorem mS.nat {Rst : hm → Prop} (n : Nat) (H : mS E h f00 n f) (hn : 4 ≤ n) (hn2 : n < 12) (c : ∀ f', mS E h f00 (n + 1) f' → Rst f') : ∀ q, f q = none → S_X1_init E q (hp f q (.inr (1, [.null, .int 0]))) (fun f3 => ∃ f4 : hm, wrV f3 h 4 (n + 2) (.ref q) = some f4 ∧ Rst f4) := by
  have ec : cd (n + 2) = 14 + 2 * (26 + n) := by
    unfold cd
    rw [if_neg (by omega), if_neg (by omega), if_neg (by omega), if_neg (by omega)]
    omega
  refine I1_new (C := fun q f3 => ∃ f4 : hm, wrV f3 h 4 (n + 2) (.ref q) = some f4 ∧ Rst f4) (26 + n) (fun q nd f3 hq B2 N2 => ?_)
  obtain ⟨f4, w, H4⟩ := H.step hn2 B2 N2 (fun c h1 h2 => by unfold mC at h1; omega) (fun c => by unfold mC; omega) (by rw [ec]; exact Or.inl rfl) (fun z => by omega) (fun z => by omega) (fun z => by omega) (fun z => by omega)
  rw [ec, hq] at w
  exact ⟨f4, w, c f4 H4⟩
end BM
