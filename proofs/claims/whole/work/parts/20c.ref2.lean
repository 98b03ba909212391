/-! The reference's methods as its other methods use them; multiply, divide, common. -/
section REF2
variable {E : cx} {h ab as : Nat} {R w : Int32} {f0 : hm} {sn : Nat → Int32} {sg go gs : Int32} {f : hm} {N : Nat → Nat}
theorem rS.o (H : rS E h ab as R w f0 N sn sg go gs f) : isO f h 5 := by
  obtain ⟨b, H, -⟩ := H
  exact H.o
theorem rS.lt (H : rS E h ab as R w f0 N sn sg go gs f) {m : Nat} (hm : m < 27) : N m < 65536 ^ 36 := by
  obtain ⟨b, -, hN⟩ := H
  exact hN.2 m hm
theorem rS.congr {N' : Nat → Nat} (H : rS E h ab as R w f0 N sn sg go gs f) (hN : ∀ m, m < 27 → N' m = N m) : rS E h ab as R w f0 N' sn sg go gs f := by
  obtain ⟨b, H, h1, h2⟩ := H
  exact ⟨b, H, h1.congr (fun m hm j hj => by rw [hN m hm]), fun m hm => by rw [hN m hm]; exact h2 m hm⟩
theorem U5_put {K : hm → Prop} (n v : Nat) (H : rS E h ab as R w f0 N sn sg go gs f) (h1 : n < 27) (hv : v < 2 ^ 62) (k : ∀ g, rS E h ab as R w f0 (va_up N n v) sn sg go gs g → K g) : isO f h 5 ∧ S_X5_put E h (nI n) (lN v) f K := ⟨H.o, MV.mono (C5_put H h1 hv) k⟩
theorem U5_copy {K : hm → Prop} (n1 n2 : Nat) (H : rS E h ab as R w f0 N sn sg go gs f) (h1 : n1 < 27) (h2 : n2 < 27) (k : ∀ g, rS E h ab as R w f0 (va_up N n2 (N n1)) sn sg go gs g → K g) : isO f h 5 ∧ S_X5_copy E h (nI n1) (nI n2) f K := ⟨H.o, MV.mono (C5_copy H h1 h2) k⟩
theorem U5_isZero {K : Int32 → hm → Prop} (n : Nat) (H : rS E h ab as R w f0 N sn sg go gs f) (h1 : n < 27) (k : K (if N n = 0 then 1 else 0) f) : isO f h 5 ∧ S_X5_isZero E h (nI n) f K := ⟨H.o, MI.mono (C5_isZero H h1) (fun r g q => by rw [q.1, q.2]; exact k)⟩
theorem U5_isEven {K : Int32 → hm → Prop} (n : Nat) (H : rS E h ab as R w f0 N sn sg go gs f) (h1 : n < 27) (k : K (if N n % 2 = 0 then 1 else 0) f) : isO f h 5 ∧ S_X5_isEven E h (nI n) f K := ⟨H.o, MI.mono (C5_isEven H h1) (fun r g q => by rw [q.1, q.2]; exact k)⟩
theorem U5_compare {K : Int32 → hm → Prop} (n1 n2 : Nat) (H : rS E h ab as R w f0 N sn sg go gs f) (h1 : n1 < 27) (h2 : n2 < 27) (k : K (ord3 (N n1) (N n2)) f) : isO f h 5 ∧ S_X5_compare E h (nI n1) (nI n2) f K := ⟨H.o, MI.mono (C5_compare H h1 h2) (fun r g q => by rw [q.1, q.2]; exact k)⟩
theorem U5_plus {K : hm → Prop} (n1 n2 : Nat) (H : rS E h ab as R w f0 N sn sg go gs f) (h1 : n1 < 27) (h2 : n2 < 27) (hne : n2 ≠ n1) (hlt : N n1 + N n2 < 65536 ^ 36) (k : ∀ g, rS E h ab as R w f0 (va_up N n1 (N n1 + N n2)) sn sg go gs g → K g) : isO f h 5 ∧ S_X5_plus E h (nI n1) (nI n2) f K := ⟨H.o, MV.mono (C5_plus H h1 h2 hne hlt) k⟩
theorem U5_lessen {K : hm → Prop} (n1 n2 : Nat) (H : rS E h ab as R w f0 N sn sg go gs f) (h1 : n1 < 27) (h2 : n2 < 27) (hne : n2 ≠ n1) (hle : N n2 ≤ N n1) (k : ∀ g, rS E h ab as R w f0 (va_up N n1 (N n1 - N n2)) sn sg go gs g → K g) : isO f h 5 ∧ S_X5_lessen E h (nI n1) (nI n2) f K := ⟨H.o, MV.mono (C5_lessen H h1 h2 hne hle) k⟩
theorem U5_grow {K : hm → Prop} (n c : Nat) (H : rS E h ab as R w f0 N sn sg go gs f) (h1 : n < 27) (hc : c < 2 ^ 31) (hlt : c * N n < 65536 ^ 36) (k : ∀ g, rS E h ab as R w f0 (va_up N n (c * N n)) sn sg go gs g → K g) : isO f h 5 ∧ S_X5_grow E h (nI n) (lN c) f K := ⟨H.o, MV.mono (C5_grow H h1 hc hlt) k⟩
theorem U5_halve {K : hm → Prop} (n : Nat) (H : rS E h ab as R w f0 N sn sg go gs f) (h1 : n < 27) (k : ∀ g, rS E h ab as R w f0 (va_up N n (N n / 2)) sn sg go gs g → K g) : isO f h 5 ∧ S_X5_halve E h (nI n) f K := ⟨H.o, MV.mono (C5_halve H h1) k⟩
theorem U5_bitsOf {K : Int32 → hm → Prop} (n : Nat) (H : rS E h ab as R w f0 N sn sg go gs f) (h1 : n < 27) (k : ∀ b : Nat, b ≤ 576 → lenIs 2 (N n) b → K (nI b) f) : isO f h 5 ∧ S_X5_bitsOf E h (nI n) f K := ⟨H.o, MI.mono (C5_bitsOf H h1) (fun r g q => by obtain ⟨rfl, b, hb, rfl, hl⟩ := q; exact k b hb hl)⟩
theorem ord3_lt {a b : Nat} : ord3 a b < 0 ↔ a < b := by
  unfold ord3
  split
  · rename_i h; exact ⟨fun _ => h, fun _ => by decide⟩
  · rename_i h
    split
    · exact ⟨fun q => absurd q (by decide), fun q => absurd q h⟩
    · exact ⟨fun q => absurd q (by decide), fun q => absurd q h⟩
theorem C5_multiply {n1 n2 n3 : Nat} (H : rS E h ab as R w f0 N sn sg go gs f) (h1 : n1 < 27) (h2 : n2 < 27) (h3 : n3 < 27) (g1 : n1 ≠ n3) (g2 : n2 ≠ n3) (hlt : N n1 * N n2 < 65536 ^ 36) : S_X5_multiply E h (nI n1) (nI n2) (nI n3) f (fun g => rS E h ab as R w f0 (va_up N n3 (N n1 * N n2)) sn sg go gs g) := by
  have hN : ∀ m, m < 27 → N m < 65536 ^ 36 := fun m hm => H.lt hm
  have hS : ∀ i, N n1 % 65536 ^ i * N n2 < 65536 ^ 36 := fun i => Nat.lt_of_le_of_lt (Nat.mul_le_mul_right _ (Nat.mod_le _ _)) hlt
  have hnext : ∀ i, N n1 % 65536 ^ (i + 1) * N n2 = N n1 % 65536 ^ i * N n2 + 65536 ^ i * (dg 65536 (N n1) i * N n2) := by
    intro i
    rw [dg_split, Nat.add_mul, Nat.mul_assoc]
  refine T_X5_multiply (fun t a x1 x2 x3 x4 g => ∃ i : Nat, i ≤ 36 ∧ t = (36 - i) * 100 + 50 ∧ a = h ∧ x1 = nI n1 ∧ x2 = nI n2 ∧ x3 = nI n3 ∧ x4 = nI i ∧ rS E h ab as R w f0 (va_up N n3 (N n1 % 65536 ^ i * N n2)) sn sg go gs g)
    (fun t a x1 x2 x3 x4 x5 x7 g => ∃ (i j : Nat) (b : Nat → Int32), i < 36 ∧ i + j ≤ 36 ∧ t = (36 - i) * 100 + (36 - j) ∧ a = h ∧ x1 = nI n1 ∧ x2 = nI n2 ∧ x3 = nI n3 ∧ x4 = nI i ∧ x7 = nI j ∧ x5 = lN (mc 65536 (N n1 % 65536 ^ i * N n2 / 65536 ^ i) (N n2) (dg 65536 (N n1) i) j) ∧ rB E h ab as R w f0 b sn sg go gs g ∧ dN b (fun m k => if m = n3 ∧ k < i + j then dg 65536 (N n1 % 65536 ^ (i + 1) * N n2) k else dg 65536 (va_up N n3 (N n1 % 65536 ^ i * N n2) m) k)) ?_ ?_ ?_
  · unfold X_X5_multiply_0
    refine U5_put n3 0 H h3 (by decide) (fun g H => ?_)
    exact ⟨_, 0, by omega, rfl, rfl, rfl, rfl, rfl, rfl, by simpa [Nat.mod_one] using H⟩
  · rintro t a x1 x2 x3 x4 g ⟨i, hi, rfl, rfl, rfl, rfl, rfl, rfl, H⟩
    unfold X_X5_multiply_9
    refine ⟨fun c => ?_, fun c => ?_⟩
    · obtain rfl := k36 hi c
      rw [Nat.mod_eq_of_lt (show N n1 < 65536 ^ 36 from ?_)] at H
      · exact H
      · have := H.lt h1
        rwa [va_up_ne _ _ g1] at this
    · have hi' := k36' hi c
      obtain ⟨b, H, hN⟩ := H
      refine ⟨(36 - i) * 100 + 36, by omega, i, 0, b, hi', by omega, rfl, rfl, rfl, rfl, rfl, rfl, rfl, by rw [mc_0]; rfl, H, hN.1.congr (fun m hm k hk => ?_)⟩
      by_cases hc : m = n3 ∧ k < i + 0
      · rw [if_pos hc, hc.1, va_up_self, hnext, dg_joinlo (by omega)]
      · rw [if_neg hc]
  · rintro t a x1 x2 x3 x4 x5 x7 g ⟨i, j, b, hi, hij, rfl, rfl, rfl, rfl, rfl, rfl, rfl, rfl, H, hd⟩
    unfold X_X5_multiply_22
    have done : i + j = 36 ∨ dg 65536 (N n1) i = 0 → rS E a ab as R w f0 (va_up N n3 (N n1 % 65536 ^ (i + 1) * N n2)) sn sg go gs g := by
      intro q
      refine ⟨b, H, ?_⟩
      have hN1 : ∀ m, m < 27 → va_up N n3 (N n1 % 65536 ^ i * N n2) m < 65536 ^ 36 := by
        intro m hm
        by_cases hmn : m = n3
        · rw [hmn, va_up_self]; exact hS i
        · rw [va_up_ne _ _ hmn]; exact hN m hm
      have hd2 : dN b (fun m k => if m = n3 ∧ k < 36 then dg 65536 (N n1 % 65536 ^ (i + 1) * N n2) k else dg 65536 (va_up N n3 (N n1 % 65536 ^ i * N n2) m) k) := by
        refine hd.congr (fun m hm k hk => ?_)
        by_cases hmn : m = n3
        · rcases q with q | q
          · rw [if_pos ⟨hmn, by omega⟩, if_pos ⟨hmn, hk⟩]
          · rw [if_pos (c := m = n3 ∧ k < 36) ⟨hmn, hk⟩]
            split
            · rfl
            · rw [hmn, va_up_self, hnext, q, Nat.zero_mul, Nat.mul_zero, Nat.add_zero]
        · rw [if_neg (fun z => hmn z.1), if_neg (fun z => hmn z.1)]
      have := bigN.finish hd2 hN1 (hS (i + 1)) (fun _ _ => rfl)
      refine ⟨this.1.congr (fun m hm k hk => ?_), fun m hm => ?_⟩
      · by_cases hmn : m = n3
        · rw [hmn, va_up_self, va_up_self]
        · rw [va_up_ne _ _ hmn, va_up_ne _ _ hmn, va_up_ne _ _ hmn]
      · have z := this.2 m hm
        by_cases hmn : m = n3
        · rw [hmn, va_up_self] at z ⊢; exact z
        · rw [va_up_ne _ _ hmn, va_up_ne _ _ hmn] at z
          rw [va_up_ne _ _ hmn]; exact z
    rw [nI_add, nI_1]
    refine ⟨fun c => ?_, fun c => ?_⟩
    · rintro x rfl
      have := k36 hij c
      exact ⟨(36 - (i + 1)) * 100 + 50, by omega, i + 1, hi, rfl, rfl, rfl, rfl, rfl, rfl, done (Or.inl this)⟩
    · have hij' := k36' hij c
      have e1 : b (36 * n1 + i) = nI (dg 65536 (N n1) i) := by
        have := hd.read (m := n1) (j := i) h1 hi (fun q => g1 q.1)
        rwa [va_up_ne _ _ g1] at this
      have e2 : b (36 * n2 + j) = nI (dg 65536 (N n2) j) := by
        have := hd.read (m := n2) (j := j) h2 (by omega) (fun q => g2 q.1)
        rwa [va_up_ne _ _ g2] at this
      have e3 : b (36 * n3 + (i + j)) = nI (dg 65536 (N n1 % 65536 ^ i * N n2) (i + j)) := by
        have := hd.read (m := n3) (j := i + j) h3 hij' (by omega)
        rwa [va_up_self] at this
      have d1 := dg_lt (B := 65536) (by decide) (N n1) i
      have d2 := dg_lt (B := 65536) (by decide) (N n2) j
      have d3 := dg_lt (B := 65536) (by decide) (N n1 % 65536 ^ i * N n2) (i + j)
      have d4 := dg_lt (B := 65536) (by decide) (N n1 % 65536 ^ (i + 1) * N n2) (i + j)
      have m1 := mc_le (B := 65536) (by decide) (N n1 % 65536 ^ i * N n2 / 65536 ^ i) (N n2) (dg 65536 (N n1) i) j
      have st := mc_step (B := 65536) (by decide) (N n1 % 65536 ^ i * N n2 / 65536 ^ i) (N n2) (dg 65536 (N n1) i) j
      have eT : N n1 % 65536 ^ i * N n2 / 65536 ^ i + dg 65536 (N n1) i * N n2 = N n1 % 65536 ^ (i + 1) * N n2 / 65536 ^ i := by
        rw [hnext, Nat.add_mul_div_left _ _ (Nat.pow_pos (by decide))]
      rw [eT, dg_shift, dg_shift] at st
      generalize mc 65536 (N n1 % 65536 ^ i * N n2 / 65536 ^ i) (N n2) (dg 65536 (N n1) i) j = cy at *
      generalize hcz : mc 65536 (N n1 % 65536 ^ i * N n2 / 65536 ^ i) (N n2) (dg 65536 (N n1) i) (j + 1) = cz at *
      rw [ix36, ix36, show nI n3 = nI n3 from rfl, ix36, nI_add, show 36 * n3 + i + j = 36 * n3 + (i + j) by omega]
      refine ⟨ab, H.r2, _, H.rd (by omega), fun c2 => ?_, fun c2 => ?_⟩
      · rintro x rfl
        refine ⟨(36 - (i + 1)) * 100 + 50, by omega, i + 1, hi, rfl, rfl, rfl, rfl, rfl, rfl, done (Or.inr ?_)⟩
        rw [e1] at c2
        rcases Nat.eq_zero_or_pos (dg 65536 (N n1) i) with q | q
        · exact q
        · exact absurd c2 (nI_nle q (by omega))
      · refine ⟨ab, H.r2, _, H.rd (by omega), ab, H.r2, _, H.rd (by omega), ab, H.r2, _, H.rd (by omega), ?_⟩
        rintro x rfl
        have bd : dg 65536 (N n1) i * dg 65536 (N n2) j ≤ 65536 * 65536 := Nat.mul_le_mul (Nat.le_of_lt d1) (Nat.le_of_lt d2)
        rw [e1, e2, e3, nI_l (by omega), nI_l (by omega), nI_l (by omega), lN_mul, lN_add, lN_add, st, and16l (by omega), show (16 : Int32) = nI 16 from rfl, lsh_n (by decide) (by omega), show (dg 65536 (N n1 % 65536 ^ (i + 1) * N n2) (i + j) + 65536 * cz) % 65536 = dg 65536 (N n1 % 65536 ^ (i + 1) * N n2) (i + j) by omega, show (dg 65536 (N n1 % 65536 ^ (i + 1) * N n2) (i + j) + 65536 * cz) / 2 ^ 16 = cz by omega]
        obtain ⟨g', hw, H'⟩ := H.wr (j := 36 * n3 + (i + j)) (by omega) (nI (dg 65536 (N n1 % 65536 ^ (i + 1) * N n2) (i + j)))
        refine ⟨ab, H.r2, g', hw, ?_⟩
        rintro x rfl y rfl
        exact ⟨(36 - i) * 100 + (36 - (j + 1)), by omega, i, j + 1, _, hi, by omega, rfl, rfl, rfl, rfl, rfl, rfl, nI_1 j, by rw [hcz], H', hd.step hij' rfl⟩
theorem U5_multiply {K : hm → Prop} (n1 n2 n3 : Nat) (H : rS E h ab as R w f0 N sn sg go gs f) (h1 : n1 < 27) (h2 : n2 < 27) (h3 : n3 < 27) (g1 : n1 ≠ n3) (g2 : n2 ≠ n3) (hlt : N n1 * N n2 < 65536 ^ 36) (k : ∀ g, rS E h ab as R w f0 (va_up N n3 (N n1 * N n2)) sn sg go gs g → K g) : isO f h 5 ∧ S_X5_multiply E h (nI n1) (nI n2) (nI n3) f K := ⟨H.o, MV.mono (C5_multiply H h1 h2 h3 g1 g2 hlt) k⟩
end REF2
