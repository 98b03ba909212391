/-! The reference's small methods, by what they do to its 27 numbers. -/
section REF1
variable {E : cx} {h ab as : Nat} {R w : Int32} {f0 : hm} {b sn : Nat → Int32} {sg go gs : Int32} {f : hm} {N : Nat → Nat}
/-- the reference's state: its numbers N, its signs sn -/
def rS (E : cx) (h ab as : Nat) (R w : Int32) (f0 : hm) (N : Nat → Nat) (sn : Nat → Int32) (sg go gs : Int32) (f : hm) : Prop := ∃ b : Nat → Int32, rB E h ab as R w f0 b sn sg go gs f ∧ bigN b N
theorem C5_isRegister {x : Int32} (H : rS E h ab as R w f0 N sn sg go gs f) : S_X5_isRegister E h x f (fun r g => g = f ∧ r = if 0 ≤ x ∧ x < R then 1 else 0) := by
  obtain ⟨b, H, hN⟩ := H
  refine T_X5_isRegister ?_
  unfold X_X5_isRegister_0
  refine ⟨fun c => ⟨nb0, rfl, ?_⟩, fun c => ⟨R, H.r0, fun c2 => ⟨nb0, rfl, ?_⟩, fun c2 => ⟨nb1, rfl, ?_⟩⟩⟩
  · rw [if_neg]
    exact fun q => absurd q.1 (Int32.not_le.mpr c)
  · rw [if_neg]
    exact fun q => absurd q.2 (Int32.not_lt.mpr c2)
  · rw [if_pos ⟨Int32.not_lt.mp c, Int32.not_le.mp c2⟩]
theorem k36 {k : Nat} (hk : k ≤ 36) (c : (36 : Int32) ≤ nI k) : k = 36 := by
  rcases Nat.lt_or_ge k 36 with q | q
  · exact absurd c (nI_ge q (by decide))
  · omega
theorem k36' {k : Nat} (hk : k ≤ 36) (c : ¬ (36 : Int32) ≤ nI k) : k < 36 := by
  rcases Nat.lt_or_ge k 36 with q | q
  · exact q
  · have : k = 36 := by omega
    subst this
    exact absurd (Int32.le_refl _) c
theorem C5_copy {n1 n2 : Nat} (H : rS E h ab as R w f0 N sn sg go gs f) (h1 : n1 < 27) (h2 : n2 < 27) : S_X5_copy E h (nI n1) (nI n2) f (fun g => rS E h ab as R w f0 (va_up N n2 (N n1)) sn sg go gs g) := by
  obtain ⟨b, H, hN⟩ := H
  refine T_X5_copy (fun n a x1 x2 x3 g => ∃ (k : Nat) (b : Nat → Int32), k ≤ 36 ∧ n = 36 - k ∧ a = h ∧ x1 = nI n1 ∧ x2 = nI n2 ∧ x3 = nI k ∧ rB E h ab as R w f0 b sn sg go gs g ∧ dN b (fun m j => if m = n2 ∧ j < k then dg 65536 (N n1) j else dg 65536 (N m) j)) ?_ ?_
  · exact ⟨36, 0, b, by omega, rfl, rfl, rfl, rfl, rfl, H, hN.1.begin⟩
  · rintro n a x1 x2 x3 g ⟨k, b, hk, rfl, rfl, rfl, rfl, rfl, H, hd⟩
    unfold X_X5_copy_2
    refine ⟨fun c => ?_, fun c => ?_⟩
    · obtain rfl := k36 hk c
      exact ⟨b, H, bigN.finish hd hN.2 (hN.2 n1 h1) (fun _ _ => rfl)⟩
    · have hk' := k36' hk c
      have e1 : b (36 * n1 + k) = nI (dg 65536 (N n1) k) := hd.read h1 hk' (by omega)
      rw [ix36, ix36]
      obtain ⟨g', hw, H'⟩ := H.wr (j := 36 * n2 + k) (by omega) (b (36 * n1 + k))
      refine ⟨ab, H.r2, ab, H.r2, _, H.rd (by omega), g', hw, fun x ex => ?_⟩
      subst ex
      exact ⟨36 - (k + 1), by omega, k + 1, _, hk', rfl, rfl, rfl, rfl, nI_1 k, H', hd.step hk' e1⟩
theorem C5_isZero {n : Nat} (H : rS E h ab as R w f0 N sn sg go gs f) (h1 : n < 27) : S_X5_isZero E h (nI n) f (fun r g => g = f ∧ r = if N n = 0 then 1 else 0) := by
  obtain ⟨b, H, hN⟩ := H
  refine T_X5_isZero (fun m a x1 x2 x3 g => ∃ k : Nat, k ≤ 36 ∧ m = 36 - k ∧ a = h ∧ x1 = nI n ∧ x2 = (if N n % 65536 ^ k = 0 then 1 else 0) ∧ x3 = nI k ∧ g = f) ?_ ?_
  · exact ⟨36, 0, by omega, rfl, rfl, rfl, by simp [Nat.mod_one], rfl, rfl⟩
  · rintro m a x1 x2 x3 g ⟨k, hk, rfl, rfl, rfl, rfl, rfl, rfl⟩
    unfold X_X5_isZero_4
    have key : ∀ (hk' : k < 36), (N n % 65536 ^ (k + 1) = 0 ↔ N n % 65536 ^ k = 0 ∧ dg 65536 (N n) k = 0) := by
      intro hk'
      rw [dg_split]
      have : 0 < 65536 ^ k := Nat.pow_pos (by decide)
      constructor
      · intro q
        refine ⟨by omega, ?_⟩
        have : 65536 ^ k * dg 65536 (N n) k = 0 := by omega
        rcases Nat.mul_eq_zero.mp this with z | z
        · omega
        · exact z
      · rintro ⟨q1, q2⟩
        rw [q1, q2]
        simp
    refine ⟨fun c => ?_, fun c => ?_⟩
    · obtain rfl := k36 hk c
      rw [Nat.mod_eq_of_lt (hN.2 n h1)]
      refine ⟨?_, rfl, rfl⟩
      split
      · exact nb1
      · exact nb0
    · have hk' := k36' hk c
      have e1 : b (36 * n + k) = nI (dg 65536 (N n) k) := hN.1 n h1 k hk'
      have hd := dg_lt (B := 65536) (by decide) (N n) k
      rw [ix36]
      refine ⟨fun c2 => ?_, fun c2 => ⟨ab, H.r2, _, H.rd (by omega), ?_, ?_⟩⟩
      · rintro x rfl
        refine ⟨36 - (k + 1), by omega, k + 1, hk', rfl, rfl, rfl, ?_, nI_1 k, rfl⟩
        rw [if_neg]
        intro q
        rw [if_pos ((key hk').mp q).1] at c2
        exact absurd c2 (by decide)
      · rintro c3 x rfl
        refine ⟨36 - (k + 1), by omega, k + 1, hk', rfl, rfl, rfl, ?_, nI_1 k, rfl⟩
        rw [if_neg]
        intro q
        rw [e1, ((key hk').mp q).2] at c3
        exact c3 rfl
      · rintro c3 x rfl
        refine ⟨36 - (k + 1), by omega, k + 1, hk', rfl, rfl, rfl, ?_, nI_1 k, rfl⟩
        rw [e1, ← nI_0, nI_eq (by omega) (by decide)] at c3
        rw [if_pos]
        refine (key hk').mpr ⟨?_, c3⟩
        rcases Nat.eq_zero_or_pos (N n % 65536 ^ k) with q | q
        · exact q
        · rw [if_neg (by omega)] at c2
          exact absurd rfl c2
theorem nI_m1 (k : Nat) : nI (k + 1) + (-1) = nI k := pk_m1 k
/-- the order of two numbers, as the methods answer it -/
def ord3 (a b : Nat) : Int32 := if a < b then -1 else if a = b then 0 else 1
theorem C5_compare {n1 n2 : Nat} (H : rS E h ab as R w f0 N sn sg go gs f) (h1 : n1 < 27) (h2 : n2 < 27) : S_X5_compare E h (nI n1) (nI n2) f (fun r g => g = f ∧ r = ord3 (N n1) (N n2)) := by
  obtain ⟨b, H, hN⟩ := H
  refine T_X5_compare (fun m a x1 x2 x3 g => m ≤ 36 ∧ a = h ∧ x1 = nI n1 ∧ x2 = nI n2 ∧ x3 = nI m + (-1) ∧ g = f ∧ N n1 / 65536 ^ m = N n2 / 65536 ^ m) ?_ ?_
  · exact ⟨36, by omega, rfl, rfl, rfl, by decide, rfl, top_start (hN.2 n1 h1) (hN.2 n2 h2)⟩
  · rintro m a x1 x2 x3 g ⟨hm, rfl, rfl, rfl, rfl, rfl, ht⟩
    unfold X_X5_compare_3
    cases m with
    | zero =>
      refine ⟨fun c => ⟨rfl, ?_⟩, fun c => absurd (by decide) c⟩
      have := top_end ht
      rw [this, ord3, if_neg (Nat.lt_irrefl _), if_pos rfl]
    | succ k =>
      rw [nI_m1, ix36, ix36]
      have e1 : b (36 * n1 + k) = nI (dg 65536 (N n1) k) := hN.1 n1 h1 k (by omega)
      have e2 : b (36 * n2 + k) = nI (dg 65536 (N n2) k) := hN.1 n2 h2 k (by omega)
      have d1 := dg_lt (B := 65536) (by decide) (N n1) k
      have d2 := dg_lt (B := 65536) (by decide) (N n2) k
      refine ⟨fun c => absurd c (nI_pos (by omega)), fun c => ⟨ab, H.r2, _, H.rd (by omega), ab, H.r2, _, H.rd (by omega), ?_⟩⟩
      rintro x rfl
      rw [e1, e2]
      have eT : (nI (dg 65536 (N n1) k) - nI (dg 65536 (N n2) k)).toInt = (dg 65536 (N n1) k : Int) - dg 65536 (N n2) k := pk_sub_toInt (by omega) (by omega)
      refine ⟨fun c => ?_, fun c => ⟨fun c2 => ⟨rfl, ?_⟩, fun c2 => ⟨rfl, ?_⟩⟩⟩
      · rintro x rfl
        have : dg 65536 (N n1) k = dg 65536 (N n2) k := by
          have q := congrArg Int32.toInt c
          rw [eT] at q
          have : Int32.toInt 0 = 0 := rfl
          omega
        exact ⟨k, by omega, by omega, rfl, rfl, rfl, rfl, rfl, top_eq ht this⟩
      · have q : 0 ≤ (nI (dg 65536 (N n1) k) - nI (dg 65536 (N n2) k)).toInt := Int32.le_iff_toInt_le.mp c2
        have hne : dg 65536 (N n1) k ≠ dg 65536 (N n2) k := fun z => c (by rw [z]; simp)
        have := top_lt ht.symm (show dg 65536 (N n2) k < dg 65536 (N n1) k by omega)
        rw [ord3, if_neg (by omega), if_neg (by omega)]
      · have q : ¬ 0 ≤ (nI (dg 65536 (N n1) k) - nI (dg 65536 (N n2) k)).toInt := fun z => c2 (Int32.le_iff_toInt_le.mpr z)
        have := top_lt ht (show dg 65536 (N n1) k < dg 65536 (N n2) k by omega)
        rw [ord3, if_pos this]
theorem and16 {n : Nat} (hn : n < 2 ^ 32) : nI n &&& (65535 : Int32) = nI (n % 65536) := pk_andN hn 16 (by decide)
theorem shr16 {n : Nat} (hn : n < 2 ^ 31) : nI n >>> ((16 : Int32) &&& 31) = nI (n / 65536) := pk_shrN hn _ 16 (by decide)
theorem C5_plus {n1 n2 : Nat} (H : rS E h ab as R w f0 N sn sg go gs f) (h1 : n1 < 27) (h2 : n2 < 27) (hne : n2 ≠ n1) (hlt : N n1 + N n2 < 65536 ^ 36) : S_X5_plus E h (nI n1) (nI n2) f (fun g => rS E h ab as R w f0 (va_up N n1 (N n1 + N n2)) sn sg go gs g) := by
  obtain ⟨b, H, hN⟩ := H
  refine T_X5_plus (fun n a x1 x2 x3 x4 g => ∃ (k : Nat) (b : Nat → Int32), k ≤ 36 ∧ n = 36 - k ∧ a = h ∧ x1 = nI n1 ∧ x2 = nI n2 ∧ x3 = nI (mc 65536 (N n1) (N n2) 1 k) ∧ x4 = nI k ∧ rB E h ab as R w f0 b sn sg go gs g ∧ dN b (fun m j => if m = n1 ∧ j < k then dg 65536 (N n1 + N n2) j else dg 65536 (N m) j)) ?_ ?_
  · exact ⟨36, 0, b, by omega, rfl, rfl, rfl, rfl, by rw [mc_0]; rfl, rfl, H, hN.1.begin⟩
  · rintro n a x1 x2 x3 x4 g ⟨k, b, hk, rfl, rfl, rfl, rfl, rfl, rfl, H, hd⟩
    unfold X_X5_plus_5
    refine ⟨fun c => ?_, fun c => ?_⟩
    · obtain rfl := k36 hk c
      exact ⟨b, H, bigN.finish hd hN.2 hlt (fun _ _ => rfl)⟩
    · have hk' := k36' hk c
      have e1 : b (36 * n1 + k) = nI (dg 65536 (N n1) k) := hd.read h1 hk' (by omega)
      have e2 : b (36 * n2 + k) = nI (dg 65536 (N n2) k) := hd.read h2 hk' (by omega)
      have d1 := dg_lt (B := 65536) (by decide) (N n1) k
      have d2 := dg_lt (B := 65536) (by decide) (N n2) k
      have d3 := dg_lt (B := 65536) (by decide) (N n1 + N n2) k
      have m1 := mc1_le (B := 65536) (by decide) (N n1) (N n2) k
      have st := add_step (B := 65536) (by decide) (N n1) (N n2) k
      rw [ix36, ix36]
      refine ⟨ab, H.r2, _, H.rd (by omega), ab, H.r2, _, H.rd (by omega), ?_⟩
      rintro x rfl
      rw [e1, e2, nI_add, nI_add, st, and16 (by omega), shr16 (by omega), show (dg 65536 (N n1 + N n2) k + 65536 * mc 65536 (N n1) (N n2) 1 (k + 1)) % 65536 = dg 65536 (N n1 + N n2) k by omega, show (dg 65536 (N n1 + N n2) k + 65536 * mc 65536 (N n1) (N n2) 1 (k + 1)) / 65536 = mc 65536 (N n1) (N n2) 1 (k + 1) by omega]
      obtain ⟨g', hw, H'⟩ := H.wr (j := 36 * n1 + k) (by omega) (nI (dg 65536 (N n1 + N n2) k))
      refine ⟨ab, H.r2, g', hw, ?_⟩
      rintro x rfl y rfl
      exact ⟨36 - (k + 1), by omega, k + 1, _, hk', rfl, rfl, rfl, rfl, rfl, nI_1 k, H', hd.step hk' rfl⟩
/-- what is left of a subtraction's digit, and its borrow -/
theorem less16 {x y c d c' : Nat} (hx : x < 65536) (hy : y < 65536) (hc : c ≤ 1) (hd : d < 65536) (hc' : c' ≤ 1) (e : y + d + c = x + 65536 * c') : (nI x - nI y - nI c) &&& (65535 : Int32) = nI d ∧ (0 ≤ nI x - nI y - nI c ↔ c' = 0) := by
  have eT : (nI x - nI y - nI c).toInt = (x : Int) - y - c := by
    rw [Int32.toInt_sub, pk_sub_toInt (by omega) (by omega), nI_toInt (by omega)]
    apply Int.bmod_eq_of_le <;> omega
  refine ⟨?_, ?_⟩
  · rw [pk_and _ 16 (by decide)]
    congr 1
    have e2 : ((nI x - nI y - nI c).toBitVec.toNat : Int) = (nI x - nI y - nI c).toInt % 4294967296 := by
      have := BitVec.toInt_eq_toNat_bmod (nI x - nI y - nI c).toBitVec
      have h2 : (nI x - nI y - nI c).toInt = (nI x - nI y - nI c).toBitVec.toInt := rfl
      rw [h2, this]
      have h3 := (nI x - nI y - nI c).toBitVec.isLt
      rw [show (4294967296 : Int) = ((2 ^ 32 : Nat) : Int) from rfl, Int.bmod_emod]
      exact (Int.emod_eq_of_lt (by omega) (by omega)).symm
    rw [eT] at e2
    omega
  · rw [Int32.le_iff_toInt_le, eT]
    have : Int32.toInt 0 = 0 := rfl
    omega
theorem C5_lessen {n1 n2 : Nat} (H : rS E h ab as R w f0 N sn sg go gs f) (h1 : n1 < 27) (h2 : n2 < 27) (hne : n2 ≠ n1) (hle : N n2 ≤ N n1) : S_X5_lessen E h (nI n1) (nI n2) f (fun g => rS E h ab as R w f0 (va_up N n1 (N n1 - N n2)) sn sg go gs g) := by
  obtain ⟨b, H, hN⟩ := H
  have hlt : N n1 - N n2 < 65536 ^ 36 := Nat.lt_of_le_of_lt (Nat.sub_le _ _) (hN.2 n1 h1)
  refine T_X5_lessen (fun n a x1 x2 x3 x4 g => ∃ (k : Nat) (b : Nat → Int32), k ≤ 36 ∧ n = 36 - k ∧ a = h ∧ x1 = nI n1 ∧ x2 = nI n2 ∧ x3 = nI (mc 65536 (N n2) (N n1 - N n2) 1 k) ∧ x4 = nI k ∧ rB E h ab as R w f0 b sn sg go gs g ∧ dN b (fun m j => if m = n1 ∧ j < k then dg 65536 (N n1 - N n2) j else dg 65536 (N m) j)) ?_ ?_
  · exact ⟨36, 0, b, by omega, rfl, rfl, rfl, rfl, by rw [mc_0]; rfl, rfl, H, hN.1.begin⟩
  · rintro n a x1 x2 x3 x4 g ⟨k, b, hk, rfl, rfl, rfl, rfl, rfl, rfl, H, hd⟩
    unfold X_X5_lessen_5
    refine ⟨fun c => ?_, fun c => ?_⟩
    · obtain rfl := k36 hk c
      exact ⟨b, H, bigN.finish hd hN.2 hlt (fun _ _ => rfl)⟩
    · have hk' := k36' hk c
      have e1 : b (36 * n1 + k) = nI (dg 65536 (N n1) k) := hd.read h1 hk' (by omega)
      have e2 : b (36 * n2 + k) = nI (dg 65536 (N n2) k) := hd.read h2 hk' (by omega)
      have d1 := dg_lt (B := 65536) (by decide) (N n1) k
      have d2 := dg_lt (B := 65536) (by decide) (N n2) k
      have d3 := dg_lt (B := 65536) (by decide) (N n1 - N n2) k
      have m1 := mc1_le (B := 65536) (by decide) (N n2) (N n1 - N n2) k
      have m2 := mc1_le (B := 65536) (by decide) (N n2) (N n1 - N n2) (k + 1)
      have st := add_step (B := 65536) (by decide) (N n2) (N n1 - N n2) k
      rw [show N n2 + (N n1 - N n2) = N n1 by omega] at st
      obtain ⟨w1, w2⟩ := less16 d1 d2 m1 d3 m2 st
      rw [ix36, ix36]
      refine ⟨ab, H.r2, _, H.rd (by omega), ab, H.r2, _, H.rd (by omega), ?_⟩
      rintro x rfl
      rw [e1, e2, w1]
      obtain ⟨g', hw, H'⟩ := H.wr (j := 36 * n1 + k) (by omega) (nI (dg 65536 (N n1 - N n2) k))
      refine ⟨ab, H.r2, g', hw, ?_, ?_⟩
      · rintro c2 x rfl
        have := w2.mp c2
        exact ⟨36 - (k + 1), by omega, k + 1, _, hk', rfl, rfl, rfl, rfl, by rw [this]; rfl, nI_1 k, H', hd.step hk' rfl⟩
      · rintro c2 x rfl
        have : mc 65536 (N n2) (N n1 - N n2) 1 (k + 1) = 1 := by
          have : ¬ mc 65536 (N n2) (N n1 - N n2) 1 (k + 1) = 0 := fun q => c2 (w2.mpr q)
          omega
        exact ⟨36 - (k + 1), by omega, k + 1, _, hk', rfl, rfl, rfl, rfl, by rw [this]; rfl, nI_1 k, H', hd.step hk' rfl⟩
end REF1
