/-! Long division (the guess of a quotient's digit), Euclid's steps, the common divisor by halving: all of it pure. -/
theorem kn_lt {Y E g : Nat} (h : Y < g * E) : Y / E < g := by
  apply Nat.div_lt_of_lt_mul
  rwa [Nat.mul_comm]
/-- a guess that the three topmost digits show to be too great -/
theorem kn_over {B P Y E u12 u3 v1 v2 r0 d0 g r : Nat} (hY : Y = (u12 * B + u3) * P + r0) (hr : r0 < P) (hE : E = (v1 * B + v2) * P + d0) (hg : g * v1 + r = u12) (ht : r * B + u3 < g * v2) : Y / E < g := by
  apply kn_lt
  have h1 : u12 * B + u3 + 1 ≤ g * (v1 * B + v2) := by
    rw [← hg, Nat.mul_add, ← Nat.mul_assoc, Nat.add_mul]
    omega
  have h2 : (u12 * B + u3 + 1) * P ≤ g * (v1 * B + v2) * P := Nat.mul_le_mul_right P h1
  have h3 : g * (v1 * B + v2) * P ≤ g * E := by
    rw [hE, Nat.mul_assoc]
    exact Nat.mul_le_mul_left g (Nat.le_add_right _ _)
  rw [Nat.add_mul, Nat.one_mul] at h2
  omega
/-- a guess that they don't show to be too great is at most one too great -/
theorem kn_near {B P Y E u12 u3 v1 v2 r0 d0 g r : Nat} (hB : 0 < B) (hY : Y = (u12 * B + u3) * P + r0) (hd : d0 < P) (hE : E = (v1 * B + v2) * P + d0) (hv : 0 < v1) (hq : Y / E < B) (hg : g * v1 + r = u12) (ht : g * v2 ≤ r * B + u3) : g ≤ Y / E + 1 := by
  have hE0 : 0 < E := by
    have : 0 < v1 * B := Nat.mul_pos hv hB
    have : 0 < (v1 * B + v2) * P := Nat.mul_pos (by omega) (by omega)
    omega
  have hlt : Y < E * (Y / E + 1) := Nat.lt_mul_div_succ Y hE0
  generalize Y / E = q at *
  rcases Nat.lt_or_ge (q + 1) g with h | h
  · exfalso
    have hV : B ≤ v1 * B + v2 := by
      have : 1 * B ≤ v1 * B := Nat.mul_le_mul_right B hv
      omega
    have h1 : g * (v1 * B + v2) ≤ u12 * B + u3 := by
      rw [← hg, Nat.mul_add, ← Nat.mul_assoc, Nat.add_mul]
      omega
    generalize v1 * B + v2 = V at *
    generalize u12 * B + u3 = U at *
    have h2 : (q + 2) * V ≤ U := Nat.le_trans (Nat.mul_le_mul_right V h) h1
    have h3 : (q + 2) * V * P ≤ U * P := Nat.mul_le_mul_right P h2
    have h4 : E * (q + 1) ≤ ((V + 1) * P) * (q + 1) := Nat.mul_le_mul_right _ (by rw [Nat.add_mul]; omega)
    have h5 : (q + 2) * V * P < (V + 1) * (q + 1) * P := by
      have : (V + 1) * P * (q + 1) = (V + 1) * (q + 1) * P := Nat.mul_right_comm _ _ _
      omega
    have h6 := Nat.lt_of_mul_lt_mul_right h5
    have e1 : (q + 2) * V = q * V + 2 * V := Nat.add_mul _ _ _
    have e2 : (V + 1) * (q + 1) = q * V + V + q + 1 := by
      rw [Nat.add_mul, Nat.mul_add, Nat.mul_comm V q]; omega
    omega
  · exact h
/-- the first guess is at most two too great -/
theorem kn_two {B P Y E u12 u3 v1 v2 r0 d0 g r : Nat} (hY : Y = (u12 * B + u3) * P + r0) (hd : d0 < P) (hE : E = (v1 * B + v2) * P + d0) (hv2 : v2 < B) (hv : 0 < v1) (hn : B ≤ 2 * v1) (hq : Y / E < B) (hg : g * v1 + r = u12) : g ≤ Y / E + 2 := by
  have hB : 0 < B := by omega
  have hE0 : 0 < E := by
    have : 0 < v1 * B := Nat.mul_pos hv hB
    have : 0 < (v1 * B + v2) * P := Nat.mul_pos (by omega) (by omega)
    omega
  have hlt : Y < E * (Y / E + 1) := Nat.lt_mul_div_succ Y hE0
  generalize Y / E = q at *
  rcases Nat.lt_or_ge (q + 2) g with h | h
  · exfalso
    have h1 : (q + 3) * v1 ≤ u12 := Nat.le_trans (Nat.mul_le_mul_right v1 h) (by omega)
    have h2 : (q + 3) * v1 * (B * P) ≤ u12 * (B * P) := Nat.mul_le_mul_right _ h1
    have h3 : u12 * (B * P) ≤ Y := by
      rw [hY, Nat.add_mul, Nat.mul_assoc]
      omega
    have h4 : E ≤ (v1 + 1) * (B * P) := by
      have a1 : v2 * P + P ≤ B * P := by
        have := Nat.mul_le_mul_right P hv2
        rwa [Nat.succ_mul] at this
      rw [hE, Nat.add_mul, Nat.add_mul, Nat.mul_assoc]
      omega
    have h5 : E * (q + 1) ≤ (v1 + 1) * (B * P) * (q + 1) := Nat.mul_le_mul_right _ h4
    have h6 : (q + 3) * v1 * (B * P) < (v1 + 1) * (q + 1) * (B * P) := by
      have : (v1 + 1) * (B * P) * (q + 1) = (v1 + 1) * (q + 1) * (B * P) := Nat.mul_right_comm _ _ _
      omega
    have h7 := Nat.lt_of_mul_lt_mul_right h6
    have e1 : (q + 3) * v1 = q * v1 + 3 * v1 := Nat.add_mul _ _ _
    have e2 : (v1 + 1) * (q + 1) = q * v1 + v1 + q + 1 := by
      rw [Nat.add_mul, Nat.mul_add, Nat.mul_comm v1 q]; omega
    omega
  · exact h
/-- the first guess isn't too small: the quotient of two digits by one -/
theorem kn_first {B P Y E u12 u3 v1 v2 r0 d0 g r : Nat} (hY : Y = (u12 * B + u3) * P + r0) (hr0 : r0 < P) (hu3 : u3 < B) (hE : E = (v1 * B + v2) * P + d0) (hg : g * v1 + r = u12) (hr : r < v1) : Y / E ≤ g := by
  apply Nat.le_of_lt_succ
  apply kn_lt
  have h1 : u12 + 1 ≤ (g + 1) * v1 := by rw [Nat.add_mul]; omega
  have h2 : (u12 + 1) * (B * P) ≤ (g + 1) * v1 * (B * P) := Nat.mul_le_mul_right _ h1
  have h3 : (g + 1) * v1 * (B * P) ≤ (g + 1) * E := by
    rw [Nat.mul_assoc, hE]
    refine Nat.mul_le_mul_left _ ?_
    rw [Nat.add_mul, Nat.mul_assoc]
    omega
  have h4 : Y < (u12 + 1) * (B * P) := by
    have a1 : u3 * P + P ≤ B * P := by
      have := Nat.mul_le_mul_right P hu3
      rwa [Nat.succ_mul] at this
    rw [hY, Nat.add_mul, Nat.add_mul, Nat.mul_assoc]
    omega
  show Y < (g + 1) * E
  omega
/-- where the two digits by one would pass the base, the top digits are the same -/
theorem kn_same {B P Y E u1 u2 u3 v1 v2 r0 d0 : Nat} (hY : Y = ((u1 * B + u2) * B + u3) * P + r0) (hd : d0 < P) (hE : E = (v1 * B + v2) * P + d0) (hv2 : v2 < B) (hlt : Y < E * B) : u1 ≤ v1 := by
  rcases Nat.lt_or_ge v1 u1 with h | h
  · exfalso
    have h4 : E ≤ (v1 + 1) * (B * P) := by
      have a1 : v2 * P + P ≤ B * P := by
        have := Nat.mul_le_mul_right P hv2
        rwa [Nat.succ_mul] at this
      rw [hE, Nat.add_mul, Nat.add_mul, Nat.mul_assoc]
      omega
    have h5 : E * B ≤ (v1 + 1) * (B * P) * B := Nat.mul_le_mul_right B h4
    have h6 : (v1 + 1) * (B * P) * B ≤ u1 * (B * P) * B := Nat.mul_le_mul_right B (Nat.mul_le_mul_right _ h)
    have h7 : u1 * (B * P) * B ≤ Y := by
      rw [hY]
      have : u1 * (B * P) * B = u1 * B * B * P := by grind
      rw [this]
      refine Nat.le_trans (Nat.mul_le_mul_right P ?_) (Nat.le_add_right _ _)
      rw [Nat.add_mul]
      omega
    omega
  · exact h
/-! Euclid: with as many steps as two for each bit, the second number comes to 0 -/
def eucl : Nat → Nat → Nat → Nat × Nat
  | 0, a, b => (a, b)
  | n + 1, a, b => if b = 0 then (a, b) else eucl n b (a % b)
theorem eucl_z (n a : Nat) : eucl n a 0 = (a, 0) := by
  cases n <;> simp [eucl]
theorem eucl_ok : ∀ (k n a b : Nat), b < 2 ^ k → 2 * k ≤ n → eucl n a b = (Nat.gcd a b, 0)
  | 0, n, a, b, hb, _ => by
    have : b = 0 := by simpa using hb
    subst this
    rw [eucl_z, Nat.gcd_zero_right]
  | k + 1, n, a, b, hb, hn => by
    obtain ⟨n', rfl⟩ : ∃ n', n = n' + 2 := ⟨n - 2, by omega⟩
    by_cases h0 : b = 0
    · subst h0
      rw [eucl_z, Nat.gcd_zero_right]
    · rw [eucl, if_neg h0, eucl]
      have hr : a % b < b := Nat.mod_lt _ (by omega)
      have g1 : Nat.gcd a b = Nat.gcd b (a % b) := by
        rw [Nat.gcd_comm a b, Nat.gcd_rec b a, Nat.gcd_comm]
      by_cases h1 : a % b = 0
      · rw [if_pos h1, g1, h1, Nat.gcd_zero_right]
      · rw [if_neg h1]
        have h2 : b % (a % b) < a % b := Nat.mod_lt _ (by omega)
        have h3 := Nat.div_add_mod b (a % b)
        have h4 : 1 ≤ b / (a % b) := Nat.div_pos (Nat.le_of_lt hr) (by omega)
        have h5 : (a % b) * 1 ≤ (a % b) * (b / (a % b)) := Nat.mul_le_mul_left _ h4
        have h6 : b % (a % b) < 2 ^ k := by
          have : 2 ^ (k + 1) = 2 * 2 ^ k := by rw [Nat.pow_succ, Nat.mul_comm]
          omega
        rw [eucl_ok k n' _ _ h6 (by omega), g1]
        congr 1
        rw [Nat.gcd_comm b, Nat.gcd_rec (a % b) b, Nat.gcd_comm]
/-! the common divisor by halving -/
theorem bg_even2 (a b : Nat) : Nat.gcd (2 * a) (2 * b) = 2 * Nat.gcd a b := Nat.gcd_mul_left 2 a b
theorem bg_odd2 {b : Nat} (hb : b % 2 = 1) : Nat.Coprime 2 b := by
  show Nat.gcd 2 b = 1
  rw [Nat.gcd_rec 2 b, hb]
  decide
theorem bg_half {a b : Nat} (hb : b % 2 = 1) : Nat.gcd (2 * a) b = Nat.gcd a b := Nat.Coprime.gcd_mul_left_cancel a (bg_odd2 hb)
theorem bg_sub {a b : Nat} (h : a ≤ b) : Nat.gcd a (b - a) = Nat.gcd a b := by
  have e : b = (b - a) + a := by omega
  have : Nat.gcd a ((b - a) + a) = Nat.gcd a (b - a) := Nat.gcd_add_self_right ..
  rw [← e] at this
  exact this.symm
/-! lowest terms -/
theorem red_uni {a b N D : Nat} (hab : Nat.gcd a b = 1) (hD : 0 < D) (hb : 0 < b) (h : a * D = b * N) : a = N / Nat.gcd N D ∧ b = D / Nat.gcd N D := by
  have hg : 0 < Nat.gcd N D := Nat.gcd_pos_of_pos_right _ hD
  obtain ⟨N', hN⟩ := Nat.gcd_dvd_left N D
  obtain ⟨D', hD'⟩ := Nat.gcd_dvd_right N D
  have hc : Nat.gcd N' D' = 1 := by
    have h1 : Nat.gcd (Nat.gcd N D * N') (Nat.gcd N D * D') = Nat.gcd N D * Nat.gcd N' D' := Nat.gcd_mul_left _ _ _
    rw [← hN, ← hD'] at h1
    have : Nat.gcd N D * 1 = Nat.gcd N D * Nat.gcd N' D' := by omega
    exact (Nat.eq_of_mul_eq_mul_left hg this).symm
  generalize Nat.gcd N D = g at *
  subst hN
  subst hD'
  rw [Nat.mul_div_cancel_left _ hg, Nat.mul_div_cancel_left _ hg]
  have h2 : a * D' = b * N' := by
    have : g * (a * D') = g * (b * N') := by
      rw [Nat.mul_left_comm, h, Nat.mul_left_comm]
    exact Nat.eq_of_mul_eq_mul_left hg this
  have d1 : a ∣ N' := Nat.Coprime.dvd_of_dvd_mul_left (show Nat.Coprime a b from hab) ⟨D', h2.symm⟩
  have d2 : N' ∣ a := Nat.Coprime.dvd_of_dvd_mul_right (show Nat.Coprime N' D' from hc) ⟨b, by rw [h2, Nat.mul_comm]⟩
  have d3 : b ∣ D' := Nat.Coprime.dvd_of_dvd_mul_left (show Nat.Coprime b a by rw [Nat.Coprime, Nat.gcd_comm]; exact hab) ⟨N', h2⟩
  have d4 : D' ∣ b := Nat.Coprime.dvd_of_dvd_mul_right (show Nat.Coprime D' N' by rw [Nat.Coprime, Nat.gcd_comm]; exact hc) ⟨a, by rw [← h2, Nat.mul_comm]⟩
  exact ⟨Nat.dvd_antisymm d1 d2, Nat.dvd_antisymm d3 d4⟩
/-- what is left when both are divided by what they share -/
theorem red_co {a b : Nat} (h : 0 < Nat.gcd a b) : Nat.gcd (a / Nat.gcd a b) (b / Nat.gcd a b) = 1 := by
  rw [Nat.gcd_div (Nat.gcd_dvd_left a b) (Nat.gcd_dvd_right a b), Nat.div_self h]
