/-! Sums, products and quotients of fractions in lowest terms: pure. -/
def rN (N D : Nat) : Nat := N / Nat.gcd N D
def rD (N D : Nat) : Nat := D / Nat.gcd N D
theorem rN_dvd (N D : Nat) : Nat.gcd N D * rN N D = N := Nat.mul_div_cancel' (Nat.gcd_dvd_left N D)
theorem rD_dvd (N D : Nat) : Nat.gcd N D * rD N D = D := Nat.mul_div_cancel' (Nat.gcd_dvd_right N D)
theorem rD_pos {N D : Nat} (h : 0 < D) : 0 < rD N D := by
  have := rD_dvd N D
  rcases Nat.eq_zero_or_pos (rD N D) with q | q
  · rw [q] at this; omega
  · exact q
theorem r_co {N D : Nat} (h : 0 < D) : Nat.gcd (rN N D) (rD N D) = 1 := red_co (Nat.gcd_pos_of_pos_right _ h)
theorem rN_zero {D : Nat} : rN 0 D = 0 := by simp [rN]
theorem rD_zero {D : Nat} (h : 0 < D) : rD 0 D = 1 := by
  simp [rD, Nat.div_self h]
theorem rN_le (N D : Nat) : rN N D ≤ N := Nat.div_le_self _ _
theorem rD_le (N D : Nat) : rD N D ≤ D := Nat.div_le_self _ _
theorem rN_pos {N D : Nat} (h : 0 < N) : 0 < rN N D := by
  have := rN_dvd N D
  rcases Nat.eq_zero_or_pos (rN N D) with q | q
  · rw [q] at this; omega
  · exact q
/-- the upper number of a sum, less what is common to the lower ones, shares nothing with what is left of one lower number -/
theorem fr_half {n1 d1 e1 e2 t x : Nat} (hc : Nat.gcd n1 d1 = 1) (he : e1 ∣ d1) (hee : Nat.gcd e1 e2 = 1) (hT : ∀ k, k ∣ t → k ∣ x * e1 → k ∣ n1 * e2) : Nat.gcd t e1 = 1 := by
  have k1 : Nat.gcd t e1 ∣ t := Nat.gcd_dvd_left t e1
  have k2 : Nat.gcd t e1 ∣ e1 := Nat.gcd_dvd_right t e1
  have k3 : Nat.gcd t e1 ∣ n1 * e2 := hT _ k1 (Nat.dvd_trans k2 (Nat.dvd_mul_left _ _))
  generalize Nat.gcd t e1 = k at *
  have c1 : Nat.Coprime k n1 := by
    have : Nat.Coprime d1 n1 := by rw [Nat.Coprime, Nat.gcd_comm]; exact hc
    exact Nat.Coprime.coprime_dvd_left (Nat.dvd_trans k2 he) this
  have k4 : k ∣ e2 := Nat.Coprime.dvd_of_dvd_mul_left c1 k3
  have k5 : k ∣ Nat.gcd e1 e2 := Nat.dvd_gcd k2 k4
  rw [hee] at k5
  exact Nat.dvd_one.mp k5
theorem fr_sum {n1 d1 n2 d2 t : Nat} (c1 : Nat.gcd n1 d1 = 1) (c2 : Nat.gcd n2 d2 = 1) (h1 : 0 < d1) (h2 : 0 < d2)
    (hT1 : ∀ k, k ∣ t → k ∣ n2 * (d1 / Nat.gcd d1 d2) → k ∣ n1 * (d2 / Nat.gcd d1 d2)) (hT2 : ∀ k, k ∣ t → k ∣ n1 * (d2 / Nat.gcd d1 d2) → k ∣ n2 * (d1 / Nat.gcd d1 d2)) :
    t / Nat.gcd t (Nat.gcd d1 d2) = rN (t * Nat.gcd d1 d2) (d1 * d2) ∧ d1 / Nat.gcd d1 d2 * (d2 / Nat.gcd d1 d2) * (Nat.gcd d1 d2 / Nat.gcd t (Nat.gcd d1 d2)) = rD (t * Nat.gcd d1 d2) (d1 * d2) := by
  have hg : 0 < Nat.gcd d1 d2 := Nat.gcd_pos_of_pos_left _ h1
  have hee : Nat.gcd (d1 / Nat.gcd d1 d2) (d2 / Nat.gcd d1 d2) = 1 := red_co hg
  have x1 : Nat.gcd d1 d2 * (d1 / Nat.gcd d1 d2) = d1 := Nat.mul_div_cancel' (Nat.gcd_dvd_left d1 d2)
  have x2 : Nat.gcd d1 d2 * (d2 / Nat.gcd d1 d2) = d2 := Nat.mul_div_cancel' (Nat.gcd_dvd_right d1 d2)
  have p1 : 0 < d1 / Nat.gcd d1 d2 := Nat.div_pos (Nat.le_of_dvd h1 (Nat.gcd_dvd_left d1 d2)) hg
  have p2 : 0 < d2 / Nat.gcd d1 d2 := Nat.div_pos (Nat.le_of_dvd h2 (Nat.gcd_dvd_right d1 d2)) hg
  generalize Nat.gcd d1 d2 = g at *
  generalize d1 / g = e1 at *
  generalize d2 / g = e2 at *
  have a1 : Nat.gcd t e1 = 1 := fr_half c1 ⟨g, by rw [← x1, Nat.mul_comm]⟩ hee hT1
  have a2 : Nat.gcd t e2 = 1 := fr_half c2 ⟨g, by rw [← x2, Nat.mul_comm]⟩ (by rw [Nat.gcd_comm]; exact hee) hT2
  have hg2 : 0 < Nat.gcd t g := Nat.gcd_pos_of_pos_right _ hg
  have a3 : Nat.gcd (t / Nat.gcd t g) (g / Nat.gcd t g) = 1 := red_co hg2
  have y1 : Nat.gcd t g * (t / Nat.gcd t g) = t := Nat.mul_div_cancel' (Nat.gcd_dvd_left t g)
  have y2 : Nat.gcd t g * (g / Nat.gcd t g) = g := Nat.mul_div_cancel' (Nat.gcd_dvd_right t g)
  have p3 : 0 < g / Nat.gcd t g := Nat.div_pos (Nat.le_of_dvd hg (Nat.gcd_dvd_right t g)) hg2
  generalize Nat.gcd t g = g2 at *
  generalize t / g2 = t' at *
  generalize g / g2 = g' at *
  have dv : t' ∣ t := ⟨g2, by rw [← y1, Nat.mul_comm]⟩
  have b1 : Nat.Coprime t' e1 := Nat.Coprime.coprime_dvd_left dv a1
  have b2 : Nat.Coprime t' e2 := Nat.Coprime.coprime_dvd_left dv a2
  have hco : Nat.gcd t' (e1 * e2 * g') = 1 := Nat.Coprime.mul_right (Nat.Coprime.mul_right b1 b2) a3
  refine red_uni hco (Nat.mul_pos h1 h2) (Nat.mul_pos (Nat.mul_pos p1 p2) p3) ?_
  rw [← x1, ← x2]
  calc t' * (g * e1 * (g * e2)) = e1 * e2 * (t' * g * g) := by grind
    _ = e1 * e2 * (t' * (g2 * g') * g) := by rw [y2]
    _ = e1 * e2 * g' * ((g2 * t') * g) := by grind
    _ = e1 * e2 * g' * (t * g) := by rw [y1]
theorem fr_mul {n1 d1 n2 d2 : Nat} (c1 : Nat.gcd n1 d1 = 1) (c2 : Nat.gcd n2 d2 = 1) (h1 : 0 < d1) (h2 : 0 < d2) :
    n1 / Nat.gcd n1 d2 * (n2 / Nat.gcd n2 d1) = rN (n1 * n2) (d1 * d2) ∧ d1 / Nat.gcd n2 d1 * (d2 / Nat.gcd n1 d2) = rD (n1 * n2) (d1 * d2) := by
  have g1 : 0 < Nat.gcd n1 d2 := Nat.gcd_pos_of_pos_right _ h2
  have g2 : 0 < Nat.gcd n2 d1 := Nat.gcd_pos_of_pos_right _ h1
  have k1 : Nat.gcd (n1 / Nat.gcd n1 d2) (d2 / Nat.gcd n1 d2) = 1 := red_co g1
  have k2 : Nat.gcd (n2 / Nat.gcd n2 d1) (d1 / Nat.gcd n2 d1) = 1 := red_co g2
  have x1 : Nat.gcd n1 d2 * (n1 / Nat.gcd n1 d2) = n1 := Nat.mul_div_cancel' (Nat.gcd_dvd_left n1 d2)
  have x2 : Nat.gcd n1 d2 * (d2 / Nat.gcd n1 d2) = d2 := Nat.mul_div_cancel' (Nat.gcd_dvd_right n1 d2)
  have x3 : Nat.gcd n2 d1 * (n2 / Nat.gcd n2 d1) = n2 := Nat.mul_div_cancel' (Nat.gcd_dvd_left n2 d1)
  have x4 : Nat.gcd n2 d1 * (d1 / Nat.gcd n2 d1) = d1 := Nat.mul_div_cancel' (Nat.gcd_dvd_right n2 d1)
  have p1 : 0 < d2 / Nat.gcd n1 d2 := Nat.div_pos (Nat.le_of_dvd h2 (Nat.gcd_dvd_right n1 d2)) g1
  have p2 : 0 < d1 / Nat.gcd n2 d1 := Nat.div_pos (Nat.le_of_dvd h1 (Nat.gcd_dvd_right n2 d1)) g2
  generalize Nat.gcd n1 d2 = a at *
  generalize Nat.gcd n2 d1 = b at *
  generalize n1 / a = n1' at *
  generalize d2 / a = d2' at *
  generalize n2 / b = n2' at *
  generalize d1 / b = d1' at *
  have w1 : n1' ∣ n1 := ⟨a, by rw [← x1, Nat.mul_comm]⟩
  have w2 : d1' ∣ d1 := ⟨b, by rw [← x4, Nat.mul_comm]⟩
  have w3 : n2' ∣ n2 := ⟨b, by rw [← x3, Nat.mul_comm]⟩
  have w4 : d2' ∣ d2 := ⟨a, by rw [← x2, Nat.mul_comm]⟩
  have q1 : Nat.Coprime n1' d1' := Nat.Coprime.coprime_dvd_left w1 (Nat.Coprime.coprime_dvd_right w2 c1)
  have q2 : Nat.Coprime n2' d2' := Nat.Coprime.coprime_dvd_left w3 (Nat.Coprime.coprime_dvd_right w4 c2)
  have hco : Nat.gcd (n1' * n2') (d1' * d2') = 1 := Nat.Coprime.mul_left (Nat.Coprime.mul_right q1 k1) (Nat.Coprime.mul_right k2 q2)
  refine red_uni hco (Nat.mul_pos h1 h2) (Nat.mul_pos p2 p1) ?_
  rw [← x4, ← x2]
  calc n1' * n2' * (b * d1' * (a * d2')) = d1' * d2' * ((a * n1') * (b * n2')) := by grind
    _ = d1' * d2' * (n1 * n2) := by rw [x1, x3]
