/-! The best fraction: which it is, that there is only one, and where the last two fractions on both sides are found: pure. -/
/-- how far p over q is from a over d, times d q -/
def gp (a d p q : Int) : Nat := (q * a - p * d).natAbs
/-- (p, q) goes before (p', q'), or is the same -/
def goesB (a d p q p' q' : Int) : Prop := (gp a d p q : Int) * q' < gp a d p' q' * q ∨ ((gp a d p q : Int) * q' = gp a d p' q' * q ∧ (q < q' ∨ (q = q' ∧ p ≤ p')))
def isBest (a d most p q : Int) : Prop := 1 ≤ q ∧ q ≤ most ∧ ∀ p' q' : Int, 1 ≤ q' → q' ≤ most → goesB a d p q p' q'
theorem isBest_uni {a d most p q p' q' : Int} (h : isBest a d most p q) (h' : isBest a d most p' q') : p = p' ∧ q = q' := by
  have h1 := h.2.2 p' q' h'.1 h'.2.1
  have h2 := h'.2.2 p q h.1 h.2.1
  unfold goesB at h1 h2
  omega
theorem goesB_trans {a d p q p' q' p'' q'' : Int} (hq : 1 ≤ q) (hq' : 1 ≤ q') (hq'' : 1 ≤ q'') (h1 : goesB a d p q p' q') (h2 : goesB a d p' q' p'' q'') : goesB a d p q p'' q'' := by
  unfold goesB at *
  generalize (gp a d p q : Int) = x at *
  generalize (gp a d p' q' : Int) = y at *
  generalize (gp a d p'' q'' : Int) = z at *
  have key : ∀ u v : Int, u * q' < v * q' → u < v := fun u v h => Int.lt_of_mul_lt_mul_right h (by omega)
  have key2 : ∀ u v : Int, u * q' = v * q' → u = v := fun u v h => Int.eq_of_mul_eq_mul_right (by omega) h
  have e1 : x * q'' * q' = x * q' * q'' := by grind
  have e2 : z * q * q' = z * q' * q := by grind
  have e3 : y * q * q'' = y * q'' * q := by grind
  rcases h1 with h1 | ⟨h1, h1'⟩
  · have a1 : x * q' * q'' < y * q * q'' := Int.mul_lt_mul_of_pos_right h1 (by omega)
    have a2 : y * q'' * q ≤ z * q' * q := by
      rcases h2 with h2 | ⟨h2, _⟩
      · exact Int.le_of_lt (Int.mul_lt_mul_of_pos_right h2 (by omega))
      · rw [h2]; exact Int.le_refl _
    left
    apply key
    omega
  · have a1 : x * q' * q'' = y * q * q'' := by rw [h1]
    rcases h2 with h2 | ⟨h2, h2'⟩
    · have a2 : y * q'' * q < z * q' * q := Int.mul_lt_mul_of_pos_right h2 (by omega)
      left
      apply key
      omega
    · have a2 : y * q'' * q = z * q' * q := by rw [h2]
      right
      refine ⟨key2 _ _ (by omega), by omega⟩
theorem goesB_total (a d p q p' q' : Int) : goesB a d p q p' q' ∨ goesB a d p' q' p q := by
  unfold goesB
  omega
/-- two fractions on both sides of a over d, next to one another, whose lower numbers together pass most: each other one lies behind one of them -/
theorem near_two {a d most P Q P' Q' σ : Int} {g g' : Nat} (hσ : σ = 1 ∨ σ = -1) (hg : Q * a - P * d = σ * g) (hg' : Q' * a - P' * d = -(σ * g')) (hdet : P' * Q - P * Q' = σ) (hQ : 1 ≤ Q) (hQ' : 1 ≤ Q') (hs : most < Q + Q') (hg0 : 0 < g') (p q : Int) (hq : 1 ≤ q) (hm : q ≤ most) :
    goesB a d P Q p q ∨ goesB a d P' Q' p q := by
  have hss : σ * σ = 1 := by rcases hσ with h | h <;> subst h <;> decide
  obtain ⟨α, hα⟩ : ∃ α : Int, α = σ * (q * P' - p * Q') := ⟨_, rfl⟩
  obtain ⟨β, hβ⟩ : ∃ β : Int, β = σ * (p * Q - P * q) := ⟨_, rfl⟩
  have ep : α * P + β * P' = p := by
    have : α * P + β * P' = σ * (P' * Q - P * Q') * p := by subst hα hβ; grind
    rw [this, hdet, hss, Int.one_mul]
  have eq : α * Q + β * Q' = q := by
    have : α * Q + β * Q' = σ * (P' * Q - P * Q') * q := by subst hα hβ; grind
    rw [this, hdet, hss, Int.one_mul]
  have ee : q * a - p * d = σ * (α * g - β * g') := by
    have : q * a - p * d = α * (Q * a - P * d) + β * (Q' * a - P' * d) := by rw [← ep, ← eq]; grind
    rw [this, hg, hg']
    grind
  have gP : (gp a d P Q : Int) = g := by
    unfold gp
    rw [hg]
    rcases hσ with h | h <;> subst h <;> omega
  have gP' : (gp a d P' Q' : Int) = g' := by
    unfold gp
    rw [hg']
    rcases hσ with h | h <;> subst h <;> omega
  have gpq : (gp a d p q : Int) = ((α * g - β * g').natAbs : Int) := by
    unfold gp
    rw [ee]
    rcases hσ with h | h <;> subst h <;> omega
  unfold goesB
  rw [gP, gP', gpq]
  clear hα hβ gP gP' gpq ee hdet hg hg' hσ hss
  have m1 : ∀ x y : Int, 0 ≤ x → 0 ≤ y → 0 ≤ x * y := fun x y h1 h2 => Int.mul_nonneg h1 h2
  rcases Int.lt_trichotomy β 0 with hb | hb | hb
  · -- β below 0
    have ha : 0 < α := by
      rcases Int.lt_or_le 0 α with h | h
      · exact h
      · exfalso
        have t1 : 0 ≤ (-α) * Q := m1 _ _ (by omega) (by omega)
        have t2 : 0 ≤ (-β) * Q' := m1 _ _ (by omega) (by omega)
        rw [Int.neg_mul] at t1 t2
        omega
    have t1 : 0 ≤ α * g := m1 _ _ (by omega) (by omega)
    have t2 : 0 < (-β) * g' := Int.mul_pos (by omega) (by omega)
    rw [Int.neg_mul] at t2
    have hn : ((α * g - β * g').natAbs : Int) = α * g - β * g' := by omega
    left; left
    rw [hn, ← eq]
    have t3 : 0 < (-β) * g' * Q := Int.mul_pos (by rw [Int.neg_mul]; exact t2) (by omega)
    have t4 : 0 ≤ (-β) * g * Q' := m1 _ _ (m1 _ _ (by omega) (by omega)) (by omega)
    have : (α * g - β * g') * Q - g * (α * Q + β * Q') = (-β) * g' * Q + (-β) * g * Q' := by grind
    omega
  · subst hb
    have e0 : α * Q = q := by rw [← eq]; grind
    have e1 : α * P = p := by rw [← ep]; grind
    have ha : 0 < α := by
      rcases Int.lt_or_le 0 α with h | h
      · exact h
      · exfalso
        have t1 : 0 ≤ (-α) * Q := m1 _ _ (by omega) (by omega)
        rw [Int.neg_mul] at t1
        omega
    have t1 : 0 ≤ α * g := m1 _ _ (by omega) (by omega)
    have hn : ((α * g - 0 * g').natAbs : Int) = α * g := by rw [Int.zero_mul]; omega
    left; right
    rw [hn]
    refine ⟨by rw [← e0]; grind, ?_⟩
    rcases Int.lt_or_le 1 α with h | h
    · left
      have : 1 * Q < α * Q := Int.mul_lt_mul_of_pos_right h (by omega)
      omega
    · have : α = 1 := by omega
      subst this
      right
      rw [Int.one_mul] at e0 e1
      exact ⟨e0, by omega⟩
  · -- β above 0
    rcases Int.lt_trichotomy α 0 with ha | ha | ha
    · have t1 : 0 ≤ (-α) * g := m1 _ _ (by omega) (by omega)
      have t2 : 0 < β * g' := Int.mul_pos (by omega) (by omega)
      rw [Int.neg_mul] at t1
      have hn : ((α * g - β * g').natAbs : Int) = β * g' - α * g := by omega
      right; left
      rw [hn, ← eq]
      have t3 : 0 < (-α) * g' * Q := Int.mul_pos (Int.mul_pos (by omega) (by omega)) (by omega)
      have t4 : 0 ≤ (-α) * g * Q' := m1 _ _ (m1 _ _ (by omega) (by omega)) (by omega)
      have : (β * g' - α * g) * Q' - g' * (α * Q + β * Q') = (-α) * g' * Q + (-α) * g * Q' := by grind
      omega
    · subst ha
      have e0 : β * Q' = q := by rw [← eq]; grind
      have e1 : β * P' = p := by rw [← ep]; grind
      have t2 : 0 < β * g' := Int.mul_pos (by omega) (by omega)
      have hn : ((0 * (g : Int) - β * g').natAbs : Int) = β * g' := by rw [Int.zero_mul]; omega
      right; right
      rw [hn]
      refine ⟨by rw [← e0]; grind, ?_⟩
      rcases Int.lt_or_le 1 β with h | h
      · left
        have : 1 * Q' < β * Q' := Int.mul_lt_mul_of_pos_right h (by omega)
        omega
      · have : β = 1 := by omega
        subst this
        right
        rw [Int.one_mul] at e0 e1
        exact ⟨e0, by omega⟩
    · exfalso
      have t1 : 1 * Q ≤ α * Q := Int.mul_le_mul_of_nonneg_right (by omega) (by omega)
      have t2 : 1 * Q' ≤ β * Q' := Int.mul_le_mul_of_nonneg_right (by omega) (by omega)
      omega
