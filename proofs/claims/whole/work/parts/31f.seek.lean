/-! The class: the nearest fraction. -/
/-- two fractions next to one another on both sides of z over d, with their gaps -/
def sI (z : Int) (d mo : Nat) (P oP σ : Int) (Q oQ gg og : Nat) : Prop := (σ = 1 ∨ σ = -1) ∧ (Q : Int) * z - P * d = σ * gg ∧ (oQ : Int) * z - oP * d = -(σ * og) ∧ oP * Q - P * oQ = σ ∧ 1 ≤ Q ∧ Q ≤ mo ∧ oQ ≤ mo ∧ gg < og ∧ og ≤ d
theorem P_bd {z d P Q e : Int} (hd : 0 < d) (he : Q * z - P * d = e) (h1 : -d ≤ e) (h2 : e ≤ d) (hQ : 0 ≤ Q) (hQ2 : Q ≤ 1000) (hz : inI (z / d)) : -4398046511104 < P ∧ P < 4398046511104 := by
  have e1 := Int.mul_ediv_add_emod z d
  have r1 := Int.emod_nonneg z (show d ≠ 0 by omega)
  have r2 := Int.emod_lt_of_pos z hd
  generalize z / d = fl at *
  generalize z % d = r at *
  obtain ⟨k, hk⟩ : ∃ k, k = Q * fl - P := ⟨_, rfl⟩
  have e2 : d * k + Q * r = e := by rw [hk, ← he, ← e1]; grind
  have q1 : 0 ≤ Q * r := Int.mul_nonneg hQ r1
  have q2 : Q * r ≤ Q * d := Int.mul_le_mul_of_nonneg_left (by omega) hQ
  have q3 : Q * d = d * Q := Int.mul_comm _ _
  have k1 : k ≤ 1 := by
    rcases Int.lt_or_le 1 k with w | w
    · exfalso
      have : d * 2 ≤ d * k := Int.mul_le_mul_of_nonneg_left (by omega) (by omega)
      omega
    · exact w
  have k2 : -(Q + 1) ≤ k := by
    rcases Int.lt_or_le k (-(Q + 1)) with w | w
    · exfalso
      have : d * k ≤ d * (-(Q + 2)) := Int.mul_le_mul_of_nonneg_left (by omega) (by omega)
      have e3 : d * (-(Q + 2)) = -(d * Q) - 2 * d := by grind
      omega
    · exact w
  have f1 : Q * fl ≤ Q * 2147483647 := Int.mul_le_mul_of_nonneg_left hz.2 hQ
  have f2 : Q * (-2147483648) ≤ Q * fl := Int.mul_le_mul_of_nonneg_left hz.1 hQ
  omega
theorem ofI_t {P : Int} (h : -4398046511104 < P ∧ P < 4398046511104) : (Int64.ofInt P).toInt = P := Int64.toInt_ofInt_of_le (by omega) (by omega)
section CL
variable {E : cx} {ad : Nat → Nat} {R : Nat} {W : Int32} {f00 : hm} {V : Nat → Nat} {sg : Nat → Int32} {a b : Nat} {u l ou ol : Int64} {g o x i j k : Nat} {f f' : hm}
theorem best_zero {z d P oP σ Q oQ mo : Int} (hd : 0 < d) (hσ : σ = 1 ∨ σ = -1) (hg : Q * z - P * d = 0) (hdet : oP * Q - P * oQ = σ) (hQ : 1 ≤ Q) (hm : Q ≤ mo) : isBest z d mo P Q := by
  refine ⟨hQ, hm, fun p' q' h1 h2 => ?_⟩
  have hss : σ * σ = 1 := by rcases hσ with h | h <;> subst h <;> decide
  unfold goesB
  have g0 : (gp z d P Q : Int) = 0 := by unfold gp; rw [hg]; rfl
  rw [g0, Int.zero_mul]
  rcases Nat.eq_zero_or_pos (gp z d p' q') with w | w
  · right
    have w1 : q' * z - p' * d = 0 := Int.natAbs_eq_zero.mp w
    rw [w]
    refine ⟨by simp, ?_⟩
    have e1 : P * q' = p' * Q := by
      have : d * (P * q') = d * (p' * Q) := by
        have a1 : P * d = Q * z := by omega
        have a2 : p' * d = q' * z := by omega
        calc d * (P * q') = (P * d) * q' := by grind
          _ = Q * z * q' := by rw [a1]
          _ = (q' * z) * Q := by grind
          _ = d * (p' * Q) := by rw [← a2]; grind
      exact Int.eq_of_mul_eq_mul_left (by omega) this
    have e2 : q' = Q * (σ * (oP * q' - oQ * p')) := by
      calc q' = σ * σ * q' := by rw [hss, Int.one_mul]
        _ = σ * (oP * Q - P * oQ) * q' := by rw [hdet]
        _ = σ * (oP * Q * q' - oQ * (P * q')) := by grind
        _ = σ * (oP * Q * q' - oQ * (p' * Q)) := by rw [e1]
        _ = Q * (σ * (oP * q' - oQ * p')) := by grind
    obtain ⟨m, hm'⟩ : ∃ m, σ * (oP * q' - oQ * p') = m := ⟨_, rfl⟩
    rw [hm'] at e2
    have hm0 : 1 ≤ m := by
      rcases Int.lt_or_le 0 m with w | w
      · omega
      · exfalso
        have : 0 ≤ Q * (-m) := Int.mul_nonneg (by omega) (by omega)
        rw [Int.mul_neg] at this
        omega
    rcases Int.lt_or_le 1 m with w2 | w2
    · left
      have : Q * 2 ≤ Q * m := Int.mul_le_mul_of_nonneg_left (by omega) (by omega)
      omega
    · right
      have : m = 1 := by omega
      rw [this, Int.mul_one] at e2
      refine ⟨e2.symm, ?_⟩
      rw [e2, Int.mul_comm p'] at e1
      have := Int.eq_of_mul_eq_mul_left (show Q ≠ 0 by omega) (show Q * P = Q * p' by rw [Int.mul_comm Q P]; exact e1)
      omega
  · left
    have : 0 < (gp z d p' q' : Int) * Q := Int.mul_pos (by omega) (by omega)
    exact this
theorem U2_choose {C : hm → Prop} {z P oP σ : Int} {d Q oQ gg og mo : Nat} (H : cS E ad R W f00 V sg a b (Int64.ofInt P) (lN Q) (Int64.ofInt oP) (lN oQ) g o x f) (hG : cG g o x) (hg : V g = gg) (ho : V o = og) (S : sI z d mo P oP σ Q oQ gg og) (hmo : mo ≤ 1000) (hg0 : gg ≠ 0) (hend : mo < oQ + og / gg * Q) (hd8 : d < 4294967296 ^ 8) (hz : inI (z / (d : Int)))
    (c : ∀ (V' : Nat → Nat) (P' : Int) (Q' : Nat) f', isBest z d mo P' Q' → (∀ k, k < 23 ∨ 30 ≤ k → V' k = V k) → cS E ad R W f00 V' sg a b (Int64.ofInt P') (lN Q') (Int64.ofInt oP) (lN oQ) g o x f' → C f') : isO f (ad 3) 2 ∧ S_X2_chooseNearer E (ad 3) (nI mo) f C := by
  refine ⟨H.o3, T_X2_chooseNearer ?_⟩
  unfold X_X2_chooseNearer_0
  obtain ⟨hσ, s1, s2, s3, q1, q2, q3, glt, gle⟩ := S
  have hG' := hG
  obtain ⟨⟨g1, g2⟩, ⟨o1, o2⟩, ⟨x1, x2⟩, n1, n2, n3⟩ := hG
  have kg : cK R g := cK_w (by omega) (by omega)
  have ko : cK R o := cK_w (by omega) (by omega)
  have kx : cK R x := cK_w (by omega) (by omega)
  refine ⟨_, H.n1, ?_⟩
  rw [lgc_ge, pk_lT (show Q < 2 ^ 63 by omega), show (1 : Int64).toInt = 1 from rfl]
  refine ⟨fun _ => ?_, fun w => absurd (by omega) w⟩
  refine ⟨_, H.n3, _, H.n1, ?_, ?_⟩
  · intro w
    have := congrArg Int64.toInt w
    rw [pk_lT (show Q < 2 ^ 63 by omega)] at this
    have e0 : (0 : Int64).toInt = 0 := rfl
    omega
  rintro y rfl
  rw [nI_l (show mo < 2 ^ 31 by omega), lN_sub q3, pk_lDiv (by omega) (by omega) (by omega)]
  obtain ⟨t, ht⟩ : ∃ t, (mo - oQ) / Q = t := ⟨_, rfl⟩
  have t1 : t * Q ≤ mo - oQ := by rw [← ht]; exact Nat.div_mul_le_self _ _
  have t2 : mo - oQ < t * Q + Q := by
    have := Nat.lt_mul_div_succ (mo - oQ) (show 0 < Q by omega)
    rw [ht, Nat.mul_add, Nat.mul_one, Nat.mul_comm] at this
    exact this
  have t3 : t < og / gg := by
    rcases Nat.lt_or_ge t (og / gg) with w | w
    · exact w
    · have := Nat.mul_le_mul_right Q w
      omega
  have t4 : t * gg + gg ≤ og := by
    have h1 : (t + 1) * gg ≤ og / gg * gg := Nat.mul_le_mul_right _ t3
    have h2 := Nat.div_mul_le_self og gg
    rw [Nat.add_mul, Nat.one_mul] at h1
    omega
  have t5 : t ≤ 1000 := by
    have : t * 1 ≤ t * Q := Nat.mul_le_mul_left _ q1
    omega
  rw [ht]
  refine ⟨_, H.n2, _, H.n0, ?_⟩
  rintro y rfl
  refine ⟨_, H.n3, _, H.n1, ?_⟩
  rintro y rfl
  rw [ofI_ma, lN_mul, lN_add]
  refine ⟨_, H.n6, _, H.n5, U1_become H.ns kx ko (by omega) (fun f1 m1 => ?_)⟩
  have H1 := H.op m1
  rw [ho] at H1
  obtain ⟨len, hlen, hlen8⟩ : ∃ len, lenIs 4294967296 gg len ∧ len ≤ 8 := by
    obtain ⟨len, -, h2, -⟩ := H.lenOf kg
    rw [hg] at h2
    exact ⟨len, h2, lenIs_le (by decide) h2 (by omega)⟩
  have Vg1 : va_up V x og g = gg := by rw [va_up_ne _ _ (by omega), hg]
  refine ⟨_, H1.n6, _, H1.n4, U1_takeAway H1.ns kx kg (by omega) (by rw [Vg1]; exact hlen) (by omega) (by omega) (by rw [Vg1, va_up_self]; omega) (fun f2 m2 => ?_)⟩
  have H2 := H1.op m2
  rw [Vg1, va_up_self] at H2
  obtain ⟨G2, hG2⟩ : ∃ G2, og - t * gg + (if og % 4294967296 ^ (len + 1) < t * gg then 4294967296 ^ (len + 1) else 0) = G2 := ⟨_, rfl⟩
  rw [hG2] at H2
  have hBlen : gg < 4294967296 ^ len := hlen.1
  have hB9 : 4294967296 ^ (len + 1) ≤ 4294967296 ^ 9 := Nat.pow_le_pow_right (by decide) (by omega)
  have hB917 : (4294967296 : Nat) ^ 9 + 4294967296 ^ 8 < 4294967296 ^ 17 := by decide +kernel
  have hB817 : (4294967296 : Nat) ^ 8 ≤ 4294967296 ^ 17 := Nat.pow_le_pow_right (by decide) (by decide)
  have hG2lt : G2 < 4294967296 ^ 17 := by
    rw [← hG2]
    split <;> omega
  have tg0 : 0 ≤ t * gg := Nat.zero_le _
  -- the decision, with and without the lost borrow
  have dec : (G2 * Q < gg * (oQ + t * Q) ∨ (G2 * Q = gg * (oQ + t * Q) ∧ (oQ + t * Q < Q ∨ (oQ + t * Q = Q ∧ oP + t * P < P)))) ↔ ((og - t * gg) * Q < gg * (oQ + t * Q) ∨ ((og - t * gg) * Q = gg * (oQ + t * Q) ∧ (oQ + t * Q < Q ∨ (oQ + t * Q = Q ∧ oP + t * P < P)))) := by
    by_cases lost : og % 4294967296 ^ (len + 1) < t * gg
    · have hge : 4294967296 ^ (len + 1) ≤ og := by
        rcases Nat.lt_or_ge og (4294967296 ^ (len + 1)) with w | w
        · rw [Nat.mod_eq_of_lt w] at lost; omega
        · exact w
      rw [Nat.pow_succ] at hge
      have h1 : t * gg ≤ 1000 * gg := Nat.mul_le_mul_right _ t5
      have h2 : gg * (oQ + t * Q) ≤ gg * 1000 := Nat.mul_le_mul_left _ (by omega)
      have h3 : (og - t * gg) * 1 ≤ (og - t * gg) * Q := Nat.mul_le_mul_left _ q1
      have h4 : (og - t * gg) * Q ≤ G2 * Q := Nat.mul_le_mul_right _ (by rw [← hG2]; omega)
      omega
    · rw [if_neg lost, Nat.add_zero] at hG2
      rw [hG2]
  have Q2ge : 1 ≤ oQ + t * Q := by
    rcases Nat.eq_zero_or_pos oQ with w | w
    · omega
    · omega
  have hQ2le : oQ + t * Q ≤ mo := by omega
  have gp2 : (((oQ + t * Q : Nat) : Int)) * z - (oP + t * P) * d = -(σ * ((og - t * gg : Nat) : Int)) := by
    have e : ((og - t * gg : Nat) : Int) = (og : Int) - t * gg := by
      rw [Int.ofNat_sub (by omega), Int.natCast_mul]
    rw [e, Int.natCast_add, Int.natCast_mul]
    have : ((oQ : Int) + t * Q) * z - (oP + t * P) * d = ((oQ : Int) * z - oP * d) + t * ((Q : Int) * z - P * d) := by grind
    rw [this, s1, s2]
    grind
  have det2 : (oP + t * P) * (Q : Int) - P * ((oQ + t * Q : Nat) : Int) = σ := by
    rw [Int.natCast_add, Int.natCast_mul]
    rw [← s3]
    grind
  have Pb : -4398046511104 < P ∧ P < 4398046511104 := by
    refine P_bd (d := (d : Int)) (by omega) s1 ?_ ?_ (by omega) (by omega) hz
    · rcases hσ with h | h <;> subst h <;> omega
    · rcases hσ with h | h <;> subst h <;> omega
  have Pb2 : -4398046511104 < oP + t * P ∧ oP + t * P < 4398046511104 := by
    refine P_bd (d := (d : Int)) (by omega) gp2 ?_ ?_ (by omega) (by omega) hz
    · rcases hσ with h | h <;> subst h <;> omega
    · rcases hσ with h | h <;> subst h <;> omega
  refine U2_isBetter H2 hG' (by omega) (by omega) (ofI_t Pb) (ofI_t Pb2) (by rw [va_up_self]; exact hG2lt) (by rw [va_up_ne _ _ (by omega), Vg1]; omega) (fun V3 f3 k1 k2 H3 => ?_)
  rw [va_up_self, va_up_ne _ _ (show g ≠ x by omega), Vg1]
  have gP : gp z d P Q = gg := by
    unfold gp
    rw [s1]
    rcases hσ with h | h <;> subst h <;> omega
  have gP2 : gp z d (oP + t * P) ((oQ + t * Q : Nat) : Int) = og - t * gg := by
    unfold gp
    rw [gp2]
    rcases hσ with h | h <;> subst h <;> omega
  have nt := fun p q h1 h2 => near_two (most := (mo : Int)) hσ s1 gp2 det2 (by omega) (by omega) (by omega) (by omega) p q h1 h2
  have kept : ∀ k, k < 23 ∨ 30 ≤ k → V3 k = V k := by
    intro k hk
    have : V3 k = va_up (va_up V x og) x G2 k := by
      rcases hk with hk | hk
      · exact k1 k (by omega)
      · exact k2 k hk
    rw [this, va_up_ne _ _ (by omega), va_up_ne _ _ (by omega)]
  refine ⟨fun w => ?_, fun w => ?_⟩
  · rw [ite_z, dec] at w
    refine c V3 P Q f3 ⟨by omega, by omega, fun p q h1 h2 => ?_⟩ kept H3
    have gb : goesB z d P Q (oP + t * P) ((oQ + t * Q : Nat) : Int) := by
      unfold goesB
      rw [gP, gP2, ← Int.natCast_mul, ← Int.natCast_mul]
      omega
    rcases nt p q h1 h2 with r | r
    · exact r
    · exact goesB_trans (by omega) (by omega) h1 gb r
  · have w' := ite_n w
    rw [dec] at w'
    obtain ⟨f4, w4, H4⟩ := H3.wn0 (Int64.ofInt (oP + t * P))
    obtain ⟨f5, w5, H5⟩ := H4.wn1 (lN (oQ + t * Q))
    refine ⟨f4, w4, f5, w5, c V3 (oP + t * P) (oQ + t * Q) f5 ⟨by omega, by omega, fun p q h1 h2 => ?_⟩ kept H5⟩
    have gb : goesB z d (oP + t * P) ((oQ + t * Q : Nat) : Int) P Q := by
      unfold goesB
      rw [gP, gP2, ← Int.natCast_mul, ← Int.natCast_mul]
      omega
    rcases nt p q h1 h2 with r | r
    · exact goesB_trans (by omega) (by omega) h1 gb r
    · exact r
end CL
