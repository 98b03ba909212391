/-! The reference's best: the nearest of all that have been looked at. -/
/-- (p, q) is one of S and goes before each of S -/
def bb (z d : Int) (S : Int → Int → Prop) (p q : Int) : Prop := S p q ∧ ∀ p' q', S p' q' → goesB z d p q p' q'
theorem bb.take {z d p q pc qc : Int} {S C : Int → Int → Prop} (h : bb z d S p q) (hq : 1 ≤ q) (hqc : 1 ≤ qc) (hS : ∀ p' q', S p' q' → 1 ≤ q') (hC : C pc qc) (hCd : ∀ p' q', C p' q' → goesB z d pc qc p' q') (hlt : (gp z d pc qc : Int) * q < gp z d p q * qc) : bb z d (fun p' q' => S p' q' ∨ C p' q') pc qc := by
  refine ⟨Or.inr hC, ?_⟩
  rintro p' q' (h1 | h1)
  · exact goesB_trans hqc hq (hS p' q' h1) (Or.inl hlt) (h.2 p' q' h1)
  · exact hCd p' q' h1
theorem bb.stay {z d p q pc qc : Int} {S C : Int → Int → Prop} (h : bb z d S p q) (hq : 1 ≤ q) (hqc : 1 ≤ qc) (hC1 : ∀ p' q', C p' q' → 1 ≤ q') (hCd : ∀ p' q', C p' q' → goesB z d pc qc p' q') (hle : ¬ (gp z d pc qc : Int) * q < gp z d p q * qc) (ho : q < qc ∨ (q = qc ∧ p ≤ pc)) : bb z d (fun p' q' => S p' q' ∨ C p' q') p q := by
  refine ⟨Or.inl h.1, ?_⟩
  have hc : goesB z d p q pc qc := by
    unfold goesB
    rcases Int.lt_or_le ((gp z d p q : Int) * qc) (gp z d pc qc * q) with w | w
    · exact Or.inl w
    · exact Or.inr ⟨by omega, ho⟩
  rintro p' q' (h1 | h1)
  · exact h.2 p' q' h1
  · exact goesB_trans hq hqc (hC1 p' q' h1) hc (hCd p' q' h1)
theorem bb.congr {z d p q : Int} {S T : Int → Int → Prop} (h : bb z d S p q) (hST : ∀ p' q', S p' q' ↔ T p' q') : bb z d T p q := ⟨(hST p q).mp h.1, fun p' q' w => h.2 p' q' ((hST p' q').mpr w)⟩
/-- the two next ones with one lower number -/
theorem gp_below {z d P q p' : Int} {S : Nat} (hd : 0 < d) (hq : 1 ≤ q) (hP : q * z - P * d = S) (hp : p' ≤ P) : goesB z d P q p' q ∧ (gp z d P q = S) := by
  have g1 : gp z d P q = S := by unfold gp; omega
  refine ⟨?_, g1⟩
  unfold goesB
  rw [g1]
  have e : q * z - p' * d = S + (P - p') * d := by rw [← hP]; grind
  have h0 : 0 ≤ (P - p') * d := Int.mul_nonneg (by omega) (by omega)
  have g2 : (gp z d p' q : Int) = S + (P - p') * d := by unfold gp; rw [e]; omega
  rw [g2]
  rcases Int.lt_or_le p' P with w | w
  · left
    have h1 : 0 < (P - p') * d := Int.mul_pos (by omega) hd
    exact Int.mul_lt_mul_of_pos_right (by omega) (by omega)
  · have : p' = P := by omega
    subst this
    right
    exact ⟨by rw [Int.sub_self, Int.zero_mul, Int.add_zero], Or.inr ⟨rfl, Int.le_refl _⟩⟩
theorem gp_above {z d P q p' : Int} {S : Nat} (hd : 0 < d) (hq : 1 ≤ q) (hP : q * z - P * d = S) (hS : (S : Int) ≤ d) (hp : P + 1 ≤ p') : goesB z d (P + 1) q p' q ∧ ((gp z d (P + 1) q : Int) = d - S) := by
  have e0 : q * z - (P + 1) * d = S - d := by rw [← hP]; grind
  have g1 : (gp z d (P + 1) q : Int) = d - S := by unfold gp; rw [e0]; omega
  refine ⟨?_, g1⟩
  unfold goesB
  rw [g1]
  have e : q * z - p' * d = S - d - (p' - (P + 1)) * d := by rw [← hP]; grind
  have h0 : 0 ≤ (p' - (P + 1)) * d := Int.mul_nonneg (by omega) (by omega)
  have g2 : (gp z d p' q : Int) = d - S + (p' - (P + 1)) * d := by unfold gp; rw [e]; omega
  rw [g2]
  rcases Int.lt_or_le (P + 1) p' with w | w
  · left
    have h1 : 0 < (p' - (P + 1)) * d := Int.mul_pos (by omega) hd
    exact Int.mul_lt_mul_of_pos_right (by omega) (by omega)
  · have : p' = P + 1 := by omega
    subst this
    right
    exact ⟨by rw [Int.sub_self, Int.zero_mul, Int.add_zero], Or.inr ⟨rfl, Int.le_refl _⟩⟩
section REFBEST
variable {E : cx} {h ab as R W : Nat} {f0 : hm} {sn : Nat → Int32} {sg go gs : Int32} {f : hm} {N : Nat → Nat} {a : regs} {cf : Int × Nat}
/-- what has been found: nothing, or the best of S -/
def bsF (z : Int) (D : Nat) (S : Int → Int → Prop) (x8 x10 : Int64) (G : Nat) : Prop := (x10 = 0 ∧ ∀ p q, ¬ S p q) ∨ ∃ p q : Int, x8.toInt = p ∧ x10.toInt = q ∧ 1 ≤ q ∧ q ≤ 1000 ∧ (G : Int) = gp z D p q ∧ G ≤ D ∧ bb z D S p q
theorem ofI {x : Int64} {p : Int} (h : x.toInt = p) : x = Int64.ofInt p := by rw [← h, Int64.ofInt_toInt]
theorem D5_best {x most part : Int32} (ok : aOK R W a cf) (Q : rQ E h ab as R W f0 a cf f) : S_X5_best E h x most part f (fun r g => aBest R a x most part r ∧ rQ E h ab as R W f0 a cf g) := by
  have hR := ok.1.2
  have hW := ok.2.1.2
  rcases Classical.em (¬ isR R x) with hx | hx
  · obtain ⟨N, sn, sg, go, gs, H, hT⟩ := Q
    refine T_X5_best (fun _ _ _ _ _ _ _ _ _ _ _ => False) (fun _ _ _ _ _ _ _ _ _ _ _ _ => False) ?_ (fun _ _ _ _ _ _ _ _ _ _ _ q => q.elim) (fun _ _ _ _ _ _ _ _ _ _ _ _ q => q.elim)
    unfold X_X5_best_0
    exact U5_isRegister x H ⟨fun c => ⟨⟨fun q => absurd q.1 hx, fun _ => rfl⟩, N, sn, sg, go, gs, H, hT⟩, fun c => absurd (ite_n c) hx⟩
  have hx := Classical.not_not.mp hx
  obtain ⟨r, hr, rfl⟩ := isR_of (by omega) hx
  obtain ⟨x1, x2, x3, x4⟩ := ok.2.2.1 r hr
  have eix : ix (nI r) = r := ix_nI (by omega)
  generalize hz : (a r).1 = z at *
  generalize hD : (a r).2 = D at *
  have l2 := p256' hW x2
  have q35 : 65536 * 65536 ^ 35 = 65536 ^ 36 := by rw [← Nat.pow_succ']
  have hdm := Int.mul_ediv_add_emod z (D : Int)
  have hm0 := Int.emod_nonneg z (b := (D : Int)) (by omega)
  have hm1 := Int.emod_lt_of_pos z (b := (D : Int)) (by omega)
  obtain ⟨rem, erem⟩ : ∃ n : Nat, z % (D : Int) = (n : Int) := ⟨(z % (D : Int)).toNat, by omega⟩
  rw [erem] at hdm hm1
  generalize hfl : z / (D : Int) = fl at *
  refine T_X5_best (fun t ad x1 x2 x3 x4 x6 x8 x10 x12 g => ∃ (qn : Nat) (M : Nat → Nat), t = (1001 - qn) * 10 + 5 ∧ bestOK R a (nI r) most part ∧ 1 ≤ qn ∧ (qn : Int) ≤ most.toInt + 1 ∧ ad = h ∧ x2 = most ∧ x3 = part ∧ x4.toInt = fl ∧ x6 = lN (rem * (qn - 1) / D) ∧ x12 = nI qn ∧ (∃ (sn : Nat → Int32) (sg go gs : Int32), rS E h ab as (nI R) (nI W) f0 M sn sg go gs g ∧ rT R a cf M sn go gs) ∧ M 16 = rem ∧ M 17 = D ∧ M 19 = rem * (qn - 1) % D ∧ bsF z D (fun p q => 1 ≤ q ∧ q < qn) x8 x10 (M 26))
    (fun t ad x1 x2 x3 x4 x6 x8 x10 x12 x13 g => ∃ (qn u : Nat) (M : Nat → Nat), t = (1001 - qn) * 10 + (2 - u) ∧ u ≤ 2 ∧ bestOK R a (nI r) most part ∧ 1 ≤ qn ∧ (qn : Int) ≤ most.toInt ∧ ad = h ∧ x2 = most ∧ x3 = part ∧ x4.toInt = fl ∧ x6 = lN (rem * qn / D) ∧ x12 = nI qn ∧ x13 = nI u ∧ (∃ (sn : Nat → Int32) (sg go gs : Int32), rS E h ab as (nI R) (nI W) f0 M sn sg go gs g ∧ rT R a cf M sn go gs) ∧ M 16 = rem ∧ M 17 = D ∧ M 19 = rem * qn % D ∧ bsF z D (fun p q => (1 ≤ q ∧ q < qn) ∨ (q = qn ∧ ((1 ≤ u ∧ p ≤ fl * qn + (rem * qn / D : Nat)) ∨ u = 2))) x8 x10 (M 26)) ?_ ?_ ?_
  · obtain ⟨N, sn, sg, go, gs, H, hT⟩ := Q
    unfold X_X5_best_0
    have bad : ∀ g : hm, rQ E h ab as R W f0 a cf g → ¬ bestOK R a (nI r) most part → aBest R a (nI r) most part (-9223372036854775808) ∧ rQ E h ab as R W f0 a cf g := fun g q w => ⟨⟨fun z => absurd z w, fun _ => rfl⟩, q⟩
    have Q0 : rQ E h ab as R W f0 a cf f := ⟨N, sn, sg, go, gs, H, hT⟩
    refine U5_isRegister (nI r) H ⟨fun c => absurd hx (ite_z.mp c), fun _ => ⟨fun c => bad f Q0 (fun q => absurd q.2.1 (Int32.not_le.mpr c)), fun c1 => ⟨fun c => bad f Q0 (fun q => absurd q.2.2.1 (Int32.not_le.mpr c)), fun c2 => ⟨fun c => bad f Q0 (fun q => ?_), fun c3 => ⟨fun c => bad f Q0 (fun q => ?_), fun c4 => ?_⟩⟩⟩⟩⟩
    · rcases q.2.2.2.1 with w | w <;> (rw [w] at c; exact absurd c (by decide))
    · rcases q.2.2.2.1 with w | w <;> (rw [w] at c; exact absurd c (by decide))
    · refine ⟨H.o, MI.mono (D5_fits ok Q0) (fun rr g q => ?_)⟩
      obtain ⟨rfl, N, sn, sg, go, gs, H, hT⟩ := q
      obtain ⟨sx, nx, dx⟩ := hT.1 r hr
      rw [hz] at sx nx
      rw [hD] at dx
      refine ⟨fun c5 => ?_, fun c5 => bad g ⟨N, sn, sg, go, gs, H, hT⟩ (fun q => ?_)⟩
      · rw [aFits] at c5
        have c5 := ite_n c5
        rw [eix, hz, hD, hfl] at c5
        have hp : part = 0 ∨ part = 1 := by
          obtain ⟨j, hj, rfl⟩ := nI_of c3
          have : ¬ 1 < j := fun q => c4 (nI_lt q hj)
          rcases Nat.eq_zero_or_pos j with w | w
          · left; rw [w]; rfl
          · right; rw [show j = 1 by omega]; rfl
        have bok : bestOK R a (nI r) most part := ⟨hx, Int32.not_lt.mp c1, Int32.not_lt.mp c2, hp, by rw [eix, hz, hD, hfl]; exact c5.2⟩
        refine ⟨as, H.r3, _, H.rs (by omega), ?_⟩
        rw [sx, ix8]
        refine U5_down r (8 + r) H (by omega) (by omega) (by omega) (by omega) (by omega) (by omega) (by omega) nx dx x1 (p256' hW x3) l2 (fun g M H m20 m21 hk => ?_)
        rw [hfl] at m20
        rw [hfl]
        refine U5_quotient H m20 (fun r20 hr20 => ?_)
        have e20 := (qt_in hr20).2 c5.2
        have m8 : M (8 + r) = D := by rw [hk _ (by omega) (by omega) (by omega), dx]
        rw [erem, Int.toNat_natCast] at m21
        refine U5_copy 21 16 H (by decide) (by decide) (fun g H => ?_)
        refine U5_copy (8 + r) 17 H (by omega) (by decide) (fun g H => ?_)
        rw [va_up_ne _ _ (show 8 + r ≠ 16 by omega), m21, m8] at H
        refine U5_put 19 0 H (by decide) (by decide) (fun g H => ?_)
        have hk2 := hT.keep hR (keepN.down hk)
        have m26 : ∃ M' : Nat → Nat, (∃ (sn : Nat → Int32) (sg go gs : Int32), rS E h ab as (nI R) (nI W) f0 M' sn sg go gs g ∧ rT R a cf M' sn go gs) ∧ M' 16 = rem ∧ M' 17 = D ∧ M' 19 = 0 := ⟨_, ⟨sn, sg, go, gs, H, hk2.keep hR (keepN.up (keepN.up (keepN.up keepN.rf (by decide)) (by decide)) (by decide))⟩, by rw [va_up_ne _ _ (by decide), va_up_ne _ _ (by decide), va_up_self], by rw [va_up_ne _ _ (by decide), va_up_self], by rw [va_up_self]⟩
        obtain ⟨M', H', m16, m17, m19⟩ := m26
        have hmost : (1 : Int) ≤ most.toInt := Int32.le_iff_toInt_le.mp bok.2.1
        exact ⟨_, 1, M', rfl, bok, by omega, by omega, rfl, rfl, rfl, e20, by simp; rfl, rfl, H', m16, m17, by rw [m19]; simp, Or.inl ⟨rfl, fun p q w => by omega⟩⟩
      · rw [aFits, eix] at c5
        exact absurd ⟨q.1, by have := q.2.2.2.2; rwa [eix] at this⟩ (ite_z.mp c5)
  · rintro t ad y1 y2 y3 y4 y6 y8 y10 y12 g ⟨qn, M, rfl, bok, q1, q2, rfl, rfl, rfl, e4, rfl, rfl, ⟨sn, sg, go, gs, H, hT⟩, m16, m17, m19, hF⟩
    unfold X_X5_best_99
    have hmost : (1 : Int) ≤ y2.toInt := Int32.le_iff_toInt_le.mp bok.2.1
    have hmost2 : y2.toInt ≤ 1000 := Int32.le_iff_toInt_le.mp bok.2.2.1
    have eqn : (nI qn).toInt = (qn : Int) := nI_toInt (by omega)
    refine ⟨fun c => ?_, fun c => ?_⟩
    · have c : y2.toInt < (qn : Int) := by rw [← eqn]; exact Int32.lt_iff_toInt_lt.mp c
      rcases hF with ⟨_, hF⟩ | ⟨p, q, e8, e10, k1, k2, kG, kD, kb⟩
      · exact absurd ⟨by omega, by omega⟩ (hF 0 1)
      · have ib : isBest z D y2.toInt p q := ⟨k1, by have := kb.1; omega, fun p' q' w1 w2 => kb.2 p' q' ⟨w1, by omega⟩⟩
        have fin : ∀ v : Int64, v = Int64.ofInt (if y3 = 0 then p else q) → aBest R a (nI r) y2 y3 v ∧ rQ E ad ab as R W f0 a cf g := fun v hv => ⟨⟨fun _ => ⟨p, q, by rw [eix, hz, hD]; exact ib, hv⟩, fun w => absurd bok w⟩, M, sn, sg, go, gs, H, hT⟩
        refine ⟨fun c2 => fin y10 ?_, fun c2 => fin y8 ?_⟩
        · rw [if_neg c2]; exact ofI e10
        · rw [if_pos c2]; exact ofI e8
    · have c : ¬ y2.toInt < (qn : Int) := fun w => c (Int32.lt_iff_toInt_lt.mpr (by rw [eqn]; exact w))
      have eX : rem * qn = rem * (qn - 1) + rem := by
        rw [Nat.mul_sub, Nat.mul_one, Nat.sub_add_cancel]
        exact Nat.le_mul_of_pos_right _ (by omega)
      have hmod := Nat.mod_lt (rem * (qn - 1)) x1
      have hdiv := Nat.div_add_mod (rem * (qn - 1)) D
      have hremD : rem < D := by omega
      have S0 : ∀ (s8 s10 : Int64) (G : Nat), bsF z D (fun p q => 1 ≤ q ∧ q < (qn : Int)) s8 s10 G → bsF z D (fun p q => (1 ≤ q ∧ q < (qn : Int)) ∨ (q = qn ∧ ((1 ≤ 0 ∧ p ≤ fl * qn + (rem * qn / D : Nat)) ∨ 0 = 2))) s8 s10 G := by
        intro s8 s10 G w
        rcases w with ⟨w1, w2⟩ | ⟨p, q, w1, w2, w3, w4, w5, w6, w7⟩
        · exact Or.inl ⟨w1, fun p q k => w2 p q (by omega)⟩
        · exact Or.inr ⟨p, q, w1, w2, w3, w4, w5, w6, w7.congr (fun p' q' => by omega)⟩
      refine U5_plus 19 16 H (by decide) (by decide) (by decide) (by rw [m19, m16]; omega) (fun g H => ?_)
      rw [m19, m16] at H
      have hT1 : rT R a cf (va_up M 19 (rem * (qn - 1) % D + rem)) sn go gs := hT.keep hR (keepN.up keepN.rf (by decide))
      refine U5_compare 19 17 H (by decide) (by decide) ?_
      rw [va_up_self, va_up_ne _ _ (by decide), m17]
      refine ⟨fun c2 => ?_, fun c2 => ?_⟩
      · have c2 := ord3_lt.mp c2
        have e1 : rem * qn % D = rem * (qn - 1) % D + rem ∧ rem * qn / D = rem * (qn - 1) / D := by
          have : rem * qn = (rem * (qn - 1) % D + rem) + D * (rem * (qn - 1) / D) := by omega
          rw [this, Nat.add_mul_mod_self_left, Nat.add_mul_div_left _ _ x1, Nat.mod_eq_of_lt c2, Nat.div_eq_of_lt c2]
          exact ⟨rfl, by omega⟩
        refine ⟨(1001 - qn) * 10 + (2 - 0), by omega, qn, 0, _, rfl, by omega, bok, q1, by omega, rfl, rfl, rfl, e4, by rw [e1.2], rfl, rfl, ⟨sn, sg, go, gs, H, hT1⟩, ?_, ?_, ?_, ?_⟩
        · rw [va_up_ne _ _ (by decide), m16]
        · rw [va_up_ne _ _ (by decide), m17]
        · rw [va_up_self, e1.1]
        · rw [va_up_ne _ _ (by decide)]; exact S0 _ _ _ hF
      · have c2 : ¬ rem * (qn - 1) % D + rem < D := fun w => c2 (ord3_lt.mpr w)
        have e1 : rem * qn % D = rem * (qn - 1) % D + rem - D ∧ rem * qn / D = rem * (qn - 1) / D + 1 := by
          have : rem * qn = (rem * (qn - 1) % D + rem - D) + D * (rem * (qn - 1) / D + 1) := by rw [Nat.mul_add D]; omega
          rw [this, Nat.add_mul_mod_self_left, Nat.add_mul_div_left _ _ x1, Nat.mod_eq_of_lt (show rem * (qn - 1) % D + rem - D < D by omega), Nat.div_eq_of_lt (show rem * (qn - 1) % D + rem - D < D by omega)]
          exact ⟨rfl, by omega⟩
        refine U5_lessen 19 17 H (by decide) (by decide) (by decide) (by rw [va_up_self, va_up_ne _ _ (by decide), m17]; omega) (fun g H => ?_)
        rw [va_up_self, va_up_ne _ _ (by decide), m17] at H
        rintro x rfl
        refine ⟨(1001 - qn) * 10 + (2 - 0), by omega, qn, 0, _, rfl, by omega, bok, q1, by omega, rfl, rfl, rfl, e4, by rw [e1.2, lN_1], rfl, rfl, ⟨sn, sg, go, gs, H, hT1.keep hR (keepN.up keepN.rf (by decide))⟩, ?_, ?_, ?_, ?_⟩
        · rw [va_up_ne _ _ (by decide), va_up_ne _ _ (by decide), m16]
        · rw [va_up_ne _ _ (by decide), va_up_ne _ _ (by decide), m17]
        · rw [va_up_self, e1.1]
        · rw [va_up_ne _ _ (by decide), va_up_ne _ _ (by decide)]; exact S0 _ _ _ hF
  · rintro t ad y1 y2 y3 y4 y6 y8 y10 y12 y13 g ⟨qn, u, M, rfl, hu, bok, q1, q2, rfl, rfl, rfl, e4, rfl, rfl, rfl, ⟨sn, sg, go, gs, H, hT⟩, m16, m17, m19, hF⟩
    unfold X_X5_best_141
    have hmost2 : y2.toInt ≤ 1000 := Int32.le_iff_toInt_le.mp bok.2.2.1
    have hinI : inI fl := by have := bok.2.2.2.2; rwa [eix, hz, hD, hfl] at this
    have hqD := Nat.div_add_mod (rem * qn) D
    have hmod := Nat.mod_lt (rem * qn) x1
    have hremD : rem < D := by omega
    have hsle : rem * qn / D ≤ qn := by
      have : rem * qn / D ≤ D * qn / D := Nat.div_le_div_right (Nat.mul_le_mul_right qn (Nat.le_of_lt hremD))
      rwa [Nat.mul_div_cancel_left _ x1] at this
    have hP : (qn : Int) * z - (fl * qn + ((rem * qn / D : Nat) : Int)) * D = ((rem * qn % D : Nat) : Int) := by
      have e1 : (D : Int) * ((rem * qn / D : Nat) : Int) + ((rem * qn % D : Nat) : Int) = (rem : Int) * (qn : Int) := by
        rw [← Int.natCast_mul, ← Int.natCast_add, hqD, Int.natCast_mul]
      rw [← hdm]
      grind
    generalize hs : rem * qn / D = s at *
    generalize hS : rem * qn % D = S at *
    have toN : ∀ (v : Nat), v ≤ 1 → (y4 * (nI qn).toInt64 + lN s + (nI v).toInt64).toInt = fl * qn + s + v := by
      intro v hv
      have b1 : fl * (qn : Int) ≤ 2147483647 * (qn : Int) := Int.mul_le_mul_of_nonneg_right hinI.2 (by omega)
      have b2 : -2147483648 * (qn : Int) ≤ fl * (qn : Int) := Int.mul_le_mul_of_nonneg_right hinI.1 (by omega)
      rw [nI_l (by omega), nI_l (by omega), Int64.toInt_add, Int64.toInt_add, Int64.toInt_mul, e4, pf_lI (by omega), pf_lI (by omega), pf_lI (by omega), Int.bmod_eq_of_le (n := fl * (qn : Int)) (by omega) (by omega), Int.bmod_eq_of_le (n := fl * (qn : Int) + (s : Int)) (by omega) (by omega), Int.bmod_eq_of_le (by omega) (by omega)]
    have hq1000 : qn ≤ 1000 := by omega
    have hSD : S < 65536 ^ 35 := by omega
    have hDS : D - S < 65536 ^ 35 := by omega
    have eq64 : (nI qn).toInt64.toInt = (qn : Int) := by rw [l64, nI_toInt (by omega)]
    refine ⟨fun c => ?_, fun c => ?_⟩
    · have hu2 : u = 2 := by
        rcases Nat.lt_or_ge u 2 with w | w
        · exact absurd c (nI_ge w (by decide))
        · omega
      subst hu2
      rintro x rfl
      refine ⟨(1001 - (qn + 1)) * 10 + 5, by omega, qn + 1, M, rfl, bok, by omega, by omega, rfl, rfl, rfl, e4, by rw [Nat.add_sub_cancel, hs], nI_1 qn, ⟨sn, sg, go, gs, H, hT⟩, m16, m17, by rw [Nat.add_sub_cancel, hS, m19], ?_⟩
      rcases hF with ⟨w1, w2⟩ | ⟨p, q, w1, w2, w3, w4, w5, w6, w7⟩
      · exact Or.inl ⟨w1, fun p q k => w2 p q (by omega)⟩
      · exact Or.inr ⟨p, q, w1, w2, w3, w4, w5, w6, w7.congr (fun p' q' => by omega)⟩
    · have hu2 : u < 2 := by
        rcases Nat.lt_or_ge u 2 with w | w
        · exact w
        · exact absurd (nI_le (a := 2) w (by omega)) c
      refine U5_copy 19 18 H (by decide) (by decide) (fun g H => ?_)
      rw [m19] at H
      have hT1 : rT R a cf (va_up M 18 S) sn go gs := hT.keep hR (keepN.up keepN.rf (by decide))
      -- one more is looked at: (P, qn), with its gap G, before all of C
      have look : ∀ (M : Nat → Nat) (G : Nat) (P : Int) (C : Int → Int → Prop), M 26 = M 26 → (G : Int) = gp z D P qn → G ≤ D → C P qn → (∀ p' q', C p' q' → q' = qn ∧ goesB z D P qn p' q') → P = fl * qn + s + u → (∀ p q : Int, ((1 ≤ q ∧ q < (qn : Int)) ∨ (q = qn ∧ ((1 ≤ u ∧ p ≤ fl * qn + (s : Int)) ∨ u = 2))) ∨ C p q ↔ ((1 ≤ q ∧ q < (qn : Int)) ∨ (q = qn ∧ ((1 ≤ u + 1 ∧ p ≤ fl * qn + (s : Int)) ∨ u + 1 = 2)))) → bsF z D (fun p q => (1 ≤ q ∧ q < (qn : Int)) ∨ (q = qn ∧ ((1 ≤ u ∧ p ≤ fl * qn + (s : Int)) ∨ u = 2))) y8 y10 (M 26) →
          ((y10.toInt = 0 ∨ ∃ qb : Nat, qb ≤ 1000 ∧ y10.toInt32 = nI qb ∧ M 26 ≤ D ∧ qb * G < qn * M 26) → bsF z D (fun p q => (1 ≤ q ∧ q < (qn : Int)) ∨ (q = qn ∧ ((1 ≤ u + 1 ∧ p ≤ fl * qn + (s : Int)) ∨ u + 1 = 2))) (y4 * (nI qn).toInt64 + lN s + (nI u).toInt64) (nI qn).toInt64 G) ∧ (¬ y10.toInt = 0 → ∃ qb : Nat, qb ≤ 1000 ∧ y10.toInt32 = nI qb ∧ M 26 ≤ D ∧ (¬ qb * G < qn * M 26 → bsF z D (fun p q => (1 ≤ q ∧ q < (qn : Int)) ∨ (q = qn ∧ ((1 ≤ u + 1 ∧ p ≤ fl * qn + (s : Int)) ∨ u + 1 = 2))) y8 y10 (M 26))) := by
        intro M G P C _ hG hGD hC hCd hPe hset hF
        rcases hF with ⟨w1, w2⟩ | ⟨p, q, w1, w2, w3, w4, w5, w6, w7⟩
        · refine ⟨fun _ => ?_, fun w => absurd (by rw [w1]; rfl) w⟩
          refine Or.inr ⟨P, qn, by rw [toN u (by omega), hPe], eq64, by omega, by omega, hG, hGD, bb.congr (S := fun p q => (False ∨ C p q)) ⟨Or.inr hC, fun p' q' k => ?_⟩ (fun p' q' => ?_)⟩
          · rcases k with k | k
            · exact k.elim
            · have := hCd p' q' k; exact this.1 ▸ this.2
          · rw [← hset]
            exact ⟨fun k => k.elim False.elim Or.inr, fun k => k.elim (fun z => absurd z (w2 p' q')) Or.inr⟩
        · obtain ⟨qb, hqb⟩ : ∃ n : Nat, q = (n : Int) := ⟨q.toNat, by omega⟩
          have e32 : y10.toInt32 = nI qb := by
            rw [to32 w2, hqb]
            apply Int32.toInt_inj.mp
            rw [nI_toInt (by omega), Int32.toInt_ofInt_of_le (by omega) (by omega)]
          have iffc : (gp z D P qn : Int) * q < gp z D p q * qn ↔ qb * G < qn * M 26 := by
            rw [← hG, ← w5, hqb, ← Int.natCast_mul, ← Int.natCast_mul, Int.ofNat_lt, Nat.mul_comm G, Nat.mul_comm (M 26)]
          refine ⟨fun hlt => ?_, fun w => ⟨qb, by omega, e32, w6, fun hlt => ?_⟩⟩
          · have hlt : qb * G < qn * M 26 := by
              rcases hlt with k | ⟨qb', _, k2, _, k4⟩
              · omega
              · have : qb' = qb := by
                  have := k2.symm.trans e32
                  rwa [nI_eq (by omega) (by omega)] at this
                rwa [this] at k4
            exact Or.inr ⟨P, qn, by rw [toN u (by omega), hPe], eq64, by omega, by omega, hG, hGD, (w7.take w3 (by omega) (fun p' q' k => by omega) hC (fun p' q' k => by have := hCd p' q' k; exact this.1 ▸ this.2) (iffc.mpr hlt)).congr hset⟩
          · refine Or.inr ⟨p, q, w1, w2, w3, w4, w5, w6, (w7.stay w3 (show (1 : Int) ≤ qn by omega) (fun p' q' k => by have := (hCd p' q' k).1; omega) (fun p' q' k => by have := hCd p' q' k; exact this.1 ▸ this.2) (fun k => hlt (iffc.mp k)) ?_).congr hset⟩
            have := w7.1
            rcases this with k | ⟨k1, k2⟩
            · exact Or.inl k.2
            · refine Or.inr ⟨k1, ?_⟩
              rw [hPe]
              omega
      refine ⟨fun c1 => ?_, fun c1 => ?_⟩
      · have u0 : u = 0 := by
          rcases Nat.eq_zero_or_pos u with w | w
          · exact w
          · exact absurd (by rw [show u = 1 by omega]; rfl) c1
        subst u0
        obtain ⟨Pc, hPc⟩ : ∃ P : Int, P = fl * qn + (s : Int) := ⟨_, rfl⟩
        obtain ⟨Cc, hCc⟩ : ∃ C : Int → Int → Prop, C = fun p q => q = (qn : Int) ∧ p ≤ Pc := ⟨_, rfl⟩
        have hP' : (qn : Int) * z - Pc * D = (S : Int) := by rw [hPc]; exact hP
        have hG : (S : Int) = gp z D Pc qn := by rw [(gp_below (by omega) (by omega) hP' (Int.le_refl Pc)).2]
        have hC : Cc Pc qn := by rw [hCc]; exact ⟨rfl, Int.le_refl _⟩
        have hCd : ∀ p' q', Cc p' q' → q' = qn ∧ goesB z D Pc qn p' q' := by
          rw [hCc]
          rintro p' q' ⟨rfl, k⟩
          exact ⟨rfl, (gp_below (by omega) (by omega) hP' k).1⟩
        have hPe : Pc = fl * qn + s + (0 : Nat) := by omega
        have hset : ∀ p q : Int, ((1 ≤ q ∧ q < (qn : Int)) ∨ (q = qn ∧ ((1 ≤ 0 ∧ p ≤ fl * qn + (s : Int)) ∨ 0 = 2))) ∨ Cc p q ↔ ((1 ≤ q ∧ q < (qn : Int)) ∨ (q = qn ∧ ((1 ≤ 0 + 1 ∧ p ≤ fl * qn + (s : Int)) ∨ 0 + 1 = 2))) := by
          intro p q
          rw [hCc]
          dsimp only
          omega
        have hTx := hT1
        have x16 : (va_up M 18 S) 16 = rem := by rw [va_up_ne _ _ (by decide), m16]
        have x17 : (va_up M 18 S) 17 = D := by rw [va_up_ne _ _ (by decide), m17]
        have x19 : (va_up M 18 S) 19 = S := by rw [va_up_ne _ _ (by decide), m19]
        have x18 : (va_up M 18 S) 18 = S := by rw [va_up_self]
        have x26 : (va_up M 18 S) 26 = M 26 := by rw [va_up_ne _ _ (by decide)]
        generalize va_up M 18 S = Mx at *
        rw [← x26] at hF
        obtain ⟨k1, k2⟩ := look Mx (S) Pc Cc rfl hG (by omega) hC hCd hPe hset hF
        refine ⟨fun c2 => ?_, fun c2 => ?_⟩
        · have c2 : y10.toInt = 0 := lgc_eq.mp c2
          refine U5_copy 18 26 H (by decide) (by decide) (fun g H => ?_)
          rw [x18] at H
          rintro x rfl y rfl
          refine ⟨(1001 - qn) * 10 + (2 - (0 + 1)), by omega, qn, 0 + 1, _, rfl, by omega, bok, q1, q2, rfl, rfl, rfl, e4, by rw [hs], rfl, rfl, ⟨sn, sg, go, gs, H, hTx.keep hR (keepN.up keepN.rf (by decide))⟩, ?_, ?_, ?_, ?_⟩
          · rw [va_up_ne _ _ (by decide), x16]
          · rw [va_up_ne _ _ (by decide), x17]
          · rw [va_up_ne _ _ (by decide), x19, hS]
          · rw [va_up_self, hs]; exact k1 (Or.inl c2)
        · have c2 : ¬ y10.toInt = 0 := fun w => c2 (lgc_eq.mpr w)
          obtain ⟨qb, hb1, hb2, hb3, hb4⟩ := k2 c2
          rw [hb2]
          refine U5_farther qn qb H hq1000 hb1 (by rw [x18]; first | exact hSD | exact hDS) (Nat.lt_of_le_of_lt hb3 l2) (fun g M' H hk => ?_)
          rw [x18]
          have hTy : rT R a cf M' sn go gs := hTx.keep hR (fun m hm => hk m (by omega) (by omega))
          refine ⟨fun c3 => ?_, fun c3 => ?_⟩
          · have c3 : ¬ qb * (S) < qn * Mx 26 := fun w => absurd (ord3_lt.mpr w) (Int32.not_lt.mpr c3)
            rintro x rfl
            refine ⟨(1001 - qn) * 10 + (2 - (0 + 1)), by omega, qn, 0 + 1, M', rfl, by omega, bok, q1, q2, rfl, rfl, rfl, e4, by rw [hs], rfl, rfl, ⟨sn, sg, go, gs, H, hTy⟩, ?_, ?_, ?_, ?_⟩
            · rw [hk _ (by decide) (by decide), x16]
            · rw [hk _ (by decide) (by decide), x17]
            · rw [hk _ (by decide) (by decide), x19, hS]
            · rw [hk _ (by decide) (by decide), hs]; exact hb4 c3
          · have c3 : qb * (S) < qn * Mx 26 := ord3_lt.mp (Int32.not_le.mp c3)
            refine U5_copy 18 26 H (by decide) (by decide) (fun g H => ?_)
            rw [hk 18 (by decide) (by decide), x18] at H
            rintro x rfl y rfl
            refine ⟨(1001 - qn) * 10 + (2 - (0 + 1)), by omega, qn, 0 + 1, _, rfl, by omega, bok, q1, q2, rfl, rfl, rfl, e4, by rw [hs], rfl, rfl, ⟨sn, sg, go, gs, H, hTy.keep hR (keepN.up keepN.rf (by decide))⟩, ?_, ?_, ?_, ?_⟩
            · rw [va_up_ne _ _ (by decide), hk _ (by decide) (by decide), x16]
            · rw [va_up_ne _ _ (by decide), hk _ (by decide) (by decide), x17]
            · rw [va_up_ne _ _ (by decide), hk _ (by decide) (by decide), x19, hS]
            · rw [va_up_self, hs]; exact k1 (Or.inr ⟨qb, hb1, hb2, hb3, c3⟩)
      · have u1 : u = 1 := by
          have := c1
          rw [show (1 : Int32) = nI 1 from rfl, nI_eq (by omega) (by decide)] at this
          exact this
        subst u1
        obtain ⟨Pc, hPc⟩ : ∃ P : Int, P = fl * qn + (s : Int) + 1 := ⟨_, rfl⟩
        obtain ⟨Cc, hCc⟩ : ∃ C : Int → Int → Prop, C = fun p q => q = (qn : Int) ∧ Pc ≤ p := ⟨_, rfl⟩
        have hG : ((D - S : Nat) : Int) = gp z D Pc qn := by
          rw [hPc, (gp_above (by omega) (by omega) hP (by omega) (Int.le_refl _)).2]
          omega
        have hC : Cc Pc qn := by rw [hCc]; exact ⟨rfl, Int.le_refl _⟩
        have hCd : ∀ p' q', Cc p' q' → q' = qn ∧ goesB z D Pc qn p' q' := by
          rw [hCc]
          rintro p' q' ⟨rfl, k⟩
          rw [hPc] at k ⊢
          exact ⟨rfl, (gp_above (by omega) (by omega) hP (by omega) k).1⟩
        have hPe : Pc = fl * qn + s + (1 : Nat) := by omega
        have hset : ∀ p q : Int, ((1 ≤ q ∧ q < (qn : Int)) ∨ (q = qn ∧ ((1 ≤ 1 ∧ p ≤ fl * qn + (s : Int)) ∨ 1 = 2))) ∨ Cc p q ↔ ((1 ≤ q ∧ q < (qn : Int)) ∨ (q = qn ∧ ((1 ≤ 1 + 1 ∧ p ≤ fl * qn + (s : Int)) ∨ 1 + 1 = 2))) := by
          intro p q
          rw [hCc]
          dsimp only
          omega
        refine U5_copy 17 18 H (by decide) (by decide) (fun g H => ?_)
        rw [va_up_ne _ _ (by decide), m17] at H
        refine U5_lessen 18 19 H (by decide) (by decide) (by decide) (by rw [va_up_self, va_up_ne _ _ (by decide), va_up_ne _ _ (by decide), m19]; omega) (fun g H => ?_)
        rw [va_up_self, va_up_ne _ _ (by decide), va_up_ne _ _ (by decide), m19] at H
        have hTx := hT1.keep hR (keepN.up (v := D - S) (keepN.up (n := 18) (v := D) keepN.rf (by decide)) (show ¬ (18 < 16 ∨ 18 = 22 ∨ 18 = 23) by decide))
        have x16 : (va_up (va_up (va_up M 18 S) 18 D) 18 (D - S)) 16 = rem := by rw [va_up_ne _ _ (by decide), va_up_ne _ _ (by decide), va_up_ne _ _ (by decide), m16]
        have x17 : (va_up (va_up (va_up M 18 S) 18 D) 18 (D - S)) 17 = D := by rw [va_up_ne _ _ (by decide), va_up_ne _ _ (by decide), va_up_ne _ _ (by decide), m17]
        have x19 : (va_up (va_up (va_up M 18 S) 18 D) 18 (D - S)) 19 = S := by rw [va_up_ne _ _ (by decide), va_up_ne _ _ (by decide), va_up_ne _ _ (by decide), m19]
        have x18 : (va_up (va_up (va_up M 18 S) 18 D) 18 (D - S)) 18 = D - S := by rw [va_up_self]
        have x26 : (va_up (va_up (va_up M 18 S) 18 D) 18 (D - S)) 26 = M 26 := by rw [va_up_ne _ _ (by decide), va_up_ne _ _ (by decide), va_up_ne _ _ (by decide)]
        generalize va_up (va_up (va_up M 18 S) 18 D) 18 (D - S) = Mx at *
        rw [← x26] at hF
        obtain ⟨k1, k2⟩ := look Mx (D - S) Pc Cc rfl hG (by omega) hC hCd hPe hset hF
        refine ⟨fun c2 => ?_, fun c2 => ?_⟩
        · have c2 : y10.toInt = 0 := lgc_eq.mp c2
          refine U5_copy 18 26 H (by decide) (by decide) (fun g H => ?_)
          rw [x18] at H
          rintro x rfl y rfl
          refine ⟨(1001 - qn) * 10 + (2 - (1 + 1)), by omega, qn, 1 + 1, _, rfl, by omega, bok, q1, q2, rfl, rfl, rfl, e4, by rw [hs], rfl, rfl, ⟨sn, sg, go, gs, H, hTx.keep hR (keepN.up keepN.rf (by decide))⟩, ?_, ?_, ?_, ?_⟩
          · rw [va_up_ne _ _ (by decide), x16]
          · rw [va_up_ne _ _ (by decide), x17]
          · rw [va_up_ne _ _ (by decide), x19, hS]
          · rw [va_up_self, hs]; exact k1 (Or.inl c2)
        · have c2 : ¬ y10.toInt = 0 := fun w => c2 (lgc_eq.mpr w)
          obtain ⟨qb, hb1, hb2, hb3, hb4⟩ := k2 c2
          rw [hb2]
          refine U5_farther qn qb H hq1000 hb1 (by rw [x18]; first | exact hSD | exact hDS) (Nat.lt_of_le_of_lt hb3 l2) (fun g M' H hk => ?_)
          rw [x18]
          have hTy : rT R a cf M' sn go gs := hTx.keep hR (fun m hm => hk m (by omega) (by omega))
          refine ⟨fun c3 => ?_, fun c3 => ?_⟩
          · have c3 : ¬ qb * (D - S) < qn * Mx 26 := fun w => absurd (ord3_lt.mpr w) (Int32.not_lt.mpr c3)
            rintro x rfl
            refine ⟨(1001 - qn) * 10 + (2 - (1 + 1)), by omega, qn, 1 + 1, M', rfl, by omega, bok, q1, q2, rfl, rfl, rfl, e4, by rw [hs], rfl, rfl, ⟨sn, sg, go, gs, H, hTy⟩, ?_, ?_, ?_, ?_⟩
            · rw [hk _ (by decide) (by decide), x16]
            · rw [hk _ (by decide) (by decide), x17]
            · rw [hk _ (by decide) (by decide), x19, hS]
            · rw [hk _ (by decide) (by decide), hs]; exact hb4 c3
          · have c3 : qb * (D - S) < qn * Mx 26 := ord3_lt.mp (Int32.not_le.mp c3)
            refine U5_copy 18 26 H (by decide) (by decide) (fun g H => ?_)
            rw [hk 18 (by decide) (by decide), x18] at H
            rintro x rfl y rfl
            refine ⟨(1001 - qn) * 10 + (2 - (1 + 1)), by omega, qn, 1 + 1, _, rfl, by omega, bok, q1, q2, rfl, rfl, rfl, e4, by rw [hs], rfl, rfl, ⟨sn, sg, go, gs, H, hTy.keep hR (keepN.up keepN.rf (by decide))⟩, ?_, ?_, ?_, ?_⟩
            · rw [va_up_ne _ _ (by decide), hk _ (by decide) (by decide), x16]
            · rw [va_up_ne _ _ (by decide), hk _ (by decide) (by decide), x17]
            · rw [va_up_ne _ _ (by decide), hk _ (by decide) (by decide), x19, hS]
            · rw [va_up_self, hs]; exact k1 (Or.inr ⟨qb, hb1, hb2, hb3, c3⟩)
end REFBEST
