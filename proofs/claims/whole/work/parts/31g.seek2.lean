/-! The class: the search itself. -/
theorem sI_next {z P oP σ : Int} {d mo Q oQ gg og t : Nat} (S : sI z d mo P oP σ Q oQ gg og) (hg0 : gg ≠ 0) (ht : og / gg = t) (hm : oQ + t * Q ≤ mo) : sI z d mo (oP + t * P) P (-σ) (oQ + t * Q) Q (og % gg) gg ∧ 1 ≤ t ∧ oQ + Q ≤ oQ + t * Q := by
  obtain ⟨hσ, s1, s2, s3, q1, q2, q3, glt, gle⟩ := S
  have t1 : 1 ≤ t := by rw [← ht]; exact Nat.div_pos (by omega) (by omega)
  have t2 : 1 * Q ≤ t * Q := Nat.mul_le_mul_right _ t1
  have e0 := Nat.div_add_mod og gg
  rw [ht] at e0
  have e : ((og % gg : Nat) : Int) = (og : Int) - t * gg := by
    have : ((gg * t + og % gg : Nat) : Int) = og := by rw [e0]
    rw [Int.natCast_add, Int.natCast_mul] at this
    rw [Int.mul_comm] at this
    omega
  refine ⟨⟨by rcases hσ with h | h <;> subst h <;> decide, ?_, ?_, ?_, by omega, hm, q2, Nat.mod_lt _ (by omega), by omega⟩, t1, by omega⟩
  · rw [e, Int.natCast_add, Int.natCast_mul]
    have : ((oQ : Int) + t * Q) * z - (oP + t * P) * d = ((oQ : Int) * z - oP * d) + t * ((Q : Int) * z - P * d) := by grind
    rw [this, s1, s2]
    grind
  · rw [s1]; grind
  · rw [Int.natCast_add, Int.natCast_mul]
    rw [← s3]
    grind
section CM
variable {E : cx} {ad : Nat → Nat} {R : Nat} {W : Int32} {f00 : hm} {V : Nat → Nat} {sg : Nat → Int32} {a b : Nat} {u l ou ol : Int64} {g o x i j k : Nat} {f f' : hm}
theorem U2_seek {C : hm → Prop} {z : Int} {d mo kr kd : Nat} {fl : Int64} (H : cS E ad R W f00 V sg a b u l ou ol g o x f) (hG : cG g o x) (hkr : cK R kr) (hkd : cK R kd) (hkr2 : kr < 23 ∨ 30 ≤ kr) (hkd2 : kd < 23 ∨ 30 ≤ kd) (hfl : fl.toInt = z / (d : Int)) (hr : V kr = (z % (d : Int)).toNat) (hd : V kd = d) (p : 0 < d) (hd8 : d < 4294967296 ^ 8) (hz : inI (z / (d : Int))) (hm1 : 1 ≤ mo) (hmo : mo ≤ 1000)
    (c : ∀ (V' : Nat → Nat) (P : Int) (Q : Nat) (ou ol : Int64) (g o x : Nat) f', cG g o x → isBest z d mo P Q → (∀ k, k < 23 ∨ 30 ≤ k → V' k = V k) → cS E ad R W f00 V' sg a b (Int64.ofInt P) (lN Q) ou ol g o x f' → C f') : isO f (ad 3) 2 ∧ S_X2_seek E (ad 3) fl (cn ad kr) (cn ad kd) (nI mo) f C := by
  refine ⟨H.o3, ?_⟩
  have efl : fl = Int64.ofInt (z / (d : Int)) := by
    apply Int64.toInt_inj.mp
    rw [hfl, Int64.toInt_ofInt_of_le]
    · have := hz.1; omega
    · have := hz.2; omega
  have r1 := Int.emod_nonneg z (show (d : Int) ≠ 0 by omega)
  have r2 := Int.emod_lt_of_pos z (show (0 : Int) < d by omega)
  have er : (((z % (d : Int)).toNat : Nat) : Int) = z % (d : Int) := Int.toNat_of_nonneg r1
  refine T_X2_seek (fun t a0 x1 a3 a4 x5 x6 x7 f' => ∃ (st mv : Nat) (P oP σ : Int) (Q oQ gg og g o x : Nat) (V' : Nat → Nat), t = 10000 - st ∧ a0 = ad 3 ∧ x5 = nI mo ∧ x6 = nI mv ∧ mv ≤ 1 ∧ x7 = nI st ∧ cG g o x ∧ cS E ad R W f00 V' sg a b (Int64.ofInt P) (lN Q) (Int64.ofInt oP) (lN oQ) g o x f' ∧ V' g = gg ∧ V' o = og ∧ sI z d mo P oP σ Q oQ gg og ∧ st + mv ≤ Q + 1 ∧ (mv = 1 → 1 ≤ st → 1 ≤ oQ) ∧ (mv = 0 → gg = 0 ∨ mo < oQ + og / gg * Q) ∧ ∀ k, k < 23 ∨ 30 ≤ k → V' k = V k) ?_ ?_
  · unfold X_X2_seek_0
    obtain ⟨⟨g1, g2⟩, ⟨o1, o2⟩, ⟨x1, x2⟩, n1, n2, n3⟩ := hG
    have kg : cK R g := cK_w (by omega) (by omega)
    have ko : cK R o := cK_w (by omega) (by omega)
    obtain ⟨f1, w1, H1⟩ := H.wn2 1
    obtain ⟨f2, w2, H2⟩ := H1.wn3 0
    refine ⟨f1, w1, f2, w2, _, H2.n5, U1_become H2.ns ko hkd (by omega) (fun f3 m3 => ?_)⟩
    have H3 := H2.op m3
    rw [hd] at H3
    obtain ⟨f4, w4, H4⟩ := H3.wn0 fl
    obtain ⟨f5, w5, H5⟩ := H4.wn1 1
    refine ⟨f4, w4, f5, w5, _, H5.n4, U1_become H5.ns kg hkr (by omega) (fun f6 m6 => ?_)⟩
    have H6 := H5.op m6
    rw [va_up_ne _ _ (show kr ≠ o by omega), hr] at H6
    refine ⟨_, 0, 1, z / (d : Int), 1, 1, 1, 0, (z % (d : Int)).toNat, d, g, o, x, va_up (va_up V o d) g (z % (d : Int)).toNat, rfl, rfl, rfl, rfl, by omega, rfl, ⟨⟨g1, g2⟩, ⟨o1, o2⟩, ⟨x1, x2⟩, n1, n2, n3⟩, ?_, va_up_self _ _ _, ?_, ?_, by omega, by omega, by omega, fun k hk => ?_⟩
    · rw [← efl]; exact H6
    · rw [va_up_ne _ _ (by omega), va_up_self]
    · refine ⟨Or.inl rfl, ?_, ?_, ?_, by omega, by omega, by omega, by omega, by omega⟩
      · rw [er]
        have := Int.mul_ediv_add_emod z (d : Int)
        rw [Int.mul_comm] at this
        omega
      · omega
      · omega
    · rw [va_up_ne _ _ (by omega), va_up_ne _ _ (by omega)]
  · rintro t a0 x1 a3 a4 x5 x6 x7 f' ⟨st, mv, P, oP, σ, Q, oQ, gg, og, g, o, x, V', rfl, rfl, rfl, rfl, hmv, rfl, hG, H, hg, ho, S, hst, hst2, hend, hk⟩
    unfold X_X2_seek_43
    have S' := S
    obtain ⟨hσ, s1, s2, s3, q1, q2, q3, glt, gle⟩ := S'
    have kg : cK R g := cK_w (by have := hG.1; omega) (by have := hG.1; omega)
    rw [show (10000 : Int32) = nI 10000 from rfl, nI_leI (by decide) (by omega)]
    refine ⟨fun w => absurd w (by omega), fun _ => ⟨fun w => ?_, fun w => ?_⟩⟩
    · rw [show (0 : Int32) = nI 0 from rfl, nI_eq (by omega) (by decide)] at w
      refine ⟨_, H.n4, U1_isZero H.ns kg ?_⟩
      rw [hg]
      refine ⟨fun w2 => ?_, fun w2 => ?_⟩
      · have g0 := ite_n w2
        subst g0
        refine c V' P Q _ _ g o x f' hG ?_ hk H
        refine best_zero (oP := oP) (oQ := (oQ : Int)) (σ := σ) (by omega) hσ (by rw [s1]; simp) s3 (by omega) (by omega)
      · rw [ite_z] at w2
        have he := hend w
        refine U2_choose H hG hg ho S hmo w2 (by omega) hd8 hz (fun V2 P' Q' f2 b2 k2 H2 => ?_)
        exact c V2 P' Q' _ _ g o x f2 hG b2 (fun k hk' => by rw [k2 k hk', hk k hk']) H2
    · rw [show (0 : Int32) = nI 0 from rfl, nI_eq (by omega) (by decide)] at w
      have mv1 : mv = 1 := by omega
      subst mv1
      refine ⟨_, H.n4, U1_isZero H.ns kg ?_⟩
      rw [hg]
      refine ⟨fun w2 => ?_, fun w2 => ?_⟩
      · have g0 := ite_n w2
        rintro y rfl
        exact ⟨10000 - (st + 1), by omega, st + 1, 0, P, oP, σ, Q, oQ, gg, og, g, o, x, V', rfl, rfl, rfl, rfl, by omega, nI_1 st, hG, H, hg, ho, S, by omega, by omega, fun _ => Or.inl g0, hk⟩
      · rw [ite_z] at w2
        refine U2_moveOn (t := og / gg) H hG hmo q1 q2 q3 (by rw [ho]; exact B8_19 (by omega)) (by rw [ho, hg]) (fun V2 f2 m1 k2 kx H2 => ?_) (fun V2 f2 m1 k2 H2 => ?_)
        · refine ⟨fun w3 => absurd w3 (by decide), fun _ => ?_⟩
          rintro y rfl
          obtain ⟨S2, t1, t2⟩ := sI_next S w2 rfl m1
          rw [ho, hg] at kx
          have hGb := hG
          unfold cG at hGb
          refine ⟨10000 - (st + 1), by omega, st + 1, 1, _, _, _, _, _, _, _, x, g, o, V2, rfl, rfl, rfl, rfl, by omega, nI_1 st, by unfold cG; omega, H2, kx, ?_, S2, ?_, by omega, by omega, fun k hk' => ?_⟩
          · rw [k2 g (by omega) (by omega), hg]
          · rcases Nat.eq_zero_or_pos st with w4 | w4
            · omega
            · have := hst2 rfl w4
              omega
          · rw [k2 k (by omega) (by omega), hk k hk']
        · refine ⟨fun _ => ?_, fun w3 => absurd rfl w3⟩
          rintro y rfl
          have hGb := hG
          unfold cG at hGb
          exact ⟨10000 - (st + 1), by omega, st + 1, 0, P, oP, σ, Q, oQ, gg, og, g, o, x, V2, rfl, rfl, rfl, rfl, by omega, nI_1 st, hG, H2, by rw [k2 g (by omega) (by omega), hg], by rw [k2 o (by omega) (by omega), ho], S, by omega, by omega, fun _ => Or.inr m1, fun k hk' => by rw [k2 k (by omega) (by omega), hk k hk']⟩
end CM
