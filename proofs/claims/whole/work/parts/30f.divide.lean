/-! The class's Naturals: long division. -/
theorem nlz_D {D y s : Nat} (hD : D < 4294967296 ^ (y + 1)) (hs : s < 32) (h1 : 2147483648 ≤ dg 4294967296 D y * 2 ^ s) (h2 : dg 4294967296 D y * 2 ^ s < 4294967296) : 2147483648 * 4294967296 ^ y ≤ D * 2 ^ s ∧ D * 2 ^ s < 4294967296 ^ (y + 1) := by
  have e := Nat.div_add_mod D (4294967296 ^ y)
  have el := Nat.mod_lt D (show 0 < 4294967296 ^ y from Nat.pow_pos (by decide))
  have ed : D / 4294967296 ^ y = dg 4294967296 D y := by rw [dg_top, Nat.div_eq_of_lt hD, Nat.mul_zero, Nat.zero_add]
  rw [ed] at e
  generalize dg 4294967296 D y = d at *
  have hps : 0 < 2 ^ s := Nat.pow_pos (by decide)
  constructor
  · have : 4294967296 ^ y * d * 2 ^ s ≤ D * 2 ^ s := Nat.mul_le_mul_right _ (by omega)
    rw [Nat.mul_assoc] at this
    have h3 : 4294967296 ^ y * 2147483648 ≤ 4294967296 ^ y * (d * 2 ^ s) := Nat.mul_le_mul_left _ h1
    rw [Nat.mul_comm]
    exact Nat.le_trans h3 this
  · have e32 : (4294967296 : Nat) = 2 ^ (32 - s) * 2 ^ s := by rw [← Nat.pow_add, show 32 - s + s = 32 by omega]
    have hd : d < 2 ^ (32 - s) := by
      rw [e32] at h2
      exact Nat.lt_of_mul_lt_mul_right h2
    have h4 : (d + 1) * 2 ^ s ≤ 4294967296 := by
      rw [e32]
      exact Nat.mul_le_mul_right _ hd
    have h5 : D * 2 ^ s < 4294967296 ^ y * (d + 1) * 2 ^ s := Nat.mul_lt_mul_of_pos_right (by rw [Nat.mul_add, Nat.mul_one]; omega) hps
    rw [Nat.mul_assoc] at h5
    have h6 : 4294967296 ^ y * ((d + 1) * 2 ^ s) ≤ 4294967296 ^ y * 4294967296 := Nat.mul_le_mul_left _ h4
    rw [Nat.pow_succ]
    exact Nat.lt_of_lt_of_le h5 h6
/-- digits of which a window has been written -/
theorem dgs_win {g : Nat → Int32} {X R p w : Nat} (hg : ∀ s, s < 20 → g s = nI (if p ≤ s ∧ s < p + w then dg 4294967296 R (s - p) else dg 4294967296 X s)) (hX : X / 4294967296 ^ p < 4294967296 ^ w) (hR : R < 4294967296 ^ w) : dgs g (X % 4294967296 ^ p + 4294967296 ^ p * R) := by
  intro s hs
  rw [hg s hs]
  apply congrArg
  have hlt : X % 4294967296 ^ p < 4294967296 ^ p := Nat.mod_lt _ (Nat.pow_pos (by decide))
  by_cases q : s < p
  · rw [if_neg (by omega), dg_joinlo q, dg_mod q]
  · obtain ⟨r, rfl⟩ : ∃ r, s = p + r := ⟨s - p, by omega⟩
    rw [dg_joinhi (by decide) hlt, Nat.add_sub_cancel_left]
    by_cases q2 : r < w
    · rw [if_pos (by omega)]
    · rw [if_neg (by omega), ← dg_shift]
      have hp : 4294967296 ^ w ≤ 4294967296 ^ r := Nat.pow_le_pow_right (by decide) (by omega)
      rw [dg_big (Nat.lt_of_lt_of_le hX hp), dg_big (Nat.lt_of_lt_of_le hR hp)]
section NAT6
variable {E : cx} {no na : Nat → Nat} {K : Nat → Prop} {f0 : hm} {V : Nat → Nat} {i j k : Nat} {l : Int32} {g : Nat → Int32} {f : hm} {n m v : Nat}
theorem nS.congr {V' : Nat → Nat} (H : nS E no na K f0 V f) (h : ∀ k, K k → V k = V' k) : nS E no na K f0 V' f := ⟨H.1, fun k hk => by rw [← h k hk]; exact H.2.1 k hk, H.2.2⟩
/-- one Natural more or less is looked at as a Natural: the loop of long division -/
theorem nS.opn2 {q : Nat} (H : nS E no na K f0 V f) (hi : K i) (hiq : q ≠ i) : ∃ (len : Nat) (g : Nat → Int32), nL E no na (fun k => K k ∧ k ≠ q) f V i (nI len) g f ∧ lenIs 4294967296 (V i) len ∧ len ≤ 20 ∧ dgs g (V i) := by
  obtain ⟨len, g, h1, h2⟩ := H.rawOf hi
  refine ⟨len, g, ⟨⟨fun a b ha hb => H.1.1 a b ha.1 hb.1, fun a b ha hb => H.1.2.1 a b ha.1 hb.1, fun a b ha hb => H.1.2.2 a b ha.1 hb.1⟩, ⟨hi, Ne.symm hiq⟩, fun k hk _ => H.2.1 k hk.1, h1, fun _ _ => rfl⟩, h2⟩
theorem nL.base {q : Nat} {e : va_E} (H : nL E no na K f0 V i l g f) (hq : ∀ k, K k → q ≠ no k ∧ q ≠ na k) : nL E no na K (hp f0 q e) V i l g (hp f q e) := by
  obtain ⟨hA, hi, h1, h2, h3⟩ := H
  refine ⟨hA, hi, fun k hk hki => (h1 k hk hki).kept (hp_ne _ _ (Ne.symm (hq k hk).1)) (hp_ne _ _ (Ne.symm (hq k hk).2)), ⟨?_, ?_⟩, fun q' hq' => ?_⟩
  · rw [hp_ne _ _ (Ne.symm (hq i hi).1)]; exact h2.1
  · rw [hp_ne _ _ (Ne.symm (hq i hi).2)]; exact h2.2
  · by_cases z : q' = q
    · subst z; rw [hp_self, hp_self]
    · rw [hp_ne _ _ z, hp_ne _ _ z]; exact h3 q' hq'
theorem div_fin {A D p q X T : Nat} (hD : 0 < D) (hX : X = A % (D * 4294967296 ^ (p + 1))) (hT : T = X / 4294967296 ^ p) (hq : X / (D * 4294967296 ^ p) = q) : q = dg 4294967296 (A / D) p ∧ q = T / D ∧ T < D * 4294967296 ∧ A % (D * 4294967296 ^ p) = X % 4294967296 ^ p + 4294967296 ^ p * (T - q * D) := by
  have hp : 0 < 4294967296 ^ p := Nat.pow_pos (by decide)
  have a1 : q = dg 4294967296 (A / D) p := by
    rw [← hq, hX, Nat.pow_succ, ← Nat.mul_assoc, Nat.mod_mul_right_div_self]
    unfold dg
    rw [Nat.div_div_eq_div_mul]
  have a2 : q = T / D := by rw [← hq, hT, Nat.div_div_eq_div_mul, Nat.mul_comm]
  have hXlt : X < D * 4294967296 ^ (p + 1) := by rw [hX]; exact Nat.mod_lt _ (Nat.mul_pos hD (Nat.pow_pos (by decide)))
  refine ⟨a1, a2, ?_, ?_⟩
  · rw [hT, Nat.div_lt_iff_lt_mul hp, Nat.mul_assoc, Nat.mul_comm 4294967296, ← Nat.pow_succ]
    exact hXlt
  · have a3 : A % (D * 4294967296 ^ p) = X % (D * 4294967296 ^ p) := by
      rw [hX, Nat.mod_mod_of_dvd]
      rw [Nat.pow_succ, ← Nat.mul_assoc]
      exact Nat.dvd_mul_right _ _
    have a4 : T - q * D = T % D := by
      have := Nat.div_add_mod T D
      rw [← a2, Nat.mul_comm] at this
      omega
    rw [a3, Nat.mul_comm D, Nat.mod_mul, a4, hT]
theorem U1_divide {C : hm → Prop} {d q : Nat} (H : nS E no na K f0 V f) (hi : K i) (hd : K d) (hq : K q) (hid : d ≠ i) (hiq : q ≠ i) (hdq : d ≠ q) (h19 : V i < 4294967296 ^ 19) (c : ∀ f', nS E no na K f0 (va_up (va_up V q (V i / V d)) i (V i % V d)) f' → C f') : isO f (no i) 1 ∧ S_X1_divide E (no i) (no d) (no q) f C := by
  obtain ⟨li0, gi0, hh, -⟩ := H.opn hi
  refine ⟨hh.rawI.o, MV.mono (K := fun f' => nS E no na K f0 (va_up (va_up V q (V i / V d)) i (V i % V d)) f') ?_ c⟩
  clear c hh
  obtain ⟨A, hA⟩ : ∃ A, V i = A := ⟨_, rfl⟩
  obtain ⟨D, hDe⟩ : ∃ D, V d = D := ⟨_, rfl⟩
  obtain ⟨L, gi1, -, L2, -, -⟩ := H.rawOf hi
  obtain ⟨z, gd1, -, z2, -, -⟩ := H.rawOf hd
  rw [hA] at L2 h19
  rw [hDe] at z2
  rw [hA, hDe]
  have hL19 : L ≤ 19 := lenIs_le (by decide) L2 h19
  have hno : ∀ k, (K k ∧ k ≠ q) → na q ≠ no k ∧ na q ≠ na k := fun k hk => ⟨Ne.symm (H.1.1 k q hk.1 hq), fun w => hk.2 (H.1.2.2 q k hq hk.1 w).symm⟩
  have hno2 : ∀ k, (K k ∧ k ≠ q) → no q ≠ no k ∧ no q ≠ na k := fun k hk => ⟨fun w => hk.2 (H.1.2.1 q k hq hk.1 w).symm, H.1.1 q k hq hk.1⟩
  have hnqq : no q ≠ na q := H.1.1 q q hq hq
  refine T_X1_divide (fun t a b e x3 x4 x5 x7 x9 f' => ∃ (y s cc : Nat) (f2 : hm) (g' gq : Nat → Int32), t = cc ∧ a = no i ∧ b = no d ∧ e = no q ∧ x3 = nI (y + 1) ∧ x4 = nI s ∧ x5 = lN (dg 4294967296 (D * 2 ^ s * 4294967296) (y + 1)) ∧ x7 = lN (dg 4294967296 (D * 2 ^ s * 4294967296) y) ∧ x9 = nI cc - 1 ∧ s < 32 ∧ z = y + 1 ∧ cc + y ≤ L ∧ y + 1 ≤ L ∧ 2147483648 * 4294967296 ^ y ≤ D * 2 ^ s ∧ D * 2 ^ s < 4294967296 ^ (y + 1) ∧ A / D < 4294967296 ^ (L - y) ∧ nS E no na K f0 (va_up V q 0) f2 ∧ f2 (no q) = some (.inr (1, [.ref (na q), .int (nI 0)])) ∧ nL E no na (fun k => K k ∧ k ≠ q) (hp f2 (na q) (.inl (eI E, 20, .inl gq))) (va_up V q 0) i (nI L) g' f' ∧ dgs g' (A % (D * 4294967296 ^ cc)) ∧ ∀ t, t < 20 → gq t = nI (if cc ≤ t then dg 4294967296 (A / D) t else 0)) ?_ ?_
  · unfold X_X1_divide_0
    refine U1_clear H hq (fun f2 H2 => ?_)
    have V1i : va_up V q 0 i = A := by rw [va_up_ne _ _ (Ne.symm hiq), hA]
    have V1d : va_up V q 0 d = D := by rw [va_up_ne _ _ hdq, hDe]
    obtain ⟨z', gd, r1, r2, r3, r4⟩ := H2.rawOf hd
    rw [V1d] at r2 r4
    obtain rfl := lenIs_uni (by decide) r2 z2
    have quit : A < D ∨ D = 0 → nS E no na K f0 (va_up (va_up V q (A / D)) i (A % D)) f2 := by
      intro w
      have e1 : A / D = 0 := by
        rcases w with w | w
        · exact Nat.div_eq_of_lt w
        · rw [w, Nat.div_zero]
      have e2 : A % D = A := by
        rcases w with w | w
        · exact Nat.mod_eq_of_lt w
        · rw [w, Nat.mod_zero]
      rw [e1, e2]
      refine H2.congr (fun k hk => ?_)
      by_cases hki : k = i
      · subst hki; rw [va_up_self, V1i]
      · rw [va_up_ne _ _ hki]
    refine ⟨_, r1.r1, fun w => ?_, fun w => ?_⟩
    · rw [show (0 : Int32) = nI 0 from rfl, nI_eq (by omega) (by decide)] at w
      subst w
      exact quit (Or.inr (lenIs_0 r2))
    · rw [show (0 : Int32) = nI 0 from rfl, nI_eq (by omega) (by decide)] at w
      obtain ⟨y, rfl⟩ : ∃ y, z' = y + 1 := ⟨z' - 1, by omega⟩
      obtain ⟨L', gi, h1, h2, h3, h4⟩ := H2.opn2 hi hiq
      rw [V1i] at h2 h4
      obtain rfl := lenIs_uni (by decide) h2 L2
      refine ⟨_, h1.rawI.r1, fun w2 => ?_, fun w2 => ?_⟩
      · rw [nI_leI (by omega) (by omega)] at w2
        have hdt := lenIs_top (by decide) r2
        refine ⟨_, r1.r0, _, by rw [nI_pred]; exact r1.rd (by omega), ?_⟩
        rw [r4 y (by omega)]
        refine U1_nlz (dg_lt (by decide) _ _) hdt (fun s hs s1 s2 => ?_)
        obtain ⟨n1, n2⟩ := nlz_D r2.1 hs s1 s2
        have hD20 : D < 4294967296 ^ 20 := Nat.lt_of_lt_of_le r2.1 (Nat.pow_le_pow_right (by decide) r3)
        refine U1_shiftedLimb (t := y + 1) rfl r1 r4 hD20 hs (by omega) ?_
        refine U1_shiftedLimb (t := y) ?_ r1 r4 hD20 hs (by omega) ?_
        · rw [← nI_1, Int32.sub_eq_add_neg, Int32.sub_eq_add_neg, Int32.add_assoc]; rfl
        · refine ⟨_, h1.rawI.r1, ?_⟩
          rintro x rfl
          obtain ⟨lq, gq, q1, q2, q3, q4⟩ := H2.rawOf hq
          rw [va_up_self] at q2 q4
          obtain rfl := lenIs_zero (by decide) q2
          have hDge : 4294967296 ^ y ≤ D := by
            have := r2.2
            rw [Nat.add_sub_cancel] at this
            rcases this with w3 | w3
            · omega
            · exact w3
          have hAlt : A < D * 4294967296 ^ (L' - (y + 1) + 1) := by
            refine Nat.lt_of_lt_of_le h2.1 ?_
            have : 4294967296 ^ y * 4294967296 ^ (L' - (y + 1) + 1) ≤ D * 4294967296 ^ (L' - (y + 1) + 1) := Nat.mul_le_mul_right _ hDge
            rw [← Nat.pow_add, show y + (L' - (y + 1) + 1) = L' by omega] at this
            exact this
          have hQ : A / D < 4294967296 ^ (L' - (y + 1) + 1) := Nat.div_lt_of_lt_mul hAlt
          have eL : L' - y = L' - (y + 1) + 1 := by omega
          refine ⟨_, y, s, L' - (y + 1) + 1, f2, gi, gq, rfl, rfl, rfl, rfl, rfl, rfl, rfl, rfl, ?_, hs, rfl, by omega, w2, n1, n2, by rw [eL]; exact hQ, H2, q1.1, ?_, ?_, ?_⟩
          · rw [nI_pred, pk_sub w2]
          · rw [hp_id q1.2]; exact h1
          · rw [Nat.mod_eq_of_lt hAlt]; exact h4
          · intro t ht
            rw [q4 t ht, dg_zero]
            by_cases w3 : L' - (y + 1) + 1 ≤ t
            · rw [if_pos w3, dg_big (Nat.lt_of_lt_of_le hQ (Nat.pow_le_pow_right (by decide) w3))]
            · rw [if_neg w3]
      · rw [nI_leI (by omega) (by omega)] at w2
        exact quit (Or.inl (lenIs_lt (by decide) h2 r2 (by omega)))
  · rintro t a b e x3 x4 x5 x7 x9 f' ⟨y, s, cc, f2, g', gq, rfl, rfl, rfl, rfl, rfl, rfl, rfl, rfl, rfl, hs, rfl, hcc, hyL, n1, n2, hQ, H2, hf2q, H', hg', hgq⟩
    unfold X_X1_divide_65
    have hD0 : 0 < D := by
      rcases Nat.eq_zero_or_pos D with w | w
      · subst w
        have : 0 < 2147483648 * 4294967296 ^ y := Nat.mul_pos (by decide) (Nat.pow_pos (by decide))
        omega
      · exact w
    have rq : ∀ (g2 gq2 : Nat → Int32) (f3 : hm), nL E no na (fun k => K k ∧ k ≠ q) (hp f2 (na q) (.inl (eI E, 20, .inl gq2))) (va_up V q 0) i (nI L) g2 f3 → raw E f3 (no q) (na q) (nI 0) gq2 := by
      intro g2 gq2 f3 H3
      refine ⟨?_, ?_⟩
      · rw [H3.2.2.2.2 (no q) hno2, hp_ne _ _ hnqq, hf2q]
      · rw [H3.2.2.2.2 (na q) hno, hp_self]
    rcases t with _ | p
    · refine ⟨fun _ => ?_, fun w => absurd (by decide) w⟩
      have rq1 := rq g' gq f' H'
      rw [Nat.pow_zero, Nat.mul_one] at hg'
      refine ⟨_, H'.rawI.r1, ?_⟩
      have Hf : nL E no na (fun k => K k ∧ k ≠ i) f' (va_up V q 0) q (nI 0) gq f' := ⟨⟨fun a b ha hb => H.1.1 a b ha.1 hb.1, fun a b ha hb => H.1.2.1 a b ha.1 hb.1, fun a b ha hb => H.1.2.2 a b ha.1 hb.1⟩, ⟨hq, hiq⟩, fun k hk hkq => H'.2.2.1 k ⟨hk.1, hkq⟩ hk.2, rq1, fun _ _ => rfl⟩
      refine U1_trimFrom (t := L - y) (v := A / D) ?_ Hf (by omega) (fun t ht => by rw [hgq t ht, if_pos (Nat.zero_le _)]) hQ (fun f4 H4 => ?_)
      · rw [pk_sub hyL, nI_1]
        exact congrArg nI (by omega)
      · have k1 : f4 (no i) = f' (no i) := H4.2.2 (no i) (fun k hk => ⟨fun w => hk.2 (H.1.2.1 i k hi hk.1 w).symm, H.1.1 i k hi hk.1⟩)
        have k2 : f4 (na i) = f' (na i) := H4.2.2 (na i) (fun k hk => ⟨Ne.symm (H.1.1 k i hk.1 hi), fun w => hk.2 (H.1.2.2 i k hi hk.1 w).symm⟩)
        have Hi : nL E no na K f0 (va_up V q (A / D)) i (nI L) g' f4 := by
          refine ⟨H.1, hi, fun k hk hki => ?_, ⟨by rw [k1]; exact H'.rawI.1, by rw [k2]; exact H'.rawI.2⟩, fun q' hq' => ?_⟩
          · have := H4.2.1 k ⟨hk, hki⟩
            by_cases hkq : k = q
            · subst hkq
              rw [va_up_self] at this ⊢
              exact this
            · rw [va_up_ne _ _ hkq, va_up_ne _ _ hkq] at this
              rw [va_up_ne _ _ hkq]
              exact this
          · rw [H4.2.2 q' (fun k hk => hq' k hk.1), H'.2.2.2.2 q' (fun k hk => hq' k hk.1), hp_ne _ _ (hq' q hq).2, H2.2.2 q' hq']
        refine ⟨_, Hi.rawI.r1, ?_⟩
        refine U1_trimFrom (t := L) rfl Hi (by omega) hg' (Nat.lt_of_le_of_lt (Nat.mod_le _ _) L2.1) (fun f5 H5 => H5)
    · rw [nI_pred]
      refine ⟨fun w => absurd w (nI_pos (by omega)), fun _ => ?_⟩
      have hB : A % (D * 4294967296 ^ (p + 1)) < D * 4294967296 ^ (p + 1) := Nat.mod_lt _ (Nat.mul_pos hD0 (Nat.pow_pos (by decide)))
      have hA20 : A < 4294967296 ^ 20 := Nat.lt_of_lt_of_le L2.1 (Nat.pow_le_pow_right (by decide) (by omega))
      obtain ⟨X, hX⟩ : ∃ X, X = A % (D * 4294967296 ^ (p + 1)) := ⟨_, rfl⟩
      obtain ⟨T, hT⟩ : ∃ T, T = X / 4294967296 ^ p := ⟨_, rfl⟩
      obtain ⟨qq, hqq⟩ : ∃ qq, X / (D * 4294967296 ^ p) = qq := ⟨_, rfl⟩
      obtain ⟨f1, f3, f4, f5⟩ := div_fin hD0 hX hT hqq
      rw [← hX] at hg' hB
      have hX20 : X < 4294967296 ^ 20 := by rw [hX]; exact Nat.lt_of_le_of_lt (Nat.mod_le _ _) hA20
      -- one digit of the quotient is written
      have fin : ∀ (g2 : Nat → Int32) (f9 : hm), nL E no na (fun k => K k ∧ k ≠ q) (hp f2 (na q) (.inl (eI E, 20, .inl gq))) (va_up V q 0) i (nI L) g2 f9 → dgs g2 (X % 4294967296 ^ p + 4294967296 ^ p * (T - qq * D)) → ∃ v : Nat, rdV f9 (no q) 1 0 = some (.ref v) ∧ ∃ f13 : hm, wrA (eI E) f9 v (nI p) (lN qq).toInt32 = some f13 ∧ ∀ x : Int32, x = nI p + (-1) → ∃ k : Nat, k < p + 1 ∧ ∃ (y' s' cc : Nat) (f2 : hm) (g' gq : Nat → Int32), k = cc ∧ no i = no i ∧ no d = no d ∧ no q = no q ∧ nI (y + 1) = nI (y' + 1) ∧ nI s = nI s' ∧ lN (dg 4294967296 (D * 2 ^ s * 4294967296) (y + 1)) = lN (dg 4294967296 (D * 2 ^ s' * 4294967296) (y' + 1)) ∧ lN (dg 4294967296 (D * 2 ^ s * 4294967296) y) = lN (dg 4294967296 (D * 2 ^ s' * 4294967296) y') ∧ x = nI cc - 1 ∧ s' < 32 ∧ y + 1 = y' + 1 ∧ cc + y' ≤ L ∧ y' + 1 ≤ L ∧ 2147483648 * 4294967296 ^ y' ≤ D * 2 ^ s' ∧ D * 2 ^ s' < 4294967296 ^ (y' + 1) ∧ A / D < 4294967296 ^ (L - y') ∧ nS E no na K f0 (va_up V q 0) f2 ∧ f2 (no q) = some (.inr (1, [.ref (na q), .int (nI 0)])) ∧ nL E no na (fun k => K k ∧ k ≠ q) (hp f2 (na q) (.inl (eI E, 20, .inl gq))) (va_up V q 0) i (nI L) g' f13 ∧ dgs g' (A % (D * 4294967296 ^ cc)) ∧ ∀ t, t < 20 → gq t = nI (if cc ≤ t then dg 4294967296 (A / D) t else 0) := by
        intro g2 f9 H9 hg2
        have r9 := rq g2 gq f9 H9
        refine ⟨_, r9.r0, _, wrA_of r9.2 (show p < 20 by omega) (by decide), ?_⟩
        rintro x rfl
        have hb := H9.base (q := na q) (e := .inl (eI E, 20, .inl (upd gq p (lN qq).toInt32))) hno
        rw [hp_hp] at hb
        refine ⟨p, Nat.lt_succ_self p, y, s, p, f2, g2, _, rfl, rfl, rfl, rfl, rfl, rfl, rfl, rfl, by rw [Int32.sub_eq_add_neg], hs, rfl, by omega, hyL, n1, n2, hQ, H2, hf2q, hb, by rw [f5]; exact hg2, fun t ht => ?_⟩
        by_cases htp : t = p
        · subst htp
          rw [pk_us, if_pos (Nat.le_refl _), lN_i, f1]
        · rw [pk_un htp, hgq t ht]
          by_cases w : p + 1 ≤ t
          · rw [if_pos w, if_pos (by omega)]
          · rw [if_neg w, if_neg (by omega)]
      have hTw : T < 4294967296 ^ (y + 1 + 1) := by
        have : D * 4294967296 ≤ 4294967296 ^ (y + 1) * 4294967296 := Nat.mul_le_mul_right _ (Nat.le_of_lt (Nat.lt_of_le_of_lt (by have : D * 1 ≤ D * 2 ^ s := Nat.mul_le_mul_left _ (Nat.pow_pos (by decide)); omega) n2))
        rw [Nat.pow_succ]
        exact Nat.lt_of_lt_of_le f4 this
      have hqT : qq * D ≤ T := by rw [f3]; exact Nat.div_mul_le_self T D
      have hqT2 : T < (qq + 1) * D := by rw [f3, Nat.mul_comm]; exact Nat.lt_mul_div_succ T hD0
      rw [nI_add]
      refine U1_guess (X := X) (D := D) (p := p) (y := y) (q := qq) H'.rawI hg' hX20 hs (by omega) (by rw [Nat.mul_assoc, ← Nat.pow_succ]; exact hB) n1 n2 hqq (fun gu b1 b2 b3 => ?_)
      rw [lgc_eq, pk_lT (by omega), show (0 : Int64).toInt = 0 from rfl]
      refine ⟨fun w => ?_, fun w => ?_⟩
      · have g0 : gu = 0 := by omega
        have q0 : qq = 0 := by omega
        have := fin g' f' H' (by
          rw [q0, Nat.zero_mul, Nat.sub_zero, hT, Nat.add_comm, Nat.div_add_mod]
          exact hg')
        rw [show gu = qq by omega]
        exact this
      · have hkd : (fun k => K k ∧ k ≠ q) d := ⟨hd, hdq⟩
        have Vd : va_up V q 0 d = D := by rw [va_up_ne _ _ hdq, hDe]
        have hT' : X / 4294967296 ^ p % 4294967296 ^ (y + 1 + 1) = T := by rw [← hT, Nat.mod_eq_of_lt hTw]
        obtain ⟨R, hR⟩ : ∃ R, R = T + (if T < gu * D then 4294967296 ^ (y + 1 + 1) else 0) - gu * D := ⟨_, rfl⟩
        have ct := C1_takeAt (k := d) (S := X) (p := p) (fac := gu) (len := y + 1) (T := T) (R := R) H' hg' hkd hid (by rw [Vd]; exact z2) (by omega) b3 hT' (by rw [Vd]; exact hR)
        rw [Vd] at ct
        refine ⟨H'.rawI.o, MI.mono ct (fun r f9 ⟨hr, g2, H9, hg2⟩ => ?_)⟩
        by_cases hlt : T < gu * D
        · rw [if_pos hlt] at hr hR
          subst hr
          refine ⟨fun w' => absurd w' (by decide), fun _ => ?_⟩
          have hgq1 : gu = qq + 1 := by
            rcases Nat.lt_or_ge qq gu with w' | w'
            · omega
            · have : gu = qq := by omega
              subst this
              omega
          subst hgq1
          have hDlt : D < 4294967296 ^ (y + 1 + 1) := by
            have h1 := z2.1
            have : 4294967296 ^ (y + 1) ≤ 4294967296 ^ (y + 1 + 1) := Nat.pow_le_pow_right (by decide) (by omega)
            omega
          have hRlt : R < 4294967296 ^ (y + 1 + 1) := by rw [hR]; omega
          have hRD : R + 1 * D = (T - qq * D) + 4294967296 ^ (y + 1 + 1) * 1 := by
            rw [hR]
            rw [Nat.add_mul] at hlt ⊢
            omega
          have hd2 : dgs g2 (X % 4294967296 ^ p + 4294967296 ^ p * R) := dgs_win hg2 (by rw [← hT]; exact hTw) hRlt
          obtain ⟨S, hS⟩ : ∃ S, S = X % 4294967296 ^ p + 4294967296 ^ p * R := ⟨_, rfl⟩
          rw [← hS] at hd2
          have hp0 : 0 < 4294967296 ^ p := Nat.pow_pos (by decide)
          have hS1 : S / 4294967296 ^ p = R := by rw [hS, Nat.add_mul_div_left _ _ hp0, Nat.div_eq_of_lt (Nat.mod_lt _ hp0), Nat.zero_add]
          have hS2 : S % 4294967296 ^ p = X % 4294967296 ^ p := by rw [hS, Nat.add_mul_mod_self_left, Nat.mod_mod]
          have ca := C1_addMul (k := d) (S := S) (p := p) (fac := 1) (len := y + 1) H9 hd2 hkd hid (by rw [Vd]; exact z2) (by omega) (by decide)
          rw [Vd] at ca
          refine ⟨H9.rawI.o, MV.mono ca (fun f10 ⟨g3, H10, hg3⟩ => ?_)⟩
          rintro x rfl
          rw [show (1 : Int64) = lN 1 from rfl, lN_sub (by omega), Nat.add_sub_cancel]
          refine fin g3 f10 H10 ?_
          rw [← hS2]
          refine dgs_win (w := y + 1 + 1) (fun s' hs' => ?_) (by rw [hS1]; exact hRlt) (by omega)
          rw [hg3 s' hs', hS1, hRD]
          by_cases w' : p ≤ s' ∧ s' < p + (y + 1 + 1)
          · rw [if_pos w', if_pos w', dg_joinlo (by omega)]
          · rw [if_neg w', if_neg w']
        · rw [if_neg hlt] at hr hR
          subst hr
          refine ⟨fun _ => ?_, fun w' => absurd rfl w'⟩
          have hgq1 : gu = qq := by
            rcases Nat.lt_or_ge qq gu with w' | w'
            · have : gu = qq + 1 := by omega
              subst this
              omega
            · omega
          subst hgq1
          refine fin g2 f9 H9 ?_
          rw [show T - gu * D = R by rw [hR]; omega]
          exact dgs_win hg2 (by rw [← hT]; exact hTw) (by rw [hR]; omega)
end NAT6
