/-! The reference's common divisor, and lowest terms. -/
theorem ite_z {p : Prop} [Decidable p] : (if p then (1 : Int32) else 0) = 0 ↔ ¬ p := by
  by_cases hp : p
  · rw [if_pos hp]; exact ⟨fun q => absurd q (by decide), fun q => absurd hp q⟩
  · rw [if_neg hp]; exact ⟨fun _ => hp, fun _ => rfl⟩
section REF4
variable {E : cx} {h ab as : Nat} {R w : Int32} {f0 : hm} {sn : Nat → Int32} {sg go gs : Int32} {f : hm} {N : Nat → Nat}
/-- between the halvings: what is common is 2 ^ t times what is common to the numbers 24 and 25 -/
def cmJ (N : Nat → Nat) (t : Nat) (M : Nat → Nat) : Prop := (∀ m, m ≠ 24 → m ≠ 25 → M m = N m) ∧ Nat.gcd (N 16) (N 17) = 2 ^ t * Nat.gcd (M 24) (M 25) ∧ 0 < M 24 ∧ t ≤ 576
theorem cmJ.up24 {t x : Nat} {M : Nat → Nat} (J : cmJ N t M) (hg : Nat.gcd x (M 25) = Nat.gcd (M 24) (M 25)) (hx : 0 < x) : cmJ N t (va_up M 24 x) := by
  refine ⟨fun m a b => by rw [va_up_ne _ _ a]; exact J.1 m a b, ?_, by rw [va_up_self]; exact hx, J.2.2.2⟩
  rw [va_up_self, va_up_ne _ _ (by decide), hg]
  exact J.2.1
theorem cmJ.up25 {t x : Nat} {M : Nat → Nat} (J : cmJ N t M) (hg : Nat.gcd (M 24) x = Nat.gcd (M 24) (M 25)) : cmJ N t (va_up M 25 x) := by
  refine ⟨fun m a b => by rw [va_up_ne _ _ b]; exact J.1 m a b, ?_, by rw [va_up_ne _ _ (by decide)]; exact J.2.2.1, J.2.2.2⟩
  rw [va_up_self, va_up_ne _ _ (by decide), hg]
  exact J.2.1
theorem C5_common (H : rS E h ab as R w f0 N sn sg go gs f) (h16 : 0 < N 16) (h17 : 0 < N 17) : S_X5_common E h f (fun g => ∃ M : Nat → Nat, rS E h ab as R w f0 M sn sg go gs g ∧ M 24 = Nat.gcd (N 16) (N 17) ∧ ∀ m, m ≠ 24 → m ≠ 25 → M m = N m) := by
  have hlt16 := H.lt (m := 16) (by decide)
  have hgle : Nat.gcd (N 16) (N 17) ≤ N 16 := Nat.gcd_le_left _ h16
  refine T_X5_common (fun n a x1 g => ∃ (t : Nat) (M : Nat → Nat), n = 4 * (M 24 + M 25) + 2005 ∧ a = h ∧ x1 = nI t ∧ rS E h ab as R w f0 M sn sg go gs g ∧ cmJ N t M ∧ M 24 * 2 ^ t = N 16 ∧ 0 < M 25)
    (fun n a x1 g => ∃ (t : Nat) (M : Nat → Nat), n = 4 * (M 24 + M 25) + 2003 ∧ a = h ∧ x1 = nI t ∧ rS E h ab as R w f0 M sn sg go gs g ∧ cmJ N t M ∧ (M 24 % 2 = 1 ∨ M 25 % 2 = 1))
    (fun n a x1 g => ∃ (t : Nat) (M : Nat → Nat), n = 4 * (M 24 + M 25) + 2002 ∧ a = h ∧ x1 = nI t ∧ rS E h ab as R w f0 M sn sg go gs g ∧ cmJ N t M ∧ (M 24 % 2 = 1 ∨ M 25 % 2 = 1) ∧ 0 < M 25)
    (fun n a x1 g => ∃ (t : Nat) (M : Nat → Nat), n = 4 * (M 24 + M 25) + 2001 ∧ a = h ∧ x1 = nI t ∧ rS E h ab as R w f0 M sn sg go gs g ∧ cmJ N t M ∧ M 25 % 2 = 1)
    (fun n a x1 x2 g => ∃ (t k : Nat) (M : Nat → Nat), k ≤ t ∧ n = t - k ∧ a = h ∧ x1 = nI t ∧ x2 = nI k ∧ rS E h ab as R w f0 M sn sg go gs g ∧ (∀ m, m ≠ 24 → m ≠ 25 → M m = N m) ∧ M 24 * 2 ^ (t - k) = Nat.gcd (N 16) (N 17) ∧ t ≤ 576) ?_ ?_ ?_ ?_ ?_ ?_
  · unfold X_X5_common_0
    refine U5_copy 16 24 H (by decide) (by decide) (fun g H => ?_)
    refine U5_copy 17 25 H (by decide) (by decide) (fun g H => ?_)
    rw [va_up_ne _ _ (by decide)] at H
    refine ⟨_, 0, va_up (va_up N 24 (N 16)) 25 (N 17), rfl, rfl, rfl, H, ⟨fun m a b => by rw [va_up_ne _ _ b, va_up_ne _ _ a], ?_, ?_, by decide⟩, ?_, ?_⟩
    · rw [va_up_self, va_up_ne _ _ (by decide), va_up_self]; simp
    · rw [va_up_ne _ _ (by decide), va_up_self]; exact h16
    · rw [va_up_ne _ _ (by decide), va_up_self]; simp
    · rw [va_up_self]; exact h17
  · rintro n a x1 g ⟨t, M, rfl, rfl, rfl, H, J, hW, hH⟩
    unfold X_X5_common_18
    refine U5_isEven 24 H (by decide) ⟨fun c => ?_, fun c => ?_⟩
    · have c := ite_z.mp c
      exact ⟨_, by omega, t, M, rfl, rfl, rfl, H, J, Or.inl (by omega)⟩
    · have c := Classical.not_not.mp (fun q => c (ite_z.mpr q))
      refine U5_isEven 25 H (by decide) ⟨fun c2 => ?_, fun c2 => ?_⟩
      · have c2 := ite_z.mp c2
        exact ⟨_, by omega, t, M, rfl, rfl, rfl, H, J, Or.inr (by omega)⟩
      · have c2 := Classical.not_not.mp (fun q => c2 (ite_z.mpr q))
        refine U5_halve 24 H (by decide) (fun g H => ?_)
        refine U5_halve 25 H (by decide) (fun g H => ?_)
        rw [va_up_ne _ _ (by decide)] at H
        rintro x rfl
        have hW2 := J.2.2.1
        have e24 : M 24 = 2 * (M 24 / 2) := by omega
        have e25 : M 25 = 2 * (M 25 / 2) := by omega
        have ht : t + 1 ≤ 576 := by
          have p1 : 2 ^ (t + 1) ≤ N 16 := by
            rw [← hW, Nat.pow_succ, Nat.mul_comm (2 ^ t)]
            exact Nat.mul_le_mul_right _ (by omega)
          rcases Nat.lt_or_ge 576 (t + 1) with q | q
          · exfalso
            have : (2 : Nat) ^ 577 ≤ 2 ^ (t + 1) := Nat.pow_le_pow_right (by decide) q
            have e : (65536 : Nat) ^ 36 = 2 ^ 576 := pw16 36
            have e2 : (2 : Nat) ^ 577 = 2 ^ 576 * 2 := Nat.pow_succ 2 576
            omega
          · exact q
        refine ⟨4 * (M 24 / 2 + M 25 / 2) + 2005, by omega, t + 1, va_up (va_up M 24 (M 24 / 2)) 25 (M 25 / 2), ?_, rfl, nI_1 t, H, ⟨fun m a b => by rw [va_up_ne _ _ b, va_up_ne _ _ a]; exact J.1 m a b, ?_, ?_, ht⟩, ?_, ?_⟩
        · rw [va_up_self, va_up_ne _ _ (by decide), va_up_self]
        · rw [va_up_self, va_up_ne _ _ (by decide), va_up_self, J.2.1, Nat.pow_succ, Nat.mul_assoc, ← bg_even2, ← e24, ← e25]
        · rw [va_up_ne _ _ (by decide), va_up_self]; omega
        · rw [va_up_ne _ _ (by decide), va_up_self, ← hW, Nat.pow_succ, Nat.mul_comm (2 ^ t), ← Nat.mul_assoc]
          congr 1
          omega
        · rw [va_up_self]; omega
  · rintro n a x1 g ⟨t, M, rfl, rfl, rfl, H, J, hO⟩
    unfold X_X5_common_54
    refine U5_isZero 25 H (by decide) ⟨fun c => ?_, fun c => ?_⟩
    · have c := Classical.not_not.mp (fun q => c (ite_z.mpr q))
      have ht := J.2.2.2
      refine ⟨t, by omega, t, 0, M, by omega, by omega, rfl, rfl, rfl, H, J.1, ?_, ht⟩
      rw [J.2.1, c, Nat.gcd_zero_right, Nat.mul_comm, Nat.sub_zero]
    · have c := ite_z.mp c
      exact ⟨_, by omega, t, M, rfl, rfl, rfl, H, J, hO, by omega⟩
  · rintro n a x1 g ⟨t, M, rfl, rfl, rfl, H, J, hO, hH⟩
    unfold X_X5_common_63
    refine U5_isEven 25 H (by decide) ⟨fun c => ?_, fun c => ?_⟩
    · have c := ite_z.mp c
      exact ⟨_, by omega, t, M, rfl, rfl, rfl, H, J, by omega⟩
    · have c := Classical.not_not.mp (fun q => c (ite_z.mpr q))
      have o24 : M 24 % 2 = 1 := by omega
      refine U5_halve 25 H (by decide) (fun g H => ?_)
      have hg : Nat.gcd (M 24) (M 25 / 2) = Nat.gcd (M 24) (M 25) := by
        have : M 25 = 2 * (M 25 / 2) := by omega
        rw [Nat.gcd_comm (M 24) (M 25), this, bg_half o24, Nat.gcd_comm]
        congr 1
        omega
      refine ⟨4 * (M 24 + M 25 / 2) + 2002, by omega, t, va_up M 25 (M 25 / 2), ?_, rfl, rfl, H, J.up25 hg, Or.inl ?_, ?_⟩
      · rw [va_up_self, va_up_ne _ _ (by decide)]
      · rw [va_up_ne _ _ (by decide)]; exact o24
      · rw [va_up_self]; omega
  · rintro n a x1 g ⟨t, M, rfl, rfl, rfl, H, J, hO⟩
    unfold X_X5_common_81
    have hW := J.2.2.1
    refine U5_isEven 24 H (by decide) ⟨fun c => ?_, fun c => ?_⟩
    · have c := ite_z.mp c
      have o24 : M 24 % 2 = 1 := by omega
      refine U5_compare 25 24 H (by decide) (by decide) ⟨fun c2 => ?_, fun c2 => ?_⟩
      · have c2 := ord3_lt.mp c2
        refine U5_lessen 24 25 H (by decide) (by decide) (by decide) (by omega) (fun g H => ?_)
        refine ⟨4 * (M 24 - M 25 + M 25) + 2003, by omega, t, va_up M 24 (M 24 - M 25), ?_, rfl, rfl, H, J.up24 ?_ (by omega), Or.inr ?_⟩
        · rw [va_up_self, va_up_ne _ _ (by decide)]
        · rw [Nat.gcd_comm, bg_sub (by omega), Nat.gcd_comm]
        · rw [va_up_ne _ _ (by decide)]; exact hO
      · have c2 : ¬ M 25 < M 24 := fun q => c2 (ord3_lt.mpr q)
        refine U5_lessen 25 24 H (by decide) (by decide) (by decide) (by omega) (fun g H => ?_)
        refine ⟨4 * (M 24 + (M 25 - M 24)) + 2003, by omega, t, va_up M 25 (M 25 - M 24), ?_, rfl, rfl, H, J.up25 (bg_sub (by omega)), Or.inl ?_⟩
        · rw [va_up_self, va_up_ne _ _ (by decide)]
        · rw [va_up_ne _ _ (by decide)]; exact o24
    · have c := Classical.not_not.mp (fun q => c (ite_z.mpr q))
      refine U5_halve 24 H (by decide) (fun g H => ?_)
      refine ⟨4 * (M 24 / 2 + M 25) + 2001, by omega, t, va_up M 24 (M 24 / 2), ?_, rfl, rfl, H, J.up24 ?_ (by omega), ?_⟩
      · rw [va_up_self, va_up_ne _ _ (by decide)]
      · have : Nat.gcd (2 * (M 24 / 2)) (M 25) = Nat.gcd (M 24 / 2) (M 25) := bg_half hO
        rw [← this]
        congr 1
        omega
      · rw [va_up_ne _ _ (by decide)]; exact hO
  · rintro n a x1 x2 g ⟨t, k, M, hk, rfl, rfl, rfl, rfl, H, hM, hg, ht⟩
    unfold X_X5_common_134
    refine ⟨fun c => ?_, fun c => ?_⟩
    · have : k = t := by
        rcases Nat.lt_or_ge k t with q | q
        · exact absurd c (nI_ge q (by omega))
        · omega
      subst this
      rw [Nat.sub_self, Nat.pow_zero, Nat.mul_one] at hg
      exact ⟨M, H, hg, hM⟩
    · have hk' : k < t := by
        rcases Nat.lt_or_ge k t with q | q
        · exact q
        · exact absurd (nI_le q (by omega)) c
      have e : M 24 * 2 ^ (t - k) = 2 * M 24 * 2 ^ (t - (k + 1)) := by
        rw [show t - k = t - (k + 1) + 1 by omega, Nat.pow_succ, Nat.mul_comm (2 ^ _) 2, ← Nat.mul_assoc, Nat.mul_comm (M 24) 2]
      have hle : 2 * M 24 ≤ M 24 * 2 ^ (t - k) := by
        rw [e]
        exact Nat.le_mul_of_pos_right _ (Nat.pow_pos (by decide))
      refine U5_grow 24 2 H (by decide) (by decide) (by omega) (fun g H => ?_)
      rintro x rfl
      refine ⟨t - (k + 1), by omega, t, k + 1, va_up M 24 (2 * M 24), hk', rfl, rfl, rfl, nI_1 k, H, fun m a b => by rw [va_up_ne _ _ a]; exact hM m a b, ?_, ht⟩
      rw [va_up_self, ← e]
      exact hg
theorem U5_common {K : hm → Prop} (H : rS E h ab as R w f0 N sn sg go gs f) (h16 : 0 < N 16) (h17 : 0 < N 17) (k : ∀ (g : hm) (M : Nat → Nat), rS E h ab as R w f0 M sn sg go gs g → M 24 = Nat.gcd (N 16) (N 17) → (∀ m, m ≠ 24 → m ≠ 25 → M m = N m) → K g) : isO f h 5 ∧ S_X5_common E h f K := ⟨H.o, MV.mono (C5_common H h16 h17) (fun g ⟨M, a, b, c⟩ => k g M a b c)⟩
/-- what the registers and the continued fraction are held in stays -/
def keepN (N M : Nat → Nat) : Prop := ∀ m, m < 16 ∨ m = 22 ∨ m = 23 → M m = N m
theorem keepN.rf : keepN N N := fun _ _ => rfl
theorem keepN.tr {A B C : Nat → Nat} (h1 : keepN A B) (h2 : keepN B C) : keepN A C := fun m hm => (h2 m hm).trans (h1 m hm)
theorem keepN.up {M : Nat → Nat} {n v : Nat} (h1 : keepN N M) (hn : ¬ (n < 16 ∨ n = 22 ∨ n = 23)) : keepN N (va_up M n v) := fun m hm => by
  have hne : m ≠ n := fun q => hn (by rw [← q]; exact hm)
  rw [va_up_ne _ _ hne]
  exact h1 m hm
theorem w4S (H : rS E h ab as R w f0 N sn sg go gs f) (x : Int32) : ∃ f' : hm, wrV f h 5 4 (.int x) = some f' ∧ rS E h ab as R w f0 N sn x go gs f' := by
  obtain ⟨b, H, hN⟩ := H
  obtain ⟨g, a, b'⟩ := H.w4 x
  exact ⟨g, a, b, b', hN⟩
theorem C5_reduce (H : rS E h ab as R w f0 N sn sg go gs f) (h17 : 0 < N 17) (l16 : N 16 < 65536 ^ 35) (l17 : N 17 < 65536 ^ 35) : S_X5_reduce E h f (fun g => ∃ M : Nat → Nat, rS E h ab as R w f0 M sn (if N 16 = 0 then 0 else sg) go gs g ∧ M 16 = rN (N 16) (N 17) ∧ M 17 = rD (N 16) (N 17) ∧ keepN N M) := by
  refine T_X5_reduce ?_
  unfold X_X5_reduce_0
  refine U5_isZero 16 H (by decide) ⟨fun c => ?_, fun c => ?_⟩
  · have c := ite_z.mp c
    refine U5_common H (by omega) h17 (fun g M H hg hM => ?_)
    refine U5_copy 24 26 H (by decide) (by decide) (fun g H => ?_)
    have hg0 : 0 < Nat.gcd (N 16) (N 17) := Nat.gcd_pos_of_pos_right _ h17
    have hgl : Nat.gcd (N 16) (N 17) ≤ N 17 := Nat.gcd_le_right _ h17
    refine U5_divide 16 26 H (by decide) (by decide) (by decide) (by decide) (by decide) (by decide) (by rw [va_up_self, hg]; exact hg0) (by rw [va_up_self, hg]; omega) (fun g H => ?_)
    rw [va_up_self, va_up_ne _ _ (by decide), hg, hM 16 (by decide) (by decide)] at H
    refine U5_copy 20 16 H (by decide) (by decide) (fun g H => ?_)
    rw [va_up_ne _ _ (by decide), va_up_self] at H
    refine U5_divide 17 26 H (by decide) (by decide) (by decide) (by decide) (by decide) (by decide) ?_ ?_ (fun g H => ?_)
    · rw [va_up_ne _ _ (by decide), va_up_ne _ _ (by decide), va_up_ne _ _ (by decide), va_up_self]; exact hg0
    · rw [va_up_ne _ _ (by decide), va_up_ne _ _ (by decide), va_up_ne _ _ (by decide), va_up_self]; omega
    · refine U5_copy 20 17 H (by decide) (by decide) (fun g H => ?_)
      refine ⟨_, by rw [if_neg (by omega)]; exact H, ?_, ?_, ?_⟩
      · rw [va_up_ne _ _ (by decide), va_up_ne _ _ (by decide), va_up_ne _ _ (by decide), va_up_self]; rfl
      · rw [va_up_self, va_up_ne _ _ (by decide), va_up_self, va_up_ne _ _ (by decide), va_up_ne _ _ (by decide), va_up_ne _ _ (by decide), va_up_ne _ _ (by decide), hM 17 (by decide) (by decide), va_up_ne _ _ (by decide), va_up_ne _ _ (by decide), va_up_ne _ _ (by decide), va_up_self]; rfl
      · refine keepN.up (keepN.up (keepN.up (keepN.up (keepN.up (keepN.up (keepN.up ?_ (by decide)) (by decide)) (by decide)) (by decide)) (by decide)) (by decide)) (by decide)
        exact fun m hm => hM m (by omega) (by omega)
  · have c := Classical.not_not.mp (fun q => c (ite_z.mpr q))
    refine U5_put 17 1 H (by decide) (by decide) (fun g H => ?_)
    obtain ⟨g', hw, H'⟩ := w4S H 0
    refine ⟨g', hw, _, by rw [if_pos c]; exact H', ?_, ?_, keepN.up keepN.rf (by decide)⟩
    · rw [va_up_ne _ _ (by decide), c, rN_zero]
    · rw [va_up_self, c, rD_zero h17]
theorem U5_reduce {K : hm → Prop} (H : rS E h ab as R w f0 N sn sg go gs f) (h17 : 0 < N 17) (l16 : N 16 < 65536 ^ 35) (l17 : N 17 < 65536 ^ 35) (k : ∀ (g : hm) (M : Nat → Nat), rS E h ab as R w f0 M sn (if N 16 = 0 then 0 else sg) go gs g → M 16 = rN (N 16) (N 17) → M 17 = rD (N 16) (N 17) → keepN N M → K g) : isO f h 5 ∧ S_X5_reduce E h f K := ⟨H.o, MV.mono (C5_reduce H h17 l16 l17) (fun g ⟨M, a, b, c, d⟩ => k g M a b c d)⟩
end REF4
