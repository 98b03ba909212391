/-! The class's Naturals: the guess of a quotient's limb, at most one too great. -/
section NAT5
variable {E : cx} {no na : Nat → Nat} {K : Nat → Prop} {f0 : hm} {V : Nat → Nat} {i j k : Nat} {l : Int32} {g : Nat → Int32} {f : hm} {n m v : Nat}
theorem uq_pure {a b t : Nat} (h0 : 0 < b) (ht : t = a / 2 / b) : t * 2 * b ≤ a ∧ a - t * 2 * b < 2 * b ∧ (a - t * 2 * b < b → a / b = t * 2) ∧ (¬ a - t * 2 * b < b → a / b = t * 2 + 1) := by
  have h1 := Nat.div_add_mod (a / 2) b
  have h2 := Nat.mod_lt (a / 2) h0
  rw [← ht] at h1
  have e1 : t * 2 * b = 2 * (b * t) := by rw [Nat.mul_assoc, Nat.mul_comm t, Nat.mul_assoc]
  have e2 : (t * 2 + 1) * b = 2 * (b * t) + b := by rw [Nat.add_mul, e1, Nat.one_mul]
  have e3 : (t * 2 + 1 + 1) * b = 2 * (b * t) + b + b := by rw [Nat.add_mul, e2, Nat.one_mul]
  refine ⟨by rw [e1]; omega, by rw [e1]; omega, fun q => ?_, fun q => ?_⟩
  · apply Nat.div_eq_of_lt_le
    · rw [e1]; omega
    · rw [e2]; rw [e1] at q; omega
  · apply Nat.div_eq_of_lt_le
    · rw [e2]; rw [e1] at q; omega
    · rw [e3]; omega
theorem U1_uq {C : Int64 → hm → Prop} {a b : Nat} (ha : a < 2 ^ 64) (h0 : 0 < b) (hb : b < 4294967296) (c : C (lN (a / b)) f) : S_X1_unsignedQuotient E (lN a) (lN b) f C := by
  refine T_X1_unsignedQuotient ?_
  unfold X_X1_unsignedQuotient_0
  have eb : (lN b).toInt = (b : Int) := pk_lT (by omega)
  have e1 : 0 ≤ lg_cmp (lN b) 1 := by
    rw [lgc_ge, eb]
    have : (1 : Int64).toInt = 1 := rfl
    omega
  refine ⟨fun _ => ⟨fun w => ?_, ?_⟩, fun w => absurd e1 w⟩
  · have := congrArg Int64.toInt w
    rw [eb] at this
    have e0 : (0 : Int64).toInt = 0 := rfl
    omega
  · rintro x rfl
    obtain ⟨p1, p2, p3, p4⟩ := uq_pure (a := a) h0 rfl
    have hd : a / 2 / b ≤ a / 2 := Nat.div_le_self _ _
    rw [show (1 : Int32) = nI 1 from rfl, lush ha (by decide), show (2 : Nat) ^ 1 = 2 from rfl, pk_lDiv (by omega) h0 (by omega), lshl _ (by decide), show (2 : Nat) ^ 1 = 2 from rfl, lN_mul, lN_sub p1, lgc_lt, pk_lT (by omega), eb]
    refine ⟨fun q => ?_, fun q => ?_⟩
    · rw [p3 (by omega)] at c; exact c
    · rw [p4 (by omega)] at c
      rw [lN_1]; exact c
theorem min_add {a : Nat} (ha : a < 2 ^ 64) : (lN a + (-9223372036854775808)).toInt = (a : Int) - 2 ^ 63 := by
  rw [show (-9223372036854775808 : Int64) = lN (2 ^ 63) from rfl, lN_add, wb_mod, lN_ti (Nat.mod_lt _ (by decide))]
  split <;> omega
theorem U1_isBelow {C : Int32 → hm → Prop} {a b : Nat} (ha : a < 2 ^ 64) (hb : b < 2 ^ 64) (c : C (if a < b then 1 else 0) f) : S_X1_isBelow E (lN a) (lN b) f C := by
  refine T_X1_isBelow ?_
  unfold X_X1_isBelow_0
  rw [lgc_ge, min_add ha, min_add hb]
  refine ⟨fun q => ⟨nb0, ?_⟩, fun q => ⟨nb1, ?_⟩⟩
  · rw [if_neg (by omega)] at c; exact c
  · rw [if_pos (by omega)] at c; exact c
theorem rv_lt {r u : Nat} (h : r < 4294967296) (h2 : u < 4294967296) : r * 4294967296 + u < 2 ^ 64 := by omega
theorem U1_guess {C : Int64 → hm → Prop} {X D p y s q : Nat} (H : raw E f n m l g) (hg : dgs g X) (hX : X < 4294967296 ^ 20) (hs : s < 32) (hp : p + y ≤ 19) (h1 : X < D * 4294967296 ^ p * 4294967296) (hn : 2147483648 * 4294967296 ^ y ≤ D * 2 ^ s) (hD : D * 2 ^ s < 4294967296 ^ (y + 1)) (hq : X / (D * 4294967296 ^ p) = q) (c : ∀ gu, q ≤ gu → gu ≤ q + 1 → gu < 4294967296 → C (lN gu) f) :
    isO f n 1 ∧ S_X1_guessQuotient E n (nI (p + (y + 1))) (nI s) (lN (dg 4294967296 (D * 2 ^ s * 4294967296) (y + 1))) (lN (dg 4294967296 (D * 2 ^ s * 4294967296) y)) f C := by
  refine ⟨H.o, ?_⟩
  obtain ⟨Y, hY⟩ : ∃ Y, X * 2 ^ s * 4294967296 = Y := ⟨_, rfl⟩
  obtain ⟨D2, hD2⟩ : ∃ D2, D * 2 ^ s * 4294967296 = D2 := ⟨_, rfl⟩
  obtain ⟨u1, hu1⟩ : ∃ u, dg 4294967296 Y (p + y + 2) = u := ⟨_, rfl⟩
  obtain ⟨u2, hu2⟩ : ∃ u, dg 4294967296 Y (p + y + 1) = u := ⟨_, rfl⟩
  obtain ⟨u3, hu3⟩ : ∃ u, dg 4294967296 Y (p + y) = u := ⟨_, rfl⟩
  obtain ⟨v1, hv1⟩ : ∃ u, dg 4294967296 D2 (y + 1) = u := ⟨_, rfl⟩
  obtain ⟨v2, hv2⟩ : ∃ u, dg 4294967296 D2 y = u := ⟨_, rfl⟩
  have l1 : u1 < 4294967296 := by rw [← hu1]; exact dg_lt (by decide) _ _
  have l2 : u2 < 4294967296 := by rw [← hu2]; exact dg_lt (by decide) _ _
  have l3 : u3 < 4294967296 := by rw [← hu3]; exact dg_lt (by decide) _ _
  have l4 : v1 < 4294967296 := by rw [← hv1]; exact dg_lt (by decide) _ _
  have l5 : v2 < 4294967296 := by rw [← hv2]; exact dg_lt (by decide) _ _
  have P0 : 0 < 4294967296 ^ (p + y) := Nat.pow_pos (by decide)
  have hD2lt : D2 < 4294967296 ^ (y + 2) := by
    rw [← hD2, Nat.pow_succ]
    exact Nat.mul_lt_mul_of_pos_right hD (by decide)
  have hYlt : Y < 4294967296 ^ (p + y + 3) := by
    have a1 : Y < D * 4294967296 ^ p * 4294967296 * 2 ^ s * 4294967296 := by
      rw [← hY]
      exact Nat.mul_lt_mul_of_pos_right (Nat.mul_lt_mul_of_pos_right h1 (Nat.pow_pos (by decide))) (by decide)
    have a2 : D * 4294967296 ^ p * 4294967296 * 2 ^ s * 4294967296 = D * 2 ^ s * (4294967296 ^ p * 4294967296 * 4294967296) := by
      ac_rfl
    have a3 : D * 2 ^ s * (4294967296 ^ p * 4294967296 * 4294967296) ≤ 4294967296 ^ (y + 1) * (4294967296 ^ p * 4294967296 * 4294967296) := Nat.mul_le_mul_right _ (Nat.le_of_lt hD)
    have a4 : 4294967296 ^ (y + 1) * (4294967296 ^ p * 4294967296 * 4294967296) = 4294967296 ^ (p + y + 3) := by
      rw [← Nat.pow_succ, ← Nat.pow_succ, ← Nat.pow_add]
      exact congrArg _ (by omega)
    omega
  have t1 : Y / 4294967296 ^ (p + y + 2) = u1 := by
    rw [dg_top, Nat.div_eq_of_lt hYlt, hu1, Nat.mul_zero, Nat.zero_add]
  have t2 : Y / 4294967296 ^ (p + y + 1) = u1 * 4294967296 + u2 := by rw [dg_top, t1, hu2, Nat.mul_comm]
  have t3 : Y / 4294967296 ^ (p + y) = (u1 * 4294967296 + u2) * 4294967296 + u3 := by rw [dg_top, t2, hu3, Nat.mul_comm]
  have eY : Y = ((u1 * 4294967296 + u2) * 4294967296 + u3) * 4294967296 ^ (p + y) + Y % 4294967296 ^ (p + y) := by
    rw [← t3, Nat.mul_comm, Nat.div_add_mod]
  have rY : Y % 4294967296 ^ (p + y) < 4294967296 ^ (p + y) := Nat.mod_lt _ P0
  have s1 : D2 / 4294967296 ^ (y + 1) = v1 := by
    rw [dg_top, Nat.div_eq_of_lt hD2lt, hv1, Nat.mul_zero, Nat.zero_add]
  have s2 : D2 / 4294967296 ^ y = v1 * 4294967296 + v2 := by rw [dg_top, s1, hv2, Nat.mul_comm]
  have eE : D2 * 4294967296 ^ p = (v1 * 4294967296 + v2) * 4294967296 ^ (p + y) + D2 % 4294967296 ^ y * 4294967296 ^ p := by
    have e := Nat.div_add_mod D2 (4294967296 ^ y)
    rw [s2] at e
    rw [Nat.pow_add, Nat.mul_comm (4294967296 ^ p), ← Nat.mul_assoc, ← Nat.add_mul, Nat.mul_comm (v1 * 4294967296 + v2), e]
  have rE : D2 % 4294967296 ^ y * 4294967296 ^ p < 4294967296 ^ (p + y) := by
    rw [Nat.pow_add, Nat.mul_comm (4294967296 ^ p)]
    exact Nat.mul_lt_mul_of_pos_right (Nat.mod_lt _ (Nat.pow_pos (by decide))) (Nat.pow_pos (by decide))
  have hv : 2147483648 ≤ v1 := by
    rw [← s1, Nat.le_div_iff_mul_le (Nat.pow_pos (by decide)), ← hD2, Nat.pow_succ, ← Nat.mul_assoc]
    exact Nat.mul_le_mul_right _ hn
  have eq : Y / (D2 * 4294967296 ^ p) = q := by
    have b1 : Y = X * (2 ^ s * 4294967296) := by rw [← hY, Nat.mul_assoc]
    have b2 : D2 * 4294967296 ^ p = D * 4294967296 ^ p * (2 ^ s * 4294967296) := by rw [← hD2]; ac_rfl
    rw [b1, b2, Nat.mul_div_mul_right _ _ (Nat.mul_pos (Nat.pow_pos (by decide)) (by decide)), hq]
  have hqB : q < 4294967296 := by
    rw [← hq]
    exact Nat.div_lt_of_lt_mul h1
  have hqB' : Y / (D2 * 4294967296 ^ p) < 4294967296 := by rw [eq]; exact hqB
  have hYE : Y < D2 * 4294967296 ^ p * 4294967296 := by
    rcases Nat.eq_zero_or_pos (D2 * 4294967296 ^ p) with z | z
    · exfalso
      have : (v1 * 4294967296 + v2) * 4294967296 ^ (p + y) = 0 := by omega
      rcases Nat.mul_eq_zero.mp this with w | w <;> omega
    · rw [Nat.mul_comm]
      exact (Nat.div_lt_iff_lt_mul z).mp hqB'
  have hu : u1 ≤ v1 := kn_same eY rE eE l5 hYE
  have hu12 : u1 * 4294967296 + u2 < 2 ^ 64 := by omega
  rw [hD2, hv1, hv2]
  refine T_X1_guessQuotient (fun t a x1 x2 x3 x5 x7 x9 x11 x13 x15 x17 f' => ∃ gu r st : Nat, t = 2 - st ∧ st ≤ 2 ∧ x3 = lN v1 ∧ x5 = lN v2 ∧ x11 = lN u3 ∧ x13 = lN gu ∧ x15 = lN r ∧ x17 = nI st ∧ f' = f ∧ gu * v1 + r = u1 * 4294967296 + u2 ∧ q ≤ gu ∧ gu + st ≤ q + 2 ∧ gu < 4294967296 ∧ r < 8589934592) ?_ ?_
  · unfold X_X1_guessQuotient_0
    have k1 : nI (p + (y + 1)) = nI (p + y + 2) - 1 := (nI_pred _).symm
    have k2 : nI (p + (y + 1)) - 1 = nI (p + y + 1) - 1 := rfl
    have k3 : nI (p + (y + 1)) - 2 = nI (p + y) - 1 := by
      rw [show nI (p + (y + 1)) = nI (p + y) + 1 from (nI_1 _).symm, Int32.sub_eq_add_neg, Int32.sub_eq_add_neg, Int32.add_assoc]
      rfl
    refine U1_shiftedLimb k1 H hg hX hs (by omega) ?_
    refine U1_shiftedLimb k2 H hg hX hs (by omega) ?_
    refine U1_shiftedLimb k3 H hg hX hs (by omega) ?_
    rw [hY, hu1, hu2, hu3]
    rintro x rfl
    rw [lgc_ge, pk_lT (by omega), pk_lT (by omega), lN_add]
    refine ⟨fun w => ?_, fun w => ?_⟩
    · have : u1 = v1 := by omega
      subst this
      have e0 : 4294967295 * u1 + (u2 + u1) = u1 * 4294967296 + u2 := by omega
      exact ⟨_, 4294967295, u2 + u1, 0, rfl, by omega, rfl, rfl, rfl, rfl, rfl, rfl, rfl, e0, by omega, by have := kn_two eY rE eE l5 (by omega) (by omega) hqB' e0; rw [eq] at this; omega, by decide, by omega⟩
    · rintro x rfl
      rw [show j_lshl (lN u1) 32 = lN (u1 * 2 ^ 32) from lshl u1 (by decide), g_or (k := 32) rfl l2 hu12]
      refine U1_uq hu12 (by omega) l4 ?_
      have e1 := Nat.div_add_mod (u1 * 4294967296 + u2) v1
      have e2 := Nat.mod_lt (u1 * 4294967296 + u2) (show 0 < v1 by omega)
      obtain ⟨gu, hgu⟩ : ∃ gu, (u1 * 4294967296 + u2) / v1 = gu := ⟨_, rfl⟩
      obtain ⟨r, hr⟩ : ∃ r, (u1 * 4294967296 + u2) % v1 = r := ⟨_, rfl⟩
      rw [hgu, hr, Nat.mul_comm] at e1
      rw [hr] at e2
      rw [show (2 : Nat) ^ 32 = 4294967296 from rfl, hgu]
      rintro x rfl
      rw [lN_mul, lN_sub (by omega), show u1 * 4294967296 + u2 - gu * v1 = r by omega]
      have hgB : gu < 4294967296 := by
        rw [← hgu]
        apply Nat.div_lt_of_lt_mul
        have : (u1 + 1) * 4294967296 ≤ v1 * 4294967296 := Nat.mul_le_mul_right _ (by omega)
        omega
      have kf := kn_first eY rY l3 eE e1 e2
      have kt := kn_two eY rE eE l5 (by omega) (by omega) hqB' e1
      rw [eq] at kf kt
      exact ⟨_, gu, r, 0, rfl, by omega, rfl, rfl, rfl, rfl, rfl, rfl, rfl, e1, kf, by omega, hgB, by omega⟩
  · rintro t a x1 x2 x3 x5 x7 x9 x11 x13 x15 x17 f' ⟨gu, r, st, rfl, hst, rfl, rfl, rfl, rfl, rfl, rfl, rfl, e1, g1, g2, g3, g4⟩
    unfold X_X1_guessQuotient_76
    rw [show (2 : Int32) = nI 2 from rfl, nI_leI (by decide) (by omega), lgc_ge, pk_lT (show r < 2 ^ 63 by omega), show (4294967296 : Int64).toInt = 4294967296 from rfl]
    have near : gu * v2 ≤ r * 4294967296 + u3 → gu ≤ q + 1 := fun w => by
      have := kn_near (by decide) eY rE eE (by omega) hqB' e1 w
      rwa [eq] at this
    have gv : gu * v2 ≤ 4294967295 * 4294967295 := Nat.mul_le_mul (by omega) (by omega)
    have gv2 : gu * v2 < 2 ^ 64 := Nat.lt_of_le_of_lt gv (by decide)
    have rv : r < 4294967296 → r * 4294967296 + u3 < 2 ^ 64 := fun w => rv_lt w l3
    refine ⟨fun w => c gu g1 (by omega) g3, fun w => ⟨fun z => c gu g1 (near (by omega)) g3, fun z => ?_⟩⟩
    have hrB : r < 4294967296 := by omega
    rw [show j_lshl (lN r) 32 = lN (r * 2 ^ 32) from lshl r (by decide), g_or (k := 32) rfl l3 (rv hrB), lN_mul]
    refine U1_isBelow (rv hrB) gv2 ?_
    rw [show (2 : Nat) ^ 32 = 4294967296 from rfl]
    refine ⟨fun u => ?_, fun u => ?_⟩
    · have ht : r * 4294967296 + u3 < gu * v2 := by
        rcases Nat.lt_or_ge (r * 4294967296 + u3) (gu * v2) with q' | q'
        · exact q'
        · rw [if_neg (by omega)] at u; exact absurd rfl u
      have ko := kn_over eY rY eE e1 ht
      rw [eq] at ko
      rintro x rfl y' rfl z' rfl
      rw [show (1 : Int64) = lN 1 from rfl, lN_sub (by omega), lN_add]
      refine ⟨2 - (st + 1), by omega, gu - 1, r + v1, st + 1, rfl, by omega, rfl, rfl, rfl, rfl, rfl, nI_1 st, rfl, ?_, by omega, by omega, by omega, by omega⟩
      obtain ⟨g', rfl⟩ : ∃ g', gu = g' + 1 := ⟨gu - 1, by omega⟩
      rw [← e1, Nat.add_sub_cancel, Nat.add_mul]
      omega
    · have ht : ¬ r * 4294967296 + u3 < gu * v2 := by
        intro w'
        rw [if_pos w'] at u
        exact absurd u (by decide)
      exact c gu g1 (near (by omega)) g3
end NAT5
