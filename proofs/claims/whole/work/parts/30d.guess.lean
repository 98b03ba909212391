/-! The class's Naturals: the guess of a quotient's limb. -/
theorem lshl (n : Nat) {k : Nat} (hk : k < 64) : j_lshl (lN n) (nI k) = lN (n * 2 ^ k) := wb_shl n hk
theorem iush_c : ∀ k, k < 32 → ((nI k).toUInt32 &&& Int32.toUInt32 31) = UInt32.ofNat k := by decide +kernel
theorem iush {n k : Nat} (hn : n < 2 ^ 32) (hk : k < 32) : j_iushr (nI n) (nI k) = nI (n / 2 ^ k) := by
  unfold j_iushr
  rw [iush_c k hk]
  apply Int32.toBitVec_inj.mp
  apply BitVec.eq_of_toNat_eq
  show ((nI n).toUInt32 >>> UInt32.ofNat k).toNat = (BitVec.ofNat 32 _).toNat
  have h1 : (UInt32.ofNat k).toNat = k := by
    show (BitVec.ofNat 32 k).toNat = k
    rw [BitVec.toNat_ofNat, Nat.mod_eq_of_lt (by omega)]
  have h2 : (nI n).toUInt32.toNat = n := pk_tn hn
  rw [UInt32.toNat_shiftRight, h1, h2, Nat.mod_eq_of_lt hk, Nat.shiftRight_eq_div_pow, BitVec.toNat_ofNat, Nat.mod_eq_of_lt (Nat.lt_of_le_of_lt (Nat.div_le_self _ _) hn)]
theorem sh_pure {a b m1 m0 : Nat} (hb : 0 < b) (h0 : m0 < a * b) : (a * b * m1 + m0) / b % (a * b) = (m1 % (a * b) % b) * a + m0 / b := by
  have e1 : (a * b * m1 + m0) / b = m0 / b + a * m1 := by
    rw [show a * b * m1 + m0 = m0 + b * (a * m1) by rw [← Nat.mul_assoc, Nat.mul_comm b a, Nat.add_comm], Nat.add_mul_div_left _ _ hb]
  have hc : m0 / b < a := by rw [Nat.div_lt_iff_lt_mul hb]; exact h0
  have ha : 0 < a := Nat.lt_of_le_of_lt (Nat.zero_le _) hc
  rw [e1, Nat.mod_mul, Nat.add_mul_mod_self_left, Nat.mod_eq_of_lt hc, Nat.add_mul_div_left _ _ ha, Nat.div_eq_of_lt hc, Nat.zero_add, Nat.mod_mod_of_dvd _ (Nat.dvd_mul_left b a), Nat.mul_comm, Nat.add_comm]
/-- a digit of a number shifted -/
theorem sh_dg (n t : Nat) {s : Nat} (hs : s < 32) : dg 4294967296 (n * 2 ^ s) (t + 1) = (dg 4294967296 n (t + 1) % 2 ^ (32 - s)) * 2 ^ s + dg 4294967296 n t / 2 ^ (32 - s) := by
  have hB : (4294967296 : Nat) = 2 ^ s * 2 ^ (32 - s) := by rw [← Nat.pow_add, show s + (32 - s) = 32 by omega]
  have e1 : n * 2 ^ s / 4294967296 ^ (t + 1) = n / 4294967296 ^ t / 2 ^ (32 - s) := by
    have : (4294967296 : Nat) ^ (t + 1) = 4294967296 ^ t * 2 ^ (32 - s) * 2 ^ s := by
      rw [Nat.pow_succ, Nat.mul_assoc]
      congr 1
      rw [Nat.mul_comm (2 ^ (32 - s))]
      exact hB
    rw [this, Nat.mul_div_mul_right _ _ (Nat.pow_pos (by decide)), Nat.div_div_eq_div_mul]
  have e2 : n / 4294967296 ^ (t + 1) = n / 4294967296 ^ t / 4294967296 := by rw [Nat.pow_succ, Nat.div_div_eq_div_mul]
  unfold dg
  rw [e1, e2]
  generalize n / 4294967296 ^ t = m
  have e3 := Nat.div_add_mod m 4294967296
  have e4 := Nat.mod_lt m (show 0 < 4294967296 by decide)
  have e5 := sh_pure (a := 2 ^ s) (b := 2 ^ (32 - s)) (m1 := m / 4294967296) (m0 := m % 4294967296) (Nat.pow_pos (by decide)) (by rw [← hB]; exact e4)
  rw [← hB, e3] at e5
  exact e5
theorem dg_up (n k : Nat) : dg 4294967296 (n * 4294967296) (k + 1) = dg 4294967296 n k := by
  rw [dg_succ, Nat.mul_div_cancel _ (by decide)]
section NAT4
variable {E : cx} {no na : Nat → Nat} {K : Nat → Prop} {f0 : hm} {V : Nat → Nat} {i j k : Nat} {l : Int32} {g : Nat → Int32} {f : hm} {n m v : Nat}
theorem limbV_w (hg : dgs g v) (hv : v < 4294967296 ^ 20) {k : Nat} (hk : k ≤ 22) : limbV g (nI k - 2) = lN (dg 4294967296 (v * 4294967296 * 4294967296) k) := by
  match k, hk with
  | 0, _ => rw [limbV, if_pos (by decide), dg_at0, Nat.mul_mod_left]; rfl
  | 1, _ => rw [limbV, if_pos (by decide), dg_up, dg_at0, Nat.mul_mod_left]; rfl
  | k + 2, hk =>
    rw [show (2 : Int32) = nI 2 from rfl, pk_sub (by omega), Nat.add_sub_cancel, dg_up, dg_up]
    rcases Nat.lt_or_ge k 20 with q | q
    · exact limbV_d hg q
    · have : k = 20 := by omega
      subst this
      rw [dg_big hv, limbV, if_neg (by decide), if_pos (by decide)]
      rfl
/-- a limb of the number times 2^s, read at t - 1: times 2^s and 2^32, at t -/
theorem U1_shiftedLimb {C : Int64 → hm → Prop} {x : Int32} {s t : Nat} (hx : x = nI t - 1) (H : raw E f n m l g) (hg : dgs g v) (hv : v < 4294967296 ^ 20) (hs : s < 32) (ht : t ≤ 21) (c : C (lN (dg 4294967296 (v * 2 ^ s * 4294967296) t)) f) : isO f n 1 ∧ S_X1_shiftedLimb E n x (nI s) f C := by
  subst hx
  refine ⟨H.o, T_X1_shiftedLimb ?_⟩
  unfold X_X1_shiftedLimb_0
  refine U1_limb H ?_
  have e1 : nI t - 1 - 1 = nI t - 2 := by rw [Int32.sub_eq_add_neg, Int32.sub_eq_add_neg, Int32.sub_eq_add_neg, Int32.add_assoc]; rfl
  have e2 : nI t - 1 = nI (t + 1) - 2 := by rw [← nI_1, Int32.sub_eq_add_neg, Int32.sub_eq_add_neg, Int32.add_assoc]; rfl
  rw [e1, limbV_w hg hv (by omega)]
  rintro x rfl
  refine U1_limb H ?_
  obtain ⟨x0, hx0⟩ : ∃ x0, dg 4294967296 (v * 4294967296 * 4294967296) t = x0 := ⟨_, rfl⟩
  obtain ⟨x1, hx1⟩ : ∃ x1, dg 4294967296 (v * 4294967296 * 4294967296) (t + 1) = x1 := ⟨_, rfl⟩
  have d1 := dg_lt (B := 4294967296) (by decide) (v * 4294967296 * 4294967296) t
  have d2 := dg_lt (B := 4294967296) (by decide) (v * 4294967296 * 4294967296) (t + 1)
  have sd := sh_dg (v * 4294967296 * 4294967296) t hs
  rw [hx0, hx1] at sd
  rw [hx0] at d1
  rw [hx1] at d2
  have e3 : dg 4294967296 (v * 2 ^ s * 4294967296) t = dg 4294967296 (v * 4294967296 * 4294967296 * 2 ^ s) (t + 1) := by
    rw [← dg_up, Nat.mul_right_comm v, Nat.mul_right_comm (v * 4294967296)]
  rw [← e3] at sd
  rw [e2, limbV_w hg hv (by omega), hx0, hx1]
  have hh : x0 / 2 < 2 ^ 64 := by omega
  have e4 : x0 / 2 / 2 ^ (31 - s) = x0 / 2 ^ (32 - s) := by
    rw [Nat.div_div_eq_div_mul, ← Nat.pow_succ', show (31 - s).succ = 32 - s by omega]
  have e5 : x1 * 2 ^ s % 4294967296 = x1 % 2 ^ (32 - s) * 2 ^ s := by
    rw [show (4294967296 : Nat) = 2 ^ (32 - s) * 2 ^ s by rw [← Nat.pow_add, show 32 - s + s = 32 by omega], Nat.mul_mod_mul_right]
  have hp : x1 * 2 ^ s < 2 ^ 64 := by
    have : 2 ^ s ≤ 2 ^ 31 := Nat.pow_le_pow_right (by decide) (by omega)
    have := Nat.mul_le_mul (Nat.le_of_lt d2) this
    omega
  have hlt : x0 / 2 ^ (32 - s) < 2 ^ s := by
    rw [Nat.div_lt_iff_lt_mul (Nat.pow_pos (by decide)), ← Nat.pow_add, show s + (32 - s) = 32 by omega]
    exact d1
  have hfin : x1 % 2 ^ (32 - s) * 2 ^ s + x0 / 2 ^ (32 - s) < 2 ^ 64 := by
    rw [← sd]
    exact Nat.lt_trans (dg_lt (by decide) _ _) (by decide)
  rw [show (1 : Int32) = nI 1 from rfl, lush (by omega) (by decide), show (31 : Int32) = nI 31 from rfl, pk_sub (by omega), lush (by omega) (by omega), lshl _ (by omega), show (4294967295 : Int64) = lN (2 ^ 32 - 1) from rfl, wb_mask hp (by decide), show (2 : Nat) ^ 32 = 4294967296 from rfl, show (2 : Nat) ^ 1 = 2 from rfl, e4, e5, g_or rfl hlt hfin, ← sd]
  exact c
theorem nlz_end {K : Int32 → hm → Prop} {d a : Nat} (h1 : 1 ≤ d / 2 ^ a) (h4 : d / 2 ^ a < 4) (ha : a ≤ 30) (hK : ∀ s, s < 32 → 2147483648 ≤ d * 2 ^ s → d * 2 ^ s < 4294967296 → K (nI s) f) : K (nI (31 - a) - j_iushr (nI (d / 2 ^ a)) 1) f := by
  have hp : 0 < 2 ^ a := Nat.pow_pos (by decide)
  have hdm := Nat.div_add_mod d (2 ^ a)
  have hm := Nat.mod_lt d hp
  rw [show (1 : Int32) = nI 1 from rfl, iush (by omega) (by decide), show (2 : Nat) ^ 1 = 2 from rfl]
  rcases Nat.lt_or_ge (d / 2 ^ a) 2 with q | q
  · have e : d / 2 ^ a = 1 := by omega
    rw [e, Nat.mul_one] at hdm
    rw [e, show nI (1 / 2) = 0 from rfl, Int32.sub_zero]
    refine hK (31 - a) (by omega) ?_ ?_
    · have : 2 ^ a * 2 ^ (31 - a) ≤ d * 2 ^ (31 - a) := Nat.mul_le_mul_right _ (by omega)
      rw [← Nat.pow_add, show a + (31 - a) = 31 by omega] at this
      exact this
    · have : d * 2 ^ (31 - a) < 2 ^ (a + 1) * 2 ^ (31 - a) := Nat.mul_lt_mul_of_pos_right (by rw [Nat.pow_succ]; omega) (Nat.pow_pos (by decide))
      rw [← Nat.pow_add, show a + 1 + (31 - a) = 32 by omega] at this
      exact this
  · have e : d / 2 ^ a / 2 = 1 := by omega
    rw [e, pk_sub (by omega)]
    have k1 : 2 ^ a * 2 ≤ 2 ^ a * (d / 2 ^ a) := Nat.mul_le_mul_left _ q
    have k2 : 2 ^ a * (d / 2 ^ a) ≤ 2 ^ a * 3 := Nat.mul_le_mul_left _ (by omega)
    refine hK (31 - a - 1) (by omega) ?_ ?_
    · have : 2 ^ (a + 1) * 2 ^ (31 - a - 1) ≤ d * 2 ^ (31 - a - 1) := Nat.mul_le_mul_right _ (by rw [Nat.pow_succ]; omega)
      rw [← Nat.pow_add, show a + 1 + (31 - a - 1) = 31 by omega] at this
      exact this
    · have : d * 2 ^ (31 - a - 1) < 2 ^ (a + 2) * 2 ^ (31 - a - 1) := Nat.mul_lt_mul_of_pos_right (by rw [Nat.pow_add]; omega) (Nat.pow_pos (by decide))
      rw [← Nat.pow_add, show a + 2 + (31 - a - 1) = 32 by omega] at this
      exact this
theorem iush2 {d a b : Nat} (hd : d < 2 ^ 32) (hb : b < 32) : j_iushr (nI (d / 2 ^ a)) (nI b) = nI (d / 2 ^ (a + b)) := by
  rw [iush (Nat.lt_of_le_of_lt (Nat.div_le_self _ _) hd) hb, Nat.div_div_eq_div_mul, ← Nat.pow_add]
theorem ge_up {d a b c : Nat} (hc : c = 2 ^ b) (h : c ≤ d / 2 ^ a) : 1 ≤ d / 2 ^ (a + b) := by
  rw [Nat.pow_add, ← Nat.div_div_eq_div_mul, ← hc]
  exact (Nat.one_le_div_iff (by rw [hc]; exact Nat.pow_pos (by decide))).mpr h
theorem lt_up {d a b c e : Nat} (hc : c = 2 ^ b) (h : d / 2 ^ a < c * e) : d / 2 ^ (a + b) < e := by
  rw [Nat.pow_add, ← Nat.div_div_eq_div_mul, ← hc]
  exact Nat.div_lt_of_lt_mul h
/-- the last two levels of the search -/
theorem nlz_4 {K : Int32 → hm → Prop} {d a : Nat} (hd : d < 2 ^ 31) (h1 : 1 ≤ d / 2 ^ a) (h4 : d / 2 ^ a < 16) (ha : a ≤ 28) (hK : ∀ s, s < 32 → 2147483648 ≤ d * 2 ^ s → d * 2 ^ s < 4294967296 → K (nI s) f) : (nI (d / 2 ^ a) < (4 : Int32) → K (nI (31 - a) - j_iushr (nI (d / 2 ^ a)) 1) f) ∧ (¬ (nI (d / 2 ^ a) < (4 : Int32)) → ∀ x : Int32, x = nI (31 - a) + (-2) → ∀ y : Int32, y = j_iushr (nI (d / 2 ^ a)) 2 → K (x - j_iushr y 1) f) := by
  have hx : d / 2 ^ a < 2 ^ 31 := Nat.lt_of_le_of_lt (Nat.div_le_self _ _) hd
  rw [show (4 : Int32) = nI 4 from rfl, nI_ltI hx (by decide)]
  refine ⟨fun q => nlz_end h1 q (by omega) hK, fun q => ?_⟩
  rintro x rfl y rfl
  rw [show j_iushr (nI (d / 2 ^ a)) 2 = nI (d / 2 ^ (a + 2)) from iush2 (by omega) (by decide), show nI (31 - a) + (-2) = nI (31 - (a + 2)) by rw [show (-2 : Int32) = -nI 2 from rfl, ← Int32.sub_eq_add_neg, pk_sub (by omega)]; congr 1]
  exact nlz_end (ge_up (c := 4) rfl (by omega)) (lt_up (c := 4) rfl (by omega)) (by omega) hK
theorem nlz_16 {K : Int32 → hm → Prop} {d a : Nat} (hd : d < 2 ^ 31) (h1 : 1 ≤ d / 2 ^ a) (h4 : d / 2 ^ a < 256) (ha : a ≤ 24) (hK : ∀ s, s < 32 → 2147483648 ≤ d * 2 ^ s → d * 2 ^ s < 4294967296 → K (nI s) f) : (nI (d / 2 ^ a) < (16 : Int32) → ((nI (d / 2 ^ a) < (4 : Int32) → K (nI (31 - a) - j_iushr (nI (d / 2 ^ a)) 1) f) ∧ (¬ (nI (d / 2 ^ a) < (4 : Int32)) → ∀ x : Int32, x = nI (31 - a) + (-2) → ∀ y : Int32, y = j_iushr (nI (d / 2 ^ a)) 2 → K (x - j_iushr y 1) f))) ∧ (¬ (nI (d / 2 ^ a) < (16 : Int32)) → ∀ x : Int32, x = nI (31 - a) + (-4) → ∀ y : Int32, y = j_iushr (nI (d / 2 ^ a)) 4 → ((y < (4 : Int32) → K (x - j_iushr y 1) f) ∧ (¬ (y < (4 : Int32)) → ∀ x' : Int32, x' = x + (-2) → ∀ y' : Int32, y' = j_iushr y 2 → K (x' - j_iushr y' 1) f))) := by
  have hx : d / 2 ^ a < 2 ^ 31 := Nat.lt_of_le_of_lt (Nat.div_le_self _ _) hd
  rw [show (16 : Int32) = nI 16 from rfl, nI_ltI hx (by decide)]
  refine ⟨fun q => nlz_4 hd h1 q (by omega) hK, fun q => ?_⟩
  rintro x rfl y rfl
  rw [show j_iushr (nI (d / 2 ^ a)) 4 = nI (d / 2 ^ (a + 4)) from iush2 (by omega) (by decide), show nI (31 - a) + (-4) = nI (31 - (a + 4)) by rw [show (-4 : Int32) = -nI 4 from rfl, ← Int32.sub_eq_add_neg, pk_sub (by omega)]; congr 1]
  exact nlz_4 hd (ge_up (c := 16) rfl (by omega)) (lt_up (c := 16) rfl (by omega)) (by omega) hK
theorem U1_nlz {K : Int32 → hm → Prop} {d : Nat} (hd : d < 4294967296) (h0 : 0 < d) (hK : ∀ s, s < 32 → 2147483648 ≤ d * 2 ^ s → d * 2 ^ s < 4294967296 → K (nI s) f) : S_J6_numberOfLeadingZeros_0f7a4 E (nI d) f K := by
  refine T_J6_numberOfLeadingZeros_0f7a4 ?_
  unfold X_J6_numberOfLeadingZeros_0f7a4_0
  rcases Nat.lt_or_ge d 2147483648 with q | q
  · have e0 : d = d / 2 ^ 0 := by simp
    refine ⟨fun _ => ⟨fun p => ⟨fun p2 => ?_, fun p2 => ?_⟩, fun p => ?_⟩, fun w => absurd (nI_lt (a := 0) h0 q) w⟩
    · rw [show (256 : Int32) = nI 256 from rfl, nI_ltI q (by decide)] at p2
      have := nlz_16 (a := 0) q (by omega) (by omega) (by omega) hK
      rw [← e0] at this
      exact this
    · rw [show (256 : Int32) = nI 256 from rfl, nI_ltI q (by decide)] at p2
      rw [show (65536 : Int32) = nI 65536 from rfl, nI_ltI q (by decide)] at p
      rintro x rfl y rfl
      rw [show j_iushr (nI d) 8 = nI (d / 2 ^ 8) from iush hd (by decide), show (31 : Int32) + (-8) = nI (31 - 8) from rfl]
      exact nlz_16 (a := 8) q (by omega) (by omega) (by omega) hK
    · rw [show (65536 : Int32) = nI 65536 from rfl, nI_ltI q (by decide)] at p
      rintro x rfl y rfl
      rw [show j_iushr (nI d) 16 = nI (d / 2 ^ 16) from iush hd (by decide), show (31 : Int32) + (-16) = nI (31 - 16) from rfl]
      have hx : d / 2 ^ 16 < 2 ^ 31 := by omega
      refine ⟨fun p2 => ?_, fun p2 => ?_⟩
      · rw [show (256 : Int32) = nI 256 from rfl, nI_ltI hx (by decide)] at p2
        exact nlz_16 (a := 16) q (by omega) (by omega) (by omega) hK
      · rw [show (256 : Int32) = nI 256 from rfl, nI_ltI hx (by decide)] at p2
        rintro x rfl y rfl
        rw [show j_iushr (nI (d / 2 ^ 16)) 8 = nI (d / 2 ^ 24) from iush2 (by omega) (by decide), show nI (31 - 16) + (-8) = nI (31 - 24) from rfl]
        exact nlz_16 (a := 24) q (by omega) (by omega) (by omega) hK
  · have hti : (nI d).toInt = (d : Int) - 4294967296 := by
      have := BitVec.toInt_eq_toNat_cond (nI d).toBitVec
      rw [pk_tn hd] at this
      have e : (nI d).toInt = (nI d).toBitVec.toInt := rfl
      rw [e, this, if_neg (by omega)]
      rfl
    refine ⟨fun w => ?_, fun _ => ⟨fun _ => hK 0 (by decide) (by omega) (by omega), fun w => ?_⟩⟩
    · rw [Int32.lt_iff_toInt_lt, hti] at w
      have : (0 : Int32).toInt = 0 := rfl
      omega
    · have := congrArg Int32.toInt w
      rw [hti] at this
      have : (0 : Int32).toInt = 0 := rfl
      omega
end NAT4
