/-! The class: sum, product, whole part. -/
theorem B8 {n w : Nat} (hw : w ≤ 8) (h : n < 4294967296 ^ w) : n < 4294967296 ^ 8 := Nat.lt_of_lt_of_le h (Nat.pow_le_pow_right (by decide) hw)
theorem B816 {m n : Nat} (h : m < 4294967296 ^ 8) (h2 : n < 4294967296 ^ 8) : m * n < 4294967296 ^ 16 := by
  have := Nat.mul_lt_mul'' h h2
  rw [← Nat.pow_add] at this
  exact this
theorem B16_18 : (4294967296 : Nat) ^ 16 ≤ 4294967296 ^ 18 := Nat.pow_le_pow_right (by decide) (by decide)
theorem B8_19 {n : Nat} (h : n < 4294967296 ^ 8) : n < 4294967296 ^ 19 := Nat.lt_of_lt_of_le h (Nat.pow_le_pow_right (by decide) (by decide))
theorem add16 {m n : Nat} (h : m < 4294967296 ^ 16) (h2 : n < 4294967296 ^ 16) : m + n < 4294967296 ^ 17 := by
  rw [Nat.pow_succ]
  omega
theorem gdiv_lt {m n : Nat} {g B : Nat} (h : m < B) : m / g < B := Nat.lt_of_le_of_lt (Nat.div_le_self _ _) h
/-- what the operations leave of the Naturals: all but the result's and the helpers' -/
def kpt (V V' : Nat → Nat) : Prop := ∀ k, k < 18 → V' k = V k
section CJ
variable {E : cx} {ad : Nat → Nat} {R : Nat} {W : Int32} {f00 : hm} {V : Nat → Nat} {sg : Nat → Int32} {a b : Nat} {u l ou ol : Int64} {g o x i j k : Nat} {f f' : hm}
theorem U4_addUp {C : hm → Prop} {z1 z2 : Int} {d1 d2 : Nat} (H : cS E ad R W f00 V sg a b u l ou ol g o x f) (hab : cP a b) (hi : i < R) (hj : j < R) (hs : sg i = sgI z1) (hn1 : V (2 * i) = z1.natAbs) (hn2 : V (2 * j) = z2.natAbs) (hd1 : V (2 * i + 1) = d1) (hd2 : V (2 * j + 1) = d2) (p1 : 0 < d1) (p2 : 0 < d2) (c1 : Nat.gcd z1.natAbs d1 = 1) (c2 : Nat.gcd z2.natAbs d2 = 1) (b1 : z1.natAbs < 4294967296 ^ 8) (b2 : z2.natAbs < 4294967296 ^ 8) (b3 : d1 < 4294967296 ^ 8) (b4 : d2 < 4294967296 ^ 8)
    (c : ∀ (V' : Nat → Nat) (a b : Nat) f', cP a b → kpt V V' → V' 18 = rN (z1 * d2 + z2 * d1).natAbs (d1 * d2) → V' 19 = rD (z1 * d2 + z2 * d1).natAbs (d1 * d2) → cS E ad R W f00 V' (va_up sg 9 (sgI (z1 * d2 + z2 * d1))) a b u l ou ol g o x f' → C f') : isO f (ad 0) 4 ∧ S_X4_addUp E (ad 0) (ad (4 + i)) (ad (4 + j)) (sgI z2) f C := by
  refine ⟨H.o0, T_X4_addUp ?_⟩
  unfold X_X4_addUp_0
  have hR := H.R8
  have fi : cF R i := Or.inl hi
  have fj : cF R j := Or.inl hj
  have kk : ∀ k, 16 ≤ k → k < 38 → cK R k := fun k h1 h2 => cK_w h1 h2
  refine ⟨_, H.f7, _, H.q2 fi, U1_become H.ns (kk 31 (by decide) (by decide)) (cK_F fi).2 (by omega) (fun f1 n1 => ?_)⟩
  have H1 := H.op n1
  refine ⟨_, H1.f9, _, H1.q2 fj, U1_become H1.ns (kk 33 (by decide) (by decide)) (cK_F fj).2 (by omega) (fun f2 n2 => ?_)⟩
  have H2 := H1.op n2
  rw [va_up_ne _ _ (show 2 * j + 1 ≠ 31 by omega), hd1, hd2] at H2
  refine ⟨_, H2.f4, _, H2.f7, _, H2.f9, U3_reduce H2 hab (kk 31 (by decide) (by decide)) (kk 33 (by decide) (by decide)) (by decide) (by decide) (by decide) ?_ ?_ (fun V3 a3 b3' f3 hab3 r3 H3 => ?_)⟩
  · rw [va_up_ne _ _ (by decide), va_up_self]; exact B8_19 b3
  · rw [va_up_self]; exact B8_19 b4
  · obtain ⟨r31, r33, ra, rk⟩ := r3
    rw [va_up_ne _ _ (show (31 : Nat) ≠ 33 by decide), va_up_self, va_up_self] at r31 r33 ra
    have g0 : 0 < Nat.gcd d1 d2 := Nat.gcd_pos_of_pos_left _ p1
    have x1 : Nat.gcd d1 d2 * (d1 / Nat.gcd d1 d2) = d1 := Nat.mul_div_cancel' (Nat.gcd_dvd_left d1 d2)
    have x2 : Nat.gcd d1 d2 * (d2 / Nat.gcd d1 d2) = d2 := Nat.mul_div_cancel' (Nat.gcd_dvd_right d1 d2)
    have e1b : d1 / Nat.gcd d1 d2 < 4294967296 ^ 8 := Nat.lt_of_le_of_lt (Nat.div_le_self _ _) b3
    have e2b : d2 / Nat.gcd d1 d2 < 4294967296 ^ 8 := Nat.lt_of_le_of_lt (Nat.div_le_self _ _) b4
    have gb : Nat.gcd d1 d2 < 4294967296 ^ 8 := Nat.lt_of_le_of_lt (Nat.gcd_le_left _ p1) b3
    have fs := fun t h1 h2 => fr_sum (t := t) c1 c2 p1 p2 h1 h2
    obtain ⟨gd, hgd⟩ : ∃ gd, Nat.gcd d1 d2 = gd := ⟨_, rfl⟩
    obtain ⟨e1, he1⟩ : ∃ e1, d1 / gd = e1 := ⟨_, rfl⟩
    obtain ⟨e2, he2⟩ : ∃ e2, d2 / gd = e2 := ⟨_, rfl⟩
    rw [hgd, he1] at r31 x1 e1b
    rw [hgd, he2] at r33 x2 e2b
    rw [hgd] at ra g0 gb
    rw [hgd, he1, he2] at fs
    have q1 : 0 < e1 := by
      rcases Nat.eq_zero_or_pos e1 with w | w
      · rw [w] at x1; omega
      · exact w
    have q2 : 0 < e2 := by
      rcases Nat.eq_zero_or_pos e2 with w | w
      · rw [w] at x2; omega
      · exact w
    have hab3' : (a3 = 20 ∨ a3 = 21) := by unfold cP at hab3; omega
    have old : ∀ k, k < 18 → V3 k = V k := fun k hk => by rw [rk k (by omega) (by omega) (by omega) (by omega) (by omega), va_up_ne _ _ (by omega), va_up_ne _ _ (by omega)]
    have k34 := kk 34 (by decide) (by decide)
    refine ⟨_, H3.f10, _, H3.f4, _, H3.d0, U1_become H3.ns k34 (kk a3 (by omega) (by omega)) (by omega) (fun f4 n4 => ?_)⟩
    have H4 := H3.op n4
    rw [ra] at H4
    refine ⟨_, H4.f6, _, H4.q1 fi, _, H4.f9, U1_becomeProduct H4.ns (kk 30 (by decide) (by decide)) (cK_F fi).1 (kk 33 (by decide) (by decide)) (by omega) (by decide) ?_ (fun f5 n5 => ?_)⟩
    · rw [va_up_ne _ _ (by omega), va_up_ne _ _ (by omega), old _ (by omega), hn1, r33]
      exact Nat.lt_of_lt_of_le (B816 b1 e2b) B16_18
    have H5 := H4.op n5
    rw [va_up_ne _ _ (show 2 * i ≠ 34 by omega), va_up_ne _ _ (show (33 : Nat) ≠ 34 by decide), old _ (by omega), hn1, r33] at H5
    refine ⟨_, H5.f8, _, H5.q1 fj, _, H5.f7, U1_becomeProduct H5.ns (kk 32 (by decide) (by decide)) (cK_F fj).1 (kk 31 (by decide) (by decide)) (by omega) (by decide) ?_ (fun f6 n6 => ?_)⟩
    · rw [va_up_ne _ _ (by omega), va_up_ne _ _ (by omega), va_up_ne _ _ (by omega), va_up_ne _ _ (by omega), old _ (by omega), hn2, r31]
      exact Nat.lt_of_lt_of_le (B816 b2 e1b) B16_18
    have H6 := H5.op n6
    rw [va_up_ne _ _ (show 2 * j ≠ 30 by omega), va_up_ne _ _ (show 2 * j ≠ 34 by omega), va_up_ne _ _ (show (31 : Nat) ≠ 30 by decide), va_up_ne _ _ (show (31 : Nat) ≠ 34 by decide), old _ (by omega), hn2, r31] at H6
    have a1 : z1.natAbs * e2 = (z1 * (e2 : Int)).natAbs := (abs_mulN z1 e2).symm
    have a2 : z2.natAbs * e1 = (z2 * (e1 : Int)).natAbs := (abs_mulN z2 e1).symm
    refine ⟨_, H6.q0 fi, ?_⟩
    rw [hs, ← sgI_mulN (z := z1) q2, ← sgI_mulN (z := z2) q1]
    refine U4_upper H6 ?_ ?_ ?_ (fun f7 H7 => ?_)
    · rw [va_up_ne _ _ (by decide), va_up_self, a1]
    · rw [va_up_self, a2]
    · rw [va_up_self, va_up_ne _ _ (by decide), va_up_self]
      have := add16 (B816 b1 e2b) (B816 b2 e1b)
      have : (4294967296 : Nat) ^ 17 ≤ 4294967296 ^ 20 := Nat.pow_le_pow_right (by decide) (by decide)
      omega
    have ht : (z1 * (e2 : Int) + z2 * (e1 : Int)) * (gd : Int) = z1 * (d2 : Int) + z2 * (d1 : Int) := by
      rw [← x1, ← x2, Int.natCast_mul, Int.natCast_mul]
      grind
    have hsg : sgI (z1 * (e2 : Int) + z2 * (e1 : Int)) = sgI (z1 * (d2 : Int) + z2 * (d1 : Int)) := by rw [← ht, sgI_mulN g0]
    have hta : (z1 * (e2 : Int) + z2 * (e1 : Int)).natAbs * gd = (z1 * (d2 : Int) + z2 * (d1 : Int)).natAbs := by rw [← ht, abs_mulN]
    have tb : (z1 * (e2 : Int) + z2 * (e1 : Int)).natAbs < 4294967296 ^ 17 := by
      have := add16 (B816 b1 e2b) (B816 b2 e1b)
      rw [a1, a2] at this
      have := Int.natAbs_add_le (z1 * (e2 : Int)) (z2 * (e1 : Int))
      omega
    have f1' := fs (z1 * (e2 : Int) + z2 * (e1 : Int)).natAbs (fun k k1 k2 => by
      rw [a2] at k2
      rw [a1]
      have h3 : (k : Int) ∣ z1 * (e2 : Int) + z2 * (e1 : Int) := Int.ofNat_dvd_left.mpr k1
      have h4 : (k : Int) ∣ z2 * (e1 : Int) := Int.ofNat_dvd_left.mpr k2
      exact Int.ofNat_dvd_left.mp ((Int.dvd_iff_dvd_of_dvd_add h3).mpr h4)) (fun k k1 k2 => by
      rw [a1] at k2
      rw [a2]
      have h3 : (k : Int) ∣ z1 * (e2 : Int) + z2 * (e1 : Int) := Int.ofNat_dvd_left.mpr k1
      have h4 : (k : Int) ∣ z1 * (e2 : Int) := Int.ofNat_dvd_left.mpr k2
      exact Int.ofNat_dvd_left.mp ((Int.dvd_iff_dvd_of_dvd_add h3).mp h4))
    rw [hta] at f1'
    rw [hsg] at H7
    obtain ⟨t, htt⟩ : ∃ t, (z1 * (e2 : Int) + z2 * (e1 : Int)).natAbs = t := ⟨_, rfl⟩
    rw [htt] at f1' H7 tb
    refine ⟨_, H7.f4, _, H7.f3, _, H7.q1 cF_9, _, H7.f10, U3_reduce H7 hab3 (kk 18 (by decide) (by decide)) k34 (by decide) (by decide) (by decide) ?_ ?_ (fun V8 a8 b8 f8 hab8 r8 H8 => ?_)⟩
    · rw [va_up_self]; exact Nat.lt_of_lt_of_le tb (Nat.pow_le_pow_right (by decide) (by decide))
    · rw [va_up_ne _ _ (by decide), va_up_ne _ _ (by decide), va_up_ne _ _ (by decide), va_up_self]; exact B8_19 gb
    obtain ⟨r18, r34, -, rk8⟩ := r8
    rw [va_up_self, va_up_ne _ _ (show (34 : Nat) ≠ 18 by decide), va_up_ne _ _ (show (34 : Nat) ≠ 32 by decide), va_up_ne _ _ (show (34 : Nat) ≠ 30 by decide), va_up_self] at r18 r34
    have v31 : V8 31 = e1 := by rw [rk8 31 (by decide) (by decide) (by decide) (by decide) (by decide), va_up_ne _ _ (by decide), va_up_ne _ _ (by decide), va_up_ne _ _ (by decide), va_up_ne _ _ (by decide), r31]
    have v33 : V8 33 = e2 := by rw [rk8 33 (by decide) (by decide) (by decide) (by decide) (by decide), va_up_ne _ _ (by decide), va_up_ne _ _ (by decide), va_up_ne _ _ (by decide), va_up_ne _ _ (by decide), r33]
    refine ⟨_, H8.f11, _, H8.f7, _, H8.f9, U1_becomeProduct H8.ns (kk 35 (by decide) (by decide)) (kk 31 (by decide) (by decide)) (kk 33 (by decide) (by decide)) (by decide) (by decide) ?_ (fun f9 n9 => ?_)⟩
    · rw [v31, v33]; exact Nat.lt_of_lt_of_le (B816 e1b e2b) B16_18
    have H9 := H8.op n9
    rw [v31, v33] at H9
    have hle : e1 * e2 * (gd / Nat.gcd t gd) < 4294967296 ^ 18 := by
      have k1 : e1 * e2 * (gd / Nat.gcd t gd) ≤ e1 * e2 * gd := Nat.mul_le_mul_left _ (Nat.div_le_self _ _)
      have k2 : e1 * e2 * gd = e1 * d2 := by rw [← x2, Nat.mul_assoc, Nat.mul_comm e2]
      have k3 := B816 e1b b4
      have k4 := B16_18
      omega
    refine ⟨_, H9.f3, _, H9.q2 cF_9, _, H9.f11, _, H9.f10, U1_becomeProduct H9.ns (kk 19 (by decide) (by decide)) (kk 35 (by decide) (by decide)) k34 (by decide) (by decide) ?_ (fun f10 n10 => ?_)⟩
    · rw [va_up_self, va_up_ne _ _ (by decide), r34]; exact hle
    have H10 := H9.op n10
    rw [va_up_self, va_up_ne _ _ (show (34 : Nat) ≠ 35 by decide), r34] at H10
    refine c _ a8 b8 f10 hab8 (fun k hk => ?_) ?_ ?_ H10
    · rw [va_up_ne _ _ (by omega), va_up_ne _ _ (by omega), rk8 k (by omega) (by omega) (by omega) (by omega) (by omega), va_up_ne _ _ (by omega), va_up_ne _ _ (by omega), va_up_ne _ _ (by omega), va_up_ne _ _ (by omega), old k hk]
    · rw [va_up_ne _ _ (by decide), va_up_ne _ _ (by decide), r18]; exact f1'.1
    · rw [va_up_self]; exact f1'.2
theorem U4_multiply {C : hm → Prop} {p : Int32} {m1 m2 d1 d2 ju jl : Nat} (H : cS E ad R W f00 V sg a b u l ou ol g o x f) (hab : cP a b) (hi : i < R) (hju : cK R ju) (hjl : cK R jl) (hju2 : ju < 18) (hjl2 : jl < 18) (hn1 : V (2 * i) = m1) (hn2 : V ju = m2) (hd1 : V (2 * i + 1) = d1) (hd2 : V jl = d2) (p1 : 0 < d1) (p2 : 0 < d2) (c1 : Nat.gcd m1 d1 = 1) (c2 : Nat.gcd m2 d2 = 1) (b1 : m1 < 4294967296 ^ 8) (b2 : m2 < 4294967296 ^ 8) (b3 : d1 < 4294967296 ^ 8) (b4 : d2 < 4294967296 ^ 8)
    (c : ∀ (V' : Nat → Nat) (a b : Nat) f', cP a b → kpt V V' → V' 18 = rN (m1 * m2) (d1 * d2) → V' 19 = rD (m1 * m2) (d1 * d2) → cS E ad R W f00 V' (va_up sg 9 (sg i * p)) a b u l ou ol g o x f' → C f') : isO f (ad 0) 4 ∧ S_X4_multiply E (ad 0) (ad (4 + i)) p (cn ad ju) (cn ad jl) f C := by
  refine ⟨H.o0, T_X4_multiply ?_⟩
  unfold X_X4_multiply_0
  have hR := H.R8
  have fi : cF R i := Or.inl hi
  have kk : ∀ k, 16 ≤ k → k < 38 → cK R k := fun k h1 h2 => cK_w h1 h2
  refine ⟨_, H.f6, _, H.q1 fi, U1_become H.ns (kk 30 (by decide) (by decide)) (cK_F fi).1 (by omega) (fun f1 n1 => ?_)⟩
  have H1 := H.op n1
  refine ⟨_, H1.f9, U1_become H1.ns (kk 33 (by decide) (by decide)) hjl (by omega) (fun f2 n2 => ?_)⟩
  have H2 := H1.op n2
  rw [va_up_ne _ _ (show jl ≠ 30 by omega), hn1, hd2] at H2
  refine ⟨_, H2.f4, _, H2.f6, _, H2.f9, U3_reduce H2 hab (kk 30 (by decide) (by decide)) (kk 33 (by decide) (by decide)) (by decide) (by decide) (by decide) ?_ ?_ (fun V3 a3 b3' f3 hab3 r3 H3 => ?_)⟩
  · rw [va_up_ne _ _ (by decide), va_up_self]; exact B8_19 b1
  · rw [va_up_self]; exact B8_19 b4
  obtain ⟨r30, r33, -, rk⟩ := r3
  rw [va_up_ne _ _ (show (30 : Nat) ≠ 33 by decide), va_up_self, va_up_self] at r30 r33
  have old : ∀ k, k < 18 → V3 k = V k := fun k hk => by rw [rk k (by omega) (by omega) (by omega) (by omega) (by omega), va_up_ne _ _ (by omega), va_up_ne _ _ (by omega)]
  refine ⟨_, H3.f8, U1_become H3.ns (kk 32 (by decide) (by decide)) hju (by omega) (fun f4 n4 => ?_)⟩
  have H4 := H3.op n4
  rw [old ju hju2, hn2] at H4
  refine ⟨_, H4.f7, _, H4.q2 fi, U1_become H4.ns (kk 31 (by decide) (by decide)) (cK_F fi).2 (by omega) (fun f5 n5 => ?_)⟩
  have H5 := H4.op n5
  rw [va_up_ne _ _ (show 2 * i + 1 ≠ 32 by omega), old _ (by omega), hd1] at H5
  refine ⟨_, H5.f4, _, H5.f8, _, H5.f7, U3_reduce H5 hab3 (kk 32 (by decide) (by decide)) (kk 31 (by decide) (by decide)) (by decide) (by decide) (by decide) ?_ ?_ (fun V6 a6 b6 f6 hab6 r6 H6 => ?_)⟩
  · rw [va_up_ne _ _ (by decide), va_up_self]; exact B8_19 b2
  · rw [va_up_self]; exact B8_19 b3
  obtain ⟨r32, r31, -, rk6⟩ := r6
  rw [va_up_ne _ _ (show (32 : Nat) ≠ 31 by decide), va_up_self, va_up_self] at r32 r31
  have v30 : V6 30 = m1 / Nat.gcd m1 d2 := by rw [rk6 30 (by decide) (by decide) (by decide) (by decide) (by decide), va_up_ne _ _ (by decide), va_up_ne _ _ (by decide), r30]
  have v33 : V6 33 = d2 / Nat.gcd m1 d2 := by rw [rk6 33 (by decide) (by decide) (by decide) (by decide) (by decide), va_up_ne _ _ (by decide), va_up_ne _ _ (by decide), r33]
  obtain ⟨m3, m4⟩ := fr_mul c1 c2 p1 p2
  have q1 : m1 / Nat.gcd m1 d2 < 4294967296 ^ 8 := Nat.lt_of_le_of_lt (Nat.div_le_self _ _) b1
  have q2 : m2 / Nat.gcd m2 d1 < 4294967296 ^ 8 := Nat.lt_of_le_of_lt (Nat.div_le_self _ _) b2
  have q3 : d1 / Nat.gcd m2 d1 < 4294967296 ^ 8 := Nat.lt_of_le_of_lt (Nat.div_le_self _ _) b3
  have q4 : d2 / Nat.gcd m1 d2 < 4294967296 ^ 8 := Nat.lt_of_le_of_lt (Nat.div_le_self _ _) b4
  refine ⟨_, H6.f3, _, H6.q1 cF_9, _, H6.f6, _, H6.f8, U1_becomeProduct H6.ns (kk 18 (by decide) (by decide)) (kk 30 (by decide) (by decide)) (kk 32 (by decide) (by decide)) (by decide) (by decide) ?_ (fun f7 n7 => ?_)⟩
  · rw [v30, r32]; exact Nat.lt_of_lt_of_le (B816 q1 q2) B16_18
  have H7 := H6.op n7
  rw [v30, r32, m3] at H7
  refine ⟨_, H7.f3, _, H7.q2 cF_9, _, H7.f7, _, H7.f9, U1_becomeProduct H7.ns (kk 19 (by decide) (by decide)) (kk 31 (by decide) (by decide)) (kk 33 (by decide) (by decide)) (by decide) (by decide) ?_ (fun f8 n8 => ?_)⟩
  · rw [va_up_ne _ _ (by decide), va_up_ne _ _ (by decide), r31, v33]; exact Nat.lt_of_lt_of_le (B816 q3 q4) B16_18
  have H8 := H7.op n8
  rw [va_up_ne _ _ (show (31 : Nat) ≠ 18 by decide), va_up_ne _ _ (show (33 : Nat) ≠ 18 by decide), r31, v33, m4] at H8
  obtain ⟨f9, w9, H9⟩ := H8.wF cF_9 (sg i * p)
  refine ⟨_, H8.f3, _, H8.q0 fi, f9, w9, ?_⟩
  refine c _ a6 b6 f9 hab6 (fun k hk => ?_) ?_ ?_ H9
  · rw [va_up_ne _ _ (by omega), va_up_ne _ _ (by omega), rk6 k (by omega) (by omega) (by omega) (by omega) (by omega), va_up_ne _ _ (by omega), va_up_ne _ _ (by omega), old k hk]
  · rw [va_up_ne _ _ (by decide), va_up_self]
  · rw [va_up_self]
theorem U4_down {C : Int64 → hm → Prop} {z : Int} {d : Nat} (H : cS E ad R W f00 V sg a b u l ou ol g o x f) (hk : cF R k) (hs : sg k = sgI z) (hn : V (2 * k) = z.natAbs) (hd : V (2 * k + 1) = d) (p : 0 < d) (b1 : z.natAbs < 4294967296 ^ 8)
    (c : ∀ (r : Int64) (V' : Nat → Nat) f', (r.toInt = z / (d : Int) ∨ (¬ inI r.toInt ∧ ¬ inI (z / (d : Int)))) → (∀ k, k < 36 → V' k = V k) → V' 37 = (z % (d : Int)).toNat → cS E ad R W f00 V' sg a b u l ou ol g o x f' → C r f') : isO f (ad 0) 4 ∧ S_X4_divideDown E (ad 0) (ad (4 + k)) f C := by
  refine ⟨H.o0, T_X4_divideDown ?_⟩
  unfold X_X4_divideDown_0
  have hR := H.R8
  have hk10 := cF_lt hR hk
  have kk : ∀ k, 16 ≤ k → k < 38 → cK R k := fun k h1 h2 => cK_w h1 h2
  refine ⟨_, H.f13, _, H.q1 hk, U1_become H.ns (kk 37 (by decide) (by decide)) (cK_F hk).1 (by omega) (fun f1 n1 => ?_)⟩
  have H1 := H.op n1
  rw [hn] at H1
  refine ⟨_, H1.f13, _, H1.q2 hk, _, H1.f12, U1_divide H1.ns (kk 37 (by decide) (by decide)) (cK_F hk).2 (kk 36 (by decide) (by decide)) (by omega) (by decide) (by omega) (by rw [va_up_self]; exact B8_19 b1) (fun f2 n2 => ?_)⟩
  have H2 := H1.op n2
  rw [va_up_self, va_up_ne _ _ (show 2 * k + 1 ≠ 37 by omega), hd] at H2
  refine ⟨_, H2.f12, U1_capped H2.ns (kk 36 (by decide) (by decide)) ?_⟩
  rw [va_up_ne _ _ (show (36 : Nat) ≠ 37 by decide), va_up_self]
  have old : ∀ (y : Nat), ∀ k, k < 36 → va_up (va_up (va_up V 37 z.natAbs) 36 (z.natAbs / d)) 37 y k = V k := fun y k hk => by rw [va_up_ne _ _ (by omega), va_up_ne _ _ (by omega), va_up_ne _ _ (by omega)]
  obtain ⟨q, hq⟩ : ∃ q, z.natAbs / d = q := ⟨_, rfl⟩
  obtain ⟨cp, hcp⟩ : ∃ cp, (if q < 4294967296 then q else 4294967296) = cp := ⟨_, rfl⟩
  have hcl : cp < 2 ^ 63 := by rw [← hcp]; split <;> omega
  have hct := pk_lT hcl
  rw [hq, hcp]
  refine ⟨_, H2.q0 hk, ?_⟩
  rw [hs, sgI_lt]
  refine ⟨fun w => ⟨_, H2.f13, U1_isZero H2.ns (kk 37 (by decide) (by decide)) ?_⟩, fun w => ?_⟩
  · obtain ⟨fl1, fl2⟩ := fl_neg (n := z.natAbs) p
    have ez : -(z.natAbs : Int) = z := by omega
    rw [ez, hq] at fl1 fl2
    rw [va_up_self]
    have hneg : (-(lN cp)).toInt = -(cp : Int) := by
      rw [Int64.toInt_neg, hct]
      rw [← hcp]
      split
      · rw [Int.bmod_eq_of_le] <;> omega
      · decide
    refine ⟨fun w2 => ?_, fun w2 => ?_⟩
    · rw [ite_z] at w2
      obtain ⟨g1, g2⟩ := fl2 w2
      have hml := Nat.mod_lt z.natAbs p
      refine ⟨_, H2.f13, _, H2.q2 hk, _, H2.f13, U1_becomeDifference H2.ns (kk 37 (by decide) (by decide)) (cK_F hk).2 (kk 37 (by decide) (by decide)) ?_ (fun f3 n3 => ?_)⟩
      · rw [va_up_self, va_up_ne _ _ (show 2 * k + 1 ≠ 37 by omega), va_up_ne _ _ (show 2 * k + 1 ≠ 36 by omega), va_up_ne _ _ (show 2 * k + 1 ≠ 37 by omega), hd]
        omega
      · have H3 := H2.op n3
        refine c _ _ f3 ?_ (fun k' hk' => ?_) ?_ H3
        · have hm : (-(lN cp) - 1).toInt = -(cp : Int) - 1 := by
            rw [Int64.toInt_sub, hneg, show (1 : Int64).toInt = 1 from rfl, Int.bmod_eq_of_le] <;> omega
          rw [hm, g1, ← hcp]
          split
          · left; rfl
          · right
            rename_i hq4
            refine ⟨fun w => ?_, fun w => ?_⟩
            · have := w.1; omega
            · have := w.1; omega
        · rw [va_up_ne _ _ (by omega)]; exact old _ k' hk'
        · rw [va_up_self, va_up_self, va_up_ne _ _ (show 2 * k + 1 ≠ 37 by omega), va_up_ne _ _ (show 2 * k + 1 ≠ 36 by omega), va_up_ne _ _ (show 2 * k + 1 ≠ 37 by omega), hd, g2]
          rfl
    · have w3 := ite_n w2
      obtain ⟨g1, g2⟩ := fl1 w3
      refine c _ _ f2 ?_ (old _) ?_ H2
      · rw [hneg, g1, ← hcp]
        split
        · left; rfl
        · right
          refine ⟨fun w => ?_, fun w => ?_⟩
          · have := w.1; omega
          · have := w.1; omega
      · rw [va_up_self, g2, w3]; rfl
  · obtain ⟨fl1, fl2⟩ := fl_pos z.natAbs d
    have ez : (z.natAbs : Int) = z := by omega
    rw [ez, hq] at fl1
    rw [ez] at fl2
    refine c _ _ f2 ?_ (old _) ?_ H2
    · rw [hct, fl1, ← hcp]
      split
      · left; rfl
      · right
        refine ⟨fun w => ?_, fun w => ?_⟩
        · have := w.2; omega
        · have := w.2; omega
    · rw [va_up_self, fl2]; rfl
end CJ
