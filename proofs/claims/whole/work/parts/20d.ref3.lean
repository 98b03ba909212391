/-! The reference's divide. -/
theorem bigN.at' {b : Nat → Int32} {N : Nat → Nat} (h : bigN b N) {m j : Nat} (hm : m < 27) (hj : j < 36) : b (36 * m + j) = nI (dg 65536 (N m) j) := h.1 m hm j hj
/-- one digit of number n is written -/
theorem bigN.set {b : Nat → Int32} {N : Nat → Nat} {n k v : Nat} {x : Int32} (h : bigN b N) (hk : k < 36) (hx : x = nI (dg 65536 v k)) (ho : ∀ j, j < 36 → j ≠ k → dg 65536 v j = dg 65536 (N n) j) (hv : v < 65536 ^ 36) : bigN (upd b (36 * n + k) x) (va_up N n v) := by
  refine ⟨fun m hm j hj => ?_, fun m hm => ?_⟩
  · show upd b (36 * n + k) x (36 * m + j) = nI (dg 65536 (va_up N n v m) j)
    rw [upd_ix b x hk hj]
    by_cases hc : m = n ∧ j = k
    · rw [if_pos hc, hc.1, hc.2, va_up_self]; exact hx
    · rw [if_neg hc, h.at' hm hj]
      by_cases hmn : m = n
      · rw [hmn, va_up_self, ho j hj (fun q => hc ⟨hmn, q⟩)]
      · rw [va_up_ne _ _ hmn]
  · by_cases hmn : m = n
    · rw [hmn, va_up_self]; exact hv
    · rw [va_up_ne _ _ hmn]; exact h.2 m hm
theorem or_low {M c : Nat} (hM : M % 2 = 0) (hc : c < 2) : nI (dg 65536 M 0) ||| nI c = nI (dg 65536 (M + c) 0) ∧ ∀ j, j ≠ 0 → dg 65536 (M + c) j = dg 65536 M j := by
  refine ⟨?_, fun j hj => ?_⟩
  · rw [nI_or, dg_at0, dg_at0]
    congr 1
    have : M % 65536 = 2 ^ 1 * (M % 65536 / 2) := by omega
    rw [this, ← Nat.two_pow_add_eq_or_of_lt (show c < 2 ^ 1 by omega)]
    omega
  · obtain ⟨j', rfl⟩ : ∃ j', j = j' + 1 := ⟨j - 1, by omega⟩
    rw [dg_succ, dg_succ, show (M + c) / 65536 = M / 65536 by omega]
theorem dg_mulpow {i y k : Nat} : dg 65536 (65536 ^ i * y) (i + k) = dg 65536 y k := by
  have := dg_joinhi (B := 65536) (x := 0) (y := y) (p := i) (j := k) (by decide) (Nat.pow_pos (by decide))
  rwa [Nat.zero_add] at this
theorem dg_mulpow0 {i y j : Nat} (h : j < i) : dg 65536 (65536 ^ i * y) j = 0 := by
  have := dg_joinlo (B := 65536) (x := 0) (y := y) (p := i) (i := j) h
  rwa [Nat.zero_add, dg_zero] at this
theorem or_bit {M t : Nat} (hM : ∃ q, M = 2 ^ (t + 1) * q) : dg 65536 M (t / 16) ||| 2 ^ (t % 16) = dg 65536 (M + 2 ^ t) (t / 16) ∧ ∀ j, j ≠ t / 16 → dg 65536 (M + 2 ^ t) j = dg 65536 M j := by
  obtain ⟨q, rfl⟩ := hM
  have hr : t % 16 < 16 := Nat.mod_lt _ (by decide)
  have ht : t = 16 * (t / 16) + t % 16 := by omega
  generalize t / 16 = i at *
  generalize t % 16 = r at *
  have e1 : 2 ^ (t + 1) * q = 65536 ^ i * (2 ^ (r + 1) * q) := by
    rw [pw16, ← Nat.mul_assoc, ← Nat.pow_add, ht, Nat.add_assoc]
  have e2 : 2 ^ t = 65536 ^ i * 2 ^ r := by rw [pw16, ← Nat.pow_add, ← ht]
  rw [e1, e2, ← Nat.mul_add]
  have hu : (2 ^ (r + 1) * q) % 65536 = 2 ^ (r + 1) * (q % 2 ^ (15 - r)) := by
    rw [show (65536 : Nat) = 2 ^ (r + 1) * 2 ^ (15 - r) by rw [← Nat.pow_add, show r + 1 + (15 - r) = 16 by omega], Nat.mul_mod_mul_left]
  have hq : q % 2 ^ (15 - r) + 1 ≤ 2 ^ (15 - r) := Nat.mod_lt _ (Nat.pow_pos (by decide))
  have hb : 2 ^ (r + 1) * (q % 2 ^ (15 - r)) + 2 ^ (r + 1) ≤ 65536 := by
    have := Nat.mul_le_mul_left (2 ^ (r + 1)) hq
    rw [Nat.mul_add, Nat.mul_one, ← Nat.pow_add, show r + 1 + (15 - r) = 16 by omega] at this
    exact this
  have h2 : 2 ^ (r + 1) = 2 * 2 ^ r := by rw [Nat.pow_succ, Nat.mul_comm]
  have h3 : 0 < 2 ^ r := Nat.pow_pos (by decide)
  have a1 : (2 ^ (r + 1) * q + 2 ^ r) % 65536 = 2 ^ (r + 1) * (q % 2 ^ (15 - r)) + 2 ^ r := by omega
  have a2 : (2 ^ (r + 1) * q + 2 ^ r) / 65536 = (2 ^ (r + 1) * q) / 65536 := by omega
  refine ⟨?_, fun j hj => ?_⟩
  · have d1 : dg 65536 (65536 ^ i * (2 ^ (r + 1) * q)) i = 2 ^ (r + 1) * q % 65536 := (dg_mulpow (i := i) (k := 0)).trans (dg_at0 _ _)
    have d2 : dg 65536 (65536 ^ i * (2 ^ (r + 1) * q + 2 ^ r)) i = (2 ^ (r + 1) * q + 2 ^ r) % 65536 := (dg_mulpow (i := i) (k := 0)).trans (dg_at0 _ _)
    rw [d1, d2, a1, hu, Nat.two_pow_add_eq_or_of_lt (show 2 ^ r < 2 ^ (r + 1) by omega)]
  · rcases Nat.lt_or_ge j i with hlt | hge
    · rw [dg_mulpow0 hlt, dg_mulpow0 hlt]
    · obtain ⟨k, rfl⟩ : ∃ k, j = i + (k + 1) := ⟨j - i - 1, by omega⟩
      rw [dg_mulpow, dg_mulpow, dg_succ, dg_succ, a2]
/-- one step of long division, bit by bit -/
theorem ld_step {A d t : Nat} (hd : 0 < d) : (2 * (A / 2 ^ (t + 1) % d) + dg 2 A t < d → A / 2 ^ t % d = 2 * (A / 2 ^ (t + 1) % d) + dg 2 A t ∧ A / 2 ^ t / d = 2 * (A / 2 ^ (t + 1) / d)) ∧ (¬ 2 * (A / 2 ^ (t + 1) % d) + dg 2 A t < d → A / 2 ^ t % d = 2 * (A / 2 ^ (t + 1) % d) + dg 2 A t - d ∧ A / 2 ^ t / d = 2 * (A / 2 ^ (t + 1) / d) + 1) := by
  have h1 := dg_top (B := 2) A t
  have h2 := dg_lt (B := 2) (by decide) A t
  have h3 := Nat.div_add_mod (A / 2 ^ (t + 1)) d
  have h4 := Nat.mod_lt (A / 2 ^ (t + 1)) hd
  rw [h1]
  generalize A / 2 ^ (t + 1) = X at *
  generalize dg 2 A t = c at *
  generalize X / d = q at *
  generalize X % d = r at *
  subst h3
  have e : 2 * (d * q + r) + c = (2 * r + c) + d * (2 * q) := by rw [Nat.mul_add, Nat.mul_left_comm]; omega
  rw [e]
  constructor
  · intro h
    rw [Nat.add_mul_mod_self_left, Nat.add_mul_div_left _ _ hd, Nat.mod_eq_of_lt h, Nat.div_eq_of_lt h]
    exact ⟨rfl, by omega⟩
  · intro h
    have e2 : (2 * r + c) + d * (2 * q) = (2 * r + c - d) + d * (2 * q + 1) := by rw [Nat.mul_add d (2 * q) 1]; omega
    rw [e2, Nat.add_mul_mod_self_left, Nat.add_mul_div_left _ _ hd, Nat.mod_eq_of_lt (show 2 * r + c - d < d by omega), Nat.div_eq_of_lt (show 2 * r + c - d < d by omega)]
    exact ⟨rfl, by omega⟩
section REF3
variable {E : cx} {h ab as : Nat} {R w : Int32} {f0 : hm} {sn : Nat → Int32} {sg go gs : Int32} {f : hm} {N : Nat → Nat}
theorem C5_divide {n1 n2 : Nat} (H : rS E h ab as R w f0 N sn sg go gs f) (h1 : n1 < 27) (h2 : n2 < 27) (a1 : n1 ≠ 20) (a2 : n1 ≠ 21) (b1 : n2 ≠ 20) (b2 : n2 ≠ 21) (hd : 0 < N n2) (hlt : N n2 < 65536 ^ 35) : S_X5_divide E h (nI n1) (nI n2) f (fun g => rS E h ab as R w f0 (va_up (va_up N 20 (N n1 / N n2)) 21 (N n1 % N n2)) sn sg go gs g) := by
  have hN1 := H.lt h1
  have p35 : 65536 * 65536 ^ 35 = 65536 ^ 36 := by rw [← Nat.pow_succ']
  refine T_X5_divide (fun t a x1 x2 x3 g => t ≤ 576 ∧ a = h ∧ x1 = nI n1 ∧ x2 = nI n2 ∧ x3 = nI t + (-1) ∧ rS E h ab as R w f0 (va_up (va_up N 20 (2 ^ t * (N n1 / 2 ^ t / N n2))) 21 (N n1 / 2 ^ t % N n2)) sn sg go gs g) ?_ ?_
  · unfold X_X5_divide_0
    refine U5_put 20 0 H (by decide) (by decide) (fun g H => ?_)
    refine U5_put 21 0 H (by decide) (by decide) (fun g H => ?_)
    refine U5_bitsOf n1 H h1 (fun k hk hl => ?_)
    rintro x rfl
    have hl1 := hl.1
    rw [va_up_ne _ _ a2, va_up_ne _ _ a1] at hl1
    refine ⟨k, hk, rfl, rfl, rfl, ?_, ?_⟩
    · show nI k - 1 = nI k + (-1)
      rw [Int32.sub_eq_add_neg]
    · rw [Nat.div_eq_of_lt hl1, Nat.zero_div, Nat.zero_mod, Nat.mul_zero]
      exact H
  · rintro t a x1 x2 x3 g ⟨ht, rfl, rfl, rfl, rfl, H⟩
    unfold X_X5_divide_22
    cases t with
    | zero =>
      refine ⟨fun c => ?_, fun c => absurd (by decide) c⟩
      simpa using H
    | succ t =>
      rw [nI_m1]
      have hm := Nat.mod_lt (N n1 / 2 ^ (t + 1)) hd
      refine ⟨fun c => absurd c (nI_pos (by omega)), fun c => ?_⟩
      refine U5_grow 21 2 H (by decide) (by decide) (by rw [va_up_self]; omega) (fun g H => ?_)
      rw [va_up_self] at H
      obtain ⟨b, H, hb⟩ := H
      have ei : nI t / (16 : Int32) = nI (t / 16) := pk_div (d := 16) (by omega) (by decide) (by decide)
      have er : nI t - nI (t / 16) * (16 : Int32) = nI (t % 16) := by
        rw [← ei]; exact pk_rem (d := 16) (by omega) (by decide) (by decide)
      rw [ei, er, ix36]
      have hi : t / 16 < 36 := by omega
      have ea : b (36 * n1 + t / 16) = nI (dg 65536 (N n1) (t / 16)) := by
        have := hb.at' h1 hi
        rwa [va_up_ne _ _ a2, va_up_ne _ _ a2, va_up_ne _ _ a1] at this
      have e0 : b (36 * 21 + 0) = nI (dg 65536 (2 * (N n1 / 2 ^ (t + 1) % N n2)) 0) := by
        have := hb.at' (m := 21) (j := 0) (by decide) (by decide)
        rwa [va_up_self] at this
      have dA := dg_lt (B := 65536) (by decide) (N n1) (t / 16)
      have ebit : (b (36 * n1 + t / 16) >>> (nI (t % 16) &&& 31)) &&& (1 : Int32) = nI (dg 2 (N n1) t) := by
        rw [ea, pk_shrN (by omega) _ (t % 16) (s_l _ (by omega)), pk_andN (m := 1) (Nat.lt_of_le_of_lt (Nat.div_le_self _ _) (by omega)) 1 (by decide), show (2 : Nat) ^ 1 = 2 from rfl, bit_of (by omega), show 16 * (t / 16) + t % 16 = t by omega]
      have hbit := dg_lt (B := 2) (by decide) (N n1) t
      obtain ⟨o1, o2⟩ := or_low (M := 2 * (N n1 / 2 ^ (t + 1) % N n2)) (c := dg 2 (N n1) t) (by omega) hbit
      refine ⟨ab, H.r2, _, H.rd (j := 36 * 21 + 0) (by decide), ab, H.r2, by decide, _, H.rd (j := 36 * n1 + t / 16) (by omega), by decide, ?_⟩
      rw [ebit, e0, o1]
      obtain ⟨g', hw, H'⟩ := H.wr (j := 36 * 21 + 0) (by decide) (nI (dg 65536 (2 * (N n1 / 2 ^ (t + 1) % N n2) + dg 2 (N n1) t) 0))
      refine ⟨g', hw, ?_⟩
      have hb' := hb.set (n := 21) (k := 0) (v := 2 * (N n1 / 2 ^ (t + 1) % N n2) + dg 2 (N n1) t) (by decide) rfl (fun j _ hj => by rw [va_up_self]; exact o2 j hj) (by omega)
      have H2 : rS E a ab as R w f0 _ sn sg go gs g' := ⟨_, H', hb'⟩
      obtain ⟨s1, s2⟩ := ld_step (A := N n1) (d := N n2) (t := t) hd
      refine U5_compare 21 n2 H2 (by decide) h2 ?_
      rw [va_up_self, va_up_ne _ _ b2, va_up_ne _ _ b2, va_up_ne _ _ b2, va_up_ne _ _ b1]
      have e2 : 2 ^ (t + 1) * (N n1 / 2 ^ (t + 1) / N n2) = 2 ^ t * (2 * (N n1 / 2 ^ (t + 1) / N n2)) := by rw [Nat.pow_succ, Nat.mul_assoc]
      refine ⟨fun c => ?_, fun c => ?_⟩
      · rintro x rfl
        obtain ⟨r1, r2⟩ := s1 (ord3_lt.mp c)
        refine ⟨t, by omega, by omega, rfl, rfl, rfl, rfl, H2.congr (fun m hm => ?_)⟩
        by_cases m1 : m = 21
        · rw [m1, va_up_self, va_up_self, r1]
        · rw [va_up_ne _ _ m1, va_up_ne _ _ m1, va_up_ne _ _ m1, va_up_ne _ _ m1]
          by_cases m0 : m = 20
          · rw [m0, va_up_self, va_up_self, r2, e2]
          · rw [va_up_ne _ _ m0, va_up_ne _ _ m0]
      · have c' : ¬ 2 * (N n1 / 2 ^ (t + 1) % N n2) + dg 2 (N n1) t < N n2 := fun q => c (ord3_lt.mpr q)
        obtain ⟨r1, r2⟩ := s2 c'
        refine U5_lessen 21 n2 H2 (by decide) h2 b2 (by rw [va_up_self, va_up_ne _ _ b2, va_up_ne _ _ b2, va_up_ne _ _ b2, va_up_ne _ _ b1]; omega) (fun g H => ?_)
        rw [va_up_self, va_up_ne _ _ b2, va_up_ne _ _ b2, va_up_ne _ _ b2, va_up_ne _ _ b1] at H
        obtain ⟨b, H, hb⟩ := H
        have hq : ∃ q, 2 ^ (t + 1) * (N n1 / 2 ^ (t + 1) / N n2) = 2 ^ (t + 1) * q := ⟨_, rfl⟩
        obtain ⟨o3, o4⟩ := or_bit (t := t) hq
        have e20 : b (36 * 20 + t / 16) = nI (dg 65536 (2 ^ (t + 1) * (N n1 / 2 ^ (t + 1) / N n2)) (t / 16)) := by
          have := hb.at' (m := 20) (by decide) hi
          rwa [va_up_ne _ _ (by decide), va_up_ne _ _ (by decide), va_up_ne _ _ (by decide), va_up_ne _ _ (by decide), va_up_self] at this
        have esh : (1 : Int32) <<< (nI (t % 16) &&& 31) = nI (2 ^ (t % 16)) := by
          have p2 : 2 ^ (t % 16) ≤ 2 ^ 15 := Nat.pow_le_pow_right (by decide) (by omega)
          rw [show (1 : Int32) = nI 1 from rfl, pk_shlN _ (t % 16) (s_l _ (by omega)) (by omega), Nat.one_mul]
        rw [show (720 : Int32) + nI (t / 16) = nI (36 * 20 + t / 16) by rw [show (720 : Int32) = nI 720 from rfl, nI_add]]
        refine ⟨ab, H.r2, by decide, _, H.rd (by omega), by decide, ?_⟩
        rw [e20, esh, nI_or, o3]
        obtain ⟨g', hw, H'⟩ := H.wr (j := 36 * 20 + t / 16) (by omega) (nI (dg 65536 (2 ^ (t + 1) * (N n1 / 2 ^ (t + 1) / N n2) + 2 ^ t) (t / 16)))
        refine ⟨g', hw, ?_⟩
        have hle : N n1 / 2 ^ t / N n2 ≤ N n1 / 2 ^ t := Nat.div_le_self _ _
        have hQ : 2 ^ (t + 1) * (N n1 / 2 ^ (t + 1) / N n2) + 2 ^ t = 2 ^ t * (N n1 / 2 ^ t / N n2) := by rw [r2, e2, Nat.mul_add, Nat.mul_one]
        have hQlt : 2 ^ (t + 1) * (N n1 / 2 ^ (t + 1) / N n2) + 2 ^ t < 65536 ^ 36 := by
          rw [hQ]
          exact Nat.lt_of_le_of_lt (Nat.le_trans (Nat.mul_le_mul_left _ hle) (Nat.mul_div_le _ _)) hN1
        have hb' := hb.set (n := 20) (k := t / 16) (v := 2 ^ (t + 1) * (N n1 / 2 ^ (t + 1) / N n2) + 2 ^ t) hi rfl (fun j _ hj => by rw [va_up_ne _ _ (by decide), va_up_ne _ _ (by decide), va_up_ne _ _ (by decide), va_up_ne _ _ (by decide), va_up_self]; exact o4 j hj) hQlt
        rintro x rfl
        have H3 : rS E a ab as R w f0 _ sn sg go gs g' := ⟨_, H', hb'⟩
        refine ⟨t, by omega, by omega, rfl, rfl, rfl, rfl, H3.congr (fun m hm => ?_)⟩
        by_cases m0 : m = 20
        · rw [m0, va_up_self, va_up_ne _ _ (by decide), va_up_self, hQ]
        · rw [va_up_ne _ _ m0]
          by_cases m1 : m = 21
          · rw [m1, va_up_self, va_up_self, r1]
          · rw [va_up_ne _ _ m1, va_up_ne _ _ m1, va_up_ne _ _ m1, va_up_ne _ _ m1, va_up_ne _ _ m1, va_up_ne _ _ m0, va_up_ne _ _ m0]
theorem U5_divide {K : hm → Prop} (n1 n2 : Nat) (H : rS E h ab as R w f0 N sn sg go gs f) (h1 : n1 < 27) (h2 : n2 < 27) (a1 : n1 ≠ 20) (a2 : n1 ≠ 21) (b1 : n2 ≠ 20) (b2 : n2 ≠ 21) (hd : 0 < N n2) (hlt : N n2 < 65536 ^ 35) (k : ∀ g, rS E h ab as R w f0 (va_up (va_up N 20 (N n1 / N n2)) 21 (N n1 % N n2)) sn sg go gs g → K g) : isO f h 5 ∧ S_X5_divide E h (nI n1) (nI n2) f K := ⟨H.o, MV.mono (C5_divide H h1 h2 a1 a2 b1 b2 hd hlt) k⟩
end REF3
