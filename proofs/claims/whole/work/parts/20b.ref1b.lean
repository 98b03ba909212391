/-! The reference's put, grow, halve, isEven, bitsOf. -/
theorem pw16 (k : Nat) : (65536 : Nat) ^ k = 2 ^ (16 * k) := by
  rw [show (65536 : Nat) = 2 ^ 16 from rfl, ← Nat.pow_mul]
theorem lsh_n {v k : Nat} (hk : k < 64) (hv : v < 2 ^ 62) : j_lshr (lN v) (nI k) = lN (v / 2 ^ k) := by
  unfold j_lshr
  rw [wb_c k hk]
  refine pf_shr ?_ hv
  rw [wb_tb, wb_sm _ hk, BitVec.toNat_ofNat, Nat.mod_eq_of_lt]
  exact Nat.lt_trans hk (by decide)
theorem and16l {n : Nat} (hn : n < 2 ^ 64) : (lN n &&& (65535 : Int64)).toInt32 = nI (n % 65536) := by
  rw [show (65535 : Int64) = lN (2 ^ 16 - 1) from rfl, wb_mask hn (by decide), lN_i]
theorem put_dig {v k : Nat} (hk : k < 4) (hv : v < 2 ^ 62) : ((j_lshr (lN v) ((16 : Int32) * nI k)) &&& (65535 : Int64)).toInt32 = nI (dg 65536 v k) := by
  rw [show (16 : Int32) = nI 16 from rfl, pk_mul, lsh_n (by omega) hv, and16l (Nat.lt_of_le_of_lt (Nat.div_le_self _ _) (by omega)), dg, pw16]
section REF1B
variable {E : cx} {h ab as : Nat} {R w : Int32} {f0 : hm} {b sn : Nat → Int32} {sg go gs : Int32} {f : hm} {N : Nat → Nat}
theorem C5_put {n v : Nat} (H : rS E h ab as R w f0 N sn sg go gs f) (h1 : n < 27) (hv : v < 2 ^ 62) : S_X5_put E h (nI n) (lN v) f (fun g => rS E h ab as R w f0 (va_up N n v) sn sg go gs g) := by
  obtain ⟨b, H, hN⟩ := H
  have hv4 : v < 65536 ^ 4 := Nat.lt_trans hv (by decide)
  refine T_X5_put (fun t a x1 x2 x3 g => ∃ (k : Nat) (b : Nat → Int32), k ≤ 36 ∧ t = 36 - k ∧ a = h ∧ x1 = nI n ∧ x2 = lN v ∧ x3 = nI k ∧ rB E h ab as R w f0 b sn sg go gs g ∧ dN b (fun m j => if m = n ∧ j < k then dg 65536 v j else dg 65536 (N m) j)) ?_ ?_
  · exact ⟨36, 0, b, by omega, rfl, rfl, rfl, rfl, rfl, H, hN.1.begin⟩
  · rintro t a x1 x2 x3 g ⟨k, b, hk, rfl, rfl, rfl, rfl, rfl, H, hd⟩
    unfold X_X5_put_3
    refine ⟨fun c => ?_, fun c => ?_⟩
    · obtain rfl := k36 hk c
      exact ⟨b, H, bigN.finish hd hN.2 (Nat.lt_trans hv4 (by decide)) (fun _ _ => rfl)⟩
    · have hk' := k36' hk c
      rw [ix36]
      refine ⟨ab, H.r2, fun c2 => ?_, fun c2 => ?_⟩
      · obtain ⟨g', hw, H'⟩ := H.wr (j := 36 * n + k) (by omega) 0
        refine ⟨g', hw, ?_⟩
        rintro x rfl
        have hk4 : 4 ≤ k := by
          rcases Nat.lt_or_ge k 4 with q | q
          · exact absurd c2 (nI_ge q (by decide))
          · exact q
        refine ⟨36 - (k + 1), by omega, k + 1, _, hk', rfl, rfl, rfl, rfl, nI_1 k, H', hd.step hk' ?_⟩
        rw [dg_big (Nat.lt_of_lt_of_le hv4 (Nat.pow_le_pow_right (by decide) hk4))]
        rfl
      · have hk4 : k < 4 := by
          rcases Nat.lt_or_ge k 4 with q | q
          · exact q
          · exact absurd (nI_le (a := 4) q (by omega)) c2
        rw [put_dig hk4 hv]
        obtain ⟨g', hw, H'⟩ := H.wr (j := 36 * n + k) (by omega) (nI (dg 65536 v k))
        refine ⟨g', hw, ?_⟩
        rintro x rfl
        exact ⟨36 - (k + 1), by omega, k + 1, _, hk', rfl, rfl, rfl, rfl, nI_1 k, H', hd.step hk' rfl⟩
theorem C5_grow {n c : Nat} (H : rS E h ab as R w f0 N sn sg go gs f) (h1 : n < 27) (hc : c < 2 ^ 31) (hlt : c * N n < 65536 ^ 36) : S_X5_grow E h (nI n) (lN c) f (fun g => rS E h ab as R w f0 (va_up N n (c * N n)) sn sg go gs g) := by
  obtain ⟨b, H, hN⟩ := H
  refine T_X5_grow (fun t a x1 x2 x3 x4 g => ∃ (k : Nat) (b : Nat → Int32), k ≤ 36 ∧ t = 36 - k ∧ a = h ∧ x1 = nI n ∧ x2 = lN c ∧ x3 = lN (mc 65536 0 (N n) c k) ∧ x4 = nI k ∧ rB E h ab as R w f0 b sn sg go gs g ∧ dN b (fun m j => if m = n ∧ j < k then dg 65536 (c * N n) j else dg 65536 (N m) j)) ?_ ?_
  · exact ⟨36, 0, b, by omega, rfl, rfl, rfl, rfl, by rw [mc_0]; rfl, rfl, H, hN.1.begin⟩
  · rintro t a x1 x2 x3 x4 g ⟨k, b, hk, rfl, rfl, rfl, rfl, rfl, rfl, H, hd⟩
    unfold X_X5_grow_6
    refine ⟨fun c => ?_, fun cc => ?_⟩
    · obtain rfl := k36 hk c
      exact ⟨b, H, bigN.finish hd hN.2 hlt (fun _ _ => rfl)⟩
    · have hk' := k36' hk cc
      have e1 : b (36 * n + k) = nI (dg 65536 (N n) k) := hd.read h1 hk' (by omega)
      have d1 := dg_lt (B := 65536) (by decide) (N n) k
      have d3 := dg_lt (B := 65536) (by decide) (c * N n) k
      have m1 := mc_le (B := 65536) (by decide) 0 (N n) c k
      have st := mc_step (B := 65536) (by decide) 0 (N n) c k
      rw [dg_zero, Nat.zero_add, Nat.add_zero] at st
      have bd : dg 65536 (N n) k * c + mc 65536 0 (N n) c k < 2 ^ 62 := by
        have : dg 65536 (N n) k * c ≤ 65536 * c := Nat.mul_le_mul_right c (Nat.le_of_lt d1)
        omega
      rw [ix36]
      refine ⟨ab, H.r2, _, H.rd (by omega), ?_⟩
      rintro x rfl
      rw [e1, nI_l (by omega), lN_mul, lN_add, and16l (by omega), show (16 : Int32) = nI 16 from rfl, lsh_n (by decide) bd, Nat.mul_comm (dg 65536 (N n) k) c, st, show (dg 65536 (c * N n) k + 65536 * mc 65536 0 (N n) c (k + 1)) % 65536 = dg 65536 (c * N n) k by omega, show (dg 65536 (c * N n) k + 65536 * mc 65536 0 (N n) c (k + 1)) / 2 ^ 16 = mc 65536 0 (N n) c (k + 1) by omega]
      obtain ⟨g', hw, H'⟩ := H.wr (j := 36 * n + k) (by omega) (nI (dg 65536 (c * N n) k))
      refine ⟨ab, H.r2, g', hw, ?_⟩
      rintro x rfl y rfl
      exact ⟨36 - (k + 1), by omega, k + 1, _, hk', rfl, rfl, rfl, rfl, rfl, nI_1 k, H', hd.step hk' rfl⟩
theorem half_dg (M k : Nat) : dg 65536 (M / 2) k = dg 65536 M k / 2 + dg 65536 M (k + 1) % 2 * 32768 := by
  have e1 : M / 2 / 65536 ^ k = M / 65536 ^ k / 2 := by rw [Nat.div_div_eq_div_mul, Nat.div_div_eq_div_mul, Nat.mul_comm]
  have e2 : M / 65536 ^ (k + 1) = M / 65536 ^ k / 65536 := by rw [Nat.div_div_eq_div_mul, Nat.pow_succ]
  unfold dg
  rw [e1, e2]
  omega
theorem nI_or (a b : Nat) : nI a ||| nI b = nI (a ||| b) := by
  apply Int32.toBitVec_inj.mp
  rw [Int32.toBitVec_or]
  show BitVec.ofNat 32 a ||| BitVec.ofNat 32 b = BitVec.ofNat 32 (a ||| b)
  apply BitVec.eq_of_toNat_eq
  rw [BitVec.toNat_or, BitVec.toNat_ofNat, BitVec.toNat_ofNat, BitVec.toNat_ofNat, Nat.or_mod_two_pow]
theorem half_or {d a : Nat} (hd : d < 65536) (ha : a < 2) : (nI d >>> ((1 : Int32) &&& 31)) ||| (nI a <<< ((15 : Int32) &&& 31)) = nI (d / 2 + a * 32768) := by
  rw [pk_shrN (by omega) _ 1 (by decide), pk_shlN _ 15 (by decide) (by omega), nI_or]
  congr 1
  rw [Nat.or_comm, Nat.mul_comm a, ← Nat.two_pow_add_eq_or_of_lt (show d / 2 ^ 1 < 2 ^ 15 by omega)]
  omega
theorem C5_halve {n : Nat} (H : rS E h ab as R w f0 N sn sg go gs f) (h1 : n < 27) : S_X5_halve E h (nI n) f (fun g => rS E h ab as R w f0 (va_up N n (N n / 2)) sn sg go gs g) := by
  obtain ⟨b, H, hN⟩ := H
  have hlt : N n / 2 < 65536 ^ 36 := Nat.lt_of_le_of_lt (Nat.div_le_self _ _) (hN.2 n h1)
  refine T_X5_halve (fun t a x1 x2 g => ∃ (k : Nat) (b : Nat → Int32), k ≤ 36 ∧ t = 36 - k ∧ a = h ∧ x1 = nI n ∧ x2 = nI k ∧ rB E h ab as R w f0 b sn sg go gs g ∧ dN b (fun m j => if m = n ∧ j < k then dg 65536 (N n / 2) j else dg 65536 (N m) j)) ?_ ?_
  · exact ⟨36, 0, b, by omega, rfl, rfl, rfl, rfl, H, hN.1.begin⟩
  · rintro t a x1 x2 g ⟨k, b, hk, rfl, rfl, rfl, rfl, H, hd⟩
    unfold X_X5_halve_2
    refine ⟨fun c => ?_, fun c => ?_⟩
    · obtain rfl := k36 hk c
      exact ⟨b, H, bigN.finish hd hN.2 hlt (fun _ _ => rfl)⟩
    · have hk' := k36' hk c
      have e1 : b (36 * n + k) = nI (dg 65536 (N n) k) := hd.read h1 hk' (by omega)
      have d1 := dg_lt (B := 65536) (by decide) (N n) k
      rw [ix36, nI_1, nI_1]
      obtain ⟨g', hw, H'⟩ := H.wr (j := 36 * n + k) (by omega) (nI (dg 65536 (N n / 2) k))
      refine ⟨fun c2 => ?_, fun c2 => ?_⟩
      · have hk2 : k = 35 := by
          have := k36 (k := k + 1) (by omega) c2
          omega
        refine ⟨ab, H.r2, ab, H.r2, _, H.rd (by omega), ?_⟩
        have ev : (nI (dg 65536 (N n) k) >>> ((1 : Int32) &&& 31)) ||| ((0 : Int32) <<< ((15 : Int32) &&& 31)) = nI (dg 65536 (N n / 2) k) := by
          rw [show (0 : Int32) = nI 0 from rfl, half_or d1 (by decide), half_dg, dg_big (i := k + 1) (by rw [hk2]; exact hN.2 n h1)]
        rw [e1, ev]
        refine ⟨g', hw, ?_⟩
        rintro x rfl
        exact ⟨36 - (k + 1), by omega, k + 1, _, hk', rfl, rfl, rfl, rfl, H', hd.step hk' rfl⟩
      · have hk2 : k + 1 < 36 := k36' (k := k + 1) (by omega) c2
        have e2 : b (36 * n + (k + 1)) = nI (dg 65536 (N n) (k + 1)) := hd.read h1 hk2 (by omega)
        have d2 := dg_lt (B := 65536) (by decide) (N n) (k + 1)
        refine ⟨ab, H.r2, _, H.rd (j := 36 * n + k + 1) (by omega), ?_⟩
        rintro x rfl
        rw [show 36 * n + k + 1 = 36 * n + (k + 1) from rfl, e2]
        refine ⟨ab, H.r2, ab, H.r2, _, H.rd (by omega), ?_⟩
        rw [e1, pk_andN (m := 1) (by omega) 1 (by decide), half_or d1 (Nat.mod_lt _ (by decide)), show dg 65536 (N n) (k + 1) % 2 ^ 1 = dg 65536 (N n) (k + 1) % 2 from rfl, ← half_dg]
        refine ⟨g', hw, ?_⟩
        rintro x rfl
        exact ⟨36 - (k + 1), by omega, k + 1, _, hk', rfl, rfl, rfl, rfl, H', hd.step hk' rfl⟩
theorem C5_isEven {n : Nat} (H : rS E h ab as R w f0 N sn sg go gs f) (h1 : n < 27) : S_X5_isEven E h (nI n) f (fun r g => g = f ∧ r = if N n % 2 = 0 then 1 else 0) := by
  obtain ⟨b, H, hN⟩ := H
  refine T_X5_isEven ?_
  unfold X_X5_isEven_0
  have e1 : b (36 * n + 0) = nI (dg 65536 (N n) 0) := hN.1 n h1 0 (by decide)
  rw [dg_at0] at e1
  have e2 : (36 : Int32) * nI n = nI (36 * n) := by rw [show (36 : Int32) = nI 36 from rfl, pk_mul]
  rw [e2]
  have e3 : b (36 * n) &&& (1 : Int32) = nI (N n % 2) := by
    rw [show 36 * n = 36 * n + 0 from rfl, e1, pk_andN (m := 1) (by omega) 1 (by decide)]
    congr 1
    omega
  refine ⟨ab, H.r2, _, H.rd (by omega), ?_⟩
  rw [e3]
  refine ⟨fun c => ⟨nb0, rfl, ?_⟩, fun c => ⟨nb1, rfl, ?_⟩⟩
  · rw [if_neg]
    intro q
    rw [q] at c
    exact c rfl
  · rw [← nI_0, nI_eq (by omega) (by decide)] at c
    rw [if_pos c]
theorem bit_of {M m i : Nat} (hi : i < 16) : dg 65536 M m / 2 ^ i % 2 = dg 2 M (16 * m + i) := by
  have : dg 65536 M m = (M / 2 ^ (16 * m)) % 2 ^ 16 := by rw [dg, pw16]
  rw [this]
  show dg 2 ((M / 2 ^ (16 * m)) % 2 ^ 16) i = _
  rw [dg_mod hi, dg_shift]
theorem C5_bitsOf {n : Nat} (H : rS E h ab as R w f0 N sn sg go gs f) (h1 : n < 27) : S_X5_bitsOf E h (nI n) f (fun r g => g = f ∧ ∃ k : Nat, k ≤ 576 ∧ r = nI k ∧ lenIs 2 (N n) k) := by
  obtain ⟨b, H, hN⟩ := H
  refine T_X5_bitsOf (fun t a x1 x2 g => ∃ m : Nat, m ≤ 36 ∧ t = 1000 + m ∧ a = h ∧ x1 = nI n ∧ x2 = nI m + (-1) ∧ g = f ∧ N n < 65536 ^ m) (fun t a x1 x2 x3 g => a = h ∧ x1 = nI n ∧ x3 = nI t ∧ g = f ∧ t ≤ 576 ∧ N n < 2 ^ t ∧ ((x2 = -1 ∧ t = 0) ∨ ∃ m : Nat, m < 36 ∧ x2 = nI m ∧ 65536 ^ m ≤ N n ∧ t ≤ 16 * m + 16)) ?_ ?_ ?_
  · exact ⟨1036, 36, by omega, rfl, rfl, rfl, by decide, rfl, hN.2 n h1⟩
  · rintro t a x1 x2 g ⟨m, hm, rfl, rfl, rfl, rfl, rfl, ht⟩
    unfold X_X5_bitsOf_3
    cases m with
    | zero =>
      refine ⟨fun c => ?_, fun c => absurd (by decide) c⟩
      rintro x rfl
      exact ⟨0, by omega, rfl, rfl, by decide, rfl, by decide, by simpa using ht, Or.inl ⟨by decide, rfl⟩⟩
    | succ k =>
      rw [nI_m1, ix36]
      have e1 : b (36 * n + k) = nI (dg 65536 (N n) k) := hN.1 n h1 k (by omega)
      have d1 := dg_lt (B := 65536) (by decide) (N n) k
      refine ⟨fun c => absurd c (nI_pos (by omega)), fun c => ⟨ab, H.r2, _, H.rd (by omega), ?_, ?_⟩⟩
      · rintro c2 x rfl
        have hne : dg 65536 (N n) k ≠ 0 := fun q => c2 (by rw [e1, q]; rfl)
        have hl := trim_end ht hne
        refine ⟨16 * (k + 1), by omega, rfl, rfl, ?_, rfl, by omega, by rw [← pw16]; exact ht, Or.inr ⟨k, by omega, rfl, ?_, by omega⟩⟩
        · rw [nI_1, show (16 : Int32) = nI 16 from rfl, pk_mul]
        · rcases hl.2 with q | q
          · omega
          · exact q
      · rintro c2 x rfl
        rw [e1, ← nI_0, nI_eq (by omega) (by decide)] at c2
        exact ⟨1000 + k, by omega, k, by omega, rfl, rfl, rfl, by first | rfl | (rw [← nI_m1]), rfl, trim_go ht c2⟩
  · rintro t a x1 x2 x3 g ⟨rfl, rfl, rfl, rfl, ht, hlt, hx⟩
    unfold X_X5_bitsOf_34
    rcases hx with ⟨rfl, rfl⟩ | ⟨m, hm, rfl, hge, htm⟩
    · exact ⟨fun c => ⟨rfl, 0, by omega, rfl, hlt, Or.inl rfl⟩, fun c => absurd (by decide) c⟩
    · have ht1 : 16 * m < t := by
        rcases Nat.lt_or_ge (16 * m) t with q | q
        · exact q
        · have : 2 ^ t ≤ 2 ^ (16 * m) := Nat.pow_le_pow_right (by decide) q
          rw [pw16] at hge
          omega
      obtain ⟨i, rfl⟩ : ∃ i, t = 16 * m + i + 1 := ⟨t - 16 * m - 1, by omega⟩
      have hi : i < 16 := by omega
      have e1 : b (36 * n + m) = nI (dg 65536 (N n) m) := hN.1 n h1 m hm
      have d1 := dg_lt (B := 65536) (by decide) (N n) m
      have e2 : nI (16 * m + i + 1) - (1 : Int32) - (16 : Int32) * nI m = nI i := by
        rw [nI_pred, show (16 : Int32) = nI 16 from rfl, pk_mul, pk_sub (by omega)]
        congr 1
        omega
      rw [ix36, e2]
      have e3 : (b (36 * n + m) >>> (nI i &&& 31)) &&& (1 : Int32) = nI (dg 2 (N n) (16 * m + i)) := by
        rw [e1, pk_shrN (by omega) _ i (s_l i (by omega)), pk_andN (m := 1) (Nat.lt_of_le_of_lt (Nat.div_le_self _ _) (by omega)) 1 (by decide), show (2 : Nat) ^ 1 = 2 from rfl, bit_of hi]
      refine ⟨fun c => absurd c (nI_pos (by omega)), fun c => ⟨ab, H.r2, _, H.rd (by omega), ?_, ?_⟩⟩
      · rw [e3]
        intro c2
        refine ⟨rfl, 16 * m + i + 1, ht, rfl, trim_end hlt (fun q => c2 (by rw [q]; rfl))⟩
      · rw [e3]
        rintro c2 x rfl
        have d2 := dg_lt (B := 2) (by decide) (N n) (16 * m + i)
        rw [← nI_0, nI_eq (by omega) (by decide)] at c2
        exact ⟨16 * m + i, by omega, rfl, rfl, nI_m1 _, rfl, by omega, trim_go hlt c2, Or.inr ⟨m, hm, rfl, hge, by omega⟩⟩
end REF1B
