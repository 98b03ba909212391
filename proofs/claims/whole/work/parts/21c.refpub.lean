/-! The reference's public methods but best. -/
theorem lgc_lt {x y : Int64} : lg_cmp x y < 0 ↔ x.toInt < y.toInt := by
  unfold lg_cmp
  by_cases h1 : x > y
  · rw [if_pos h1]
    have : y.toInt < x.toInt := Int64.lt_iff_toInt_lt.mp h1
    exact ⟨fun q => absurd q (by decide), fun q => by omega⟩
  · rw [if_neg h1]
    have h1' : ¬ y.toInt < x.toInt := fun q => h1 (Int64.lt_iff_toInt_lt.mpr q)
    by_cases h2 : x = y
    · rw [if_pos h2, h2]; exact ⟨fun q => absurd q (by decide), fun q => by omega⟩
    · rw [if_neg h2]
      have : x.toInt ≠ y.toInt := fun q => h2 (Int64.toInt_inj.mp q)
      exact ⟨fun _ => by omega, fun _ => by decide⟩
theorem lgc_gt {x y : Int64} : 0 < lg_cmp x y ↔ y.toInt < x.toInt := by
  unfold lg_cmp
  by_cases h1 : x > y
  · rw [if_pos h1]
    exact ⟨fun _ => Int64.lt_iff_toInt_lt.mp h1, fun _ => by decide⟩
  · rw [if_neg h1]
    have h1' : ¬ y.toInt < x.toInt := fun q => h1 (Int64.lt_iff_toInt_lt.mpr q)
    by_cases h2 : x = y
    · rw [if_pos h2]; exact ⟨fun q => absurd q (by decide), fun q => absurd q h1'⟩
    · rw [if_neg h2]; exact ⟨fun q => absurd q (by decide), fun q => absurd q h1'⟩
theorem lgc_eq {x y : Int64} : lg_cmp x y = 0 ↔ x.toInt = y.toInt := by
  unfold lg_cmp
  by_cases h1 : x > y
  · rw [if_pos h1]
    have : y.toInt < x.toInt := Int64.lt_iff_toInt_lt.mp h1
    exact ⟨fun q => absurd q (by decide), fun q => by omega⟩
  · rw [if_neg h1]
    by_cases h2 : x = y
    · rw [if_pos h2, h2]; exact ⟨fun _ => rfl, fun _ => rfl⟩
    · rw [if_neg h2]
      exact ⟨fun q => absurd q (by decide), fun q => absurd (Int64.toInt_inj.mp q) h2⟩
theorem lgc_ge {x y : Int64} : 0 ≤ lg_cmp x y ↔ y.toInt ≤ x.toInt := by
  rw [← Int32.not_lt, lgc_lt]; omega
theorem lgc_le {x y : Int64} : lg_cmp x y ≤ 0 ↔ x.toInt ≤ y.toInt := by
  rw [← Int32.not_lt, lgc_gt]; omega
/-- down to a whole number, of what is below 0 -/
theorem fl_neg {n d : Nat} (hd : 0 < d) : (n % d = 0 → (-(n : Int)) / (d : Int) = -((n / d : Nat) : Int) ∧ (-(n : Int)) % (d : Int) = 0) ∧ (n % d ≠ 0 → (-(n : Int)) / (d : Int) = -((n / d : Nat) : Int) - 1 ∧ (-(n : Int)) % (d : Int) = ((d - n % d : Nat) : Int)) := by
  have h1 : (d : Int) * ((n / d : Nat) : Int) + ((n % d : Nat) : Int) = (n : Int) := by
    have := Nat.div_add_mod n d
    rw [← Int.natCast_mul, ← Int.natCast_add, this]
  have h2 := Nat.mod_lt n hd
  constructor
  · intro h0
    rw [h0] at h1
    refine (Int.ediv_emod_unique (by omega)).mpr ⟨?_, by omega, by omega⟩
    rw [Int.mul_neg]
    omega
  · intro h0
    refine (Int.ediv_emod_unique (by omega)).mpr ⟨?_, by omega, by omega⟩
    rw [Int.mul_sub, Int.mul_neg, Int.mul_one]
    omega
theorem fl_pos (n d : Nat) : (n : Int) / (d : Int) = ((n / d : Nat) : Int) ∧ (n : Int) % (d : Int) = ((n % d : Nat) : Int) := ⟨(Int.natCast_ediv n d).symm, (Int.natCast_emod n d).symm⟩
section REFPUB
variable {E : cx} {h ab as R W : Nat} {f0 : hm} {sn : Nat → Int32} {sg go gs : Int32} {f : hm} {N : Nat → Nat} {a : regs} {cf : Int × Nat}
theorem D5_add {x y w : Int32} (ok : aOK R W a cf) (Q : rQ E h ab as R W f0 a cf f) : S_X5_add E h x y w f (fun r g => r = (aAdd R W a x y w).1 ∧ rQ E h ab as R W f0 (aAdd R W a x y w).2 cf g) := by
  obtain ⟨N, sn, sg, go, gs, H, hT⟩ := Q
  have hR := ok.1.2
  refine T_X5_add ?_
  unfold X_X5_add_0
  refine U5_areRegisters x y w H ⟨fun c => ?_, fun c => ?_⟩
  · rw [aAdd, if_neg (ite_z.mp c)]
    exact ⟨rfl, N, sn, sg, go, gs, H, hT⟩
  · have c := ite_n c
    rw [aAdd, if_pos c]
    obtain ⟨d, hd, rfl⟩ := isR_of (by omega) c.1
    obtain ⟨x, hx, rfl⟩ := isR_of (by omega) c.2.1
    obtain ⟨y, hy, rfl⟩ := isR_of (by omega) c.2.2
    rw [ix_nI (by omega), ix_nI (by omega), ix_nI (by omega)]
    exact ⟨H.o, C5_sum (v := (a y).1 * (a x).2) ok H hT hd hx hy (by rw [Int32.mul_one, sgI_mulN (ok.2.2.1 x hx).1]) (abs_mulN _ _)⟩
theorem D5_sub {x y w : Int32} (ok : aOK R W a cf) (Q : rQ E h ab as R W f0 a cf f) : S_X5_sub E h x y w f (fun r g => r = (aSub R W a x y w).1 ∧ rQ E h ab as R W f0 (aSub R W a x y w).2 cf g) := by
  obtain ⟨N, sn, sg, go, gs, H, hT⟩ := Q
  have hR := ok.1.2
  refine T_X5_sub ?_
  unfold X_X5_sub_0
  refine U5_areRegisters x y w H ⟨fun c => ?_, fun c => ?_⟩
  · rw [aSub, if_neg (ite_z.mp c)]
    exact ⟨rfl, N, sn, sg, go, gs, H, hT⟩
  · have c := ite_n c
    rw [aSub, if_pos c]
    obtain ⟨d, hd, rfl⟩ := isR_of (by omega) c.1
    obtain ⟨x, hx, rfl⟩ := isR_of (by omega) c.2.1
    obtain ⟨y, hy, rfl⟩ := isR_of (by omega) c.2.2
    rw [ix_nI (by omega), ix_nI (by omega), ix_nI (by omega), Int.sub_eq_add_neg]
    refine ⟨H.o, C5_sum (v := -((a y).1 * (a x).2)) ok H hT hd hx hy ?_ (by rw [Int.natAbs_neg]; exact abs_mulN _ _)⟩
    rw [sgI_neg', sgI_mulN (ok.2.2.1 x hx).1]
    rcases sgI_cases (a y).1 with ⟨_, e⟩ | ⟨_, e⟩ | ⟨_, e⟩ <;> rw [e] <;> rfl
theorem D5_mul {x y w : Int32} (ok : aOK R W a cf) (Q : rQ E h ab as R W f0 a cf f) : S_X5_mul E h x y w f (fun r g => r = (aMul R W a x y w).1 ∧ rQ E h ab as R W f0 (aMul R W a x y w).2 cf g) := by
  obtain ⟨N, sn, sg, go, gs, H, hT⟩ := Q
  have hR := ok.1.2
  have hW := ok.2.1.2
  refine T_X5_mul ?_
  unfold X_X5_mul_0
  refine U5_areRegisters x y w H ⟨fun c => ?_, fun c => ?_⟩
  · have c := ite_n c
    rw [aMul, if_pos c]
    obtain ⟨d, hd, rfl⟩ := isR_of (by omega) c.1
    obtain ⟨x, hx, rfl⟩ := isR_of (by omega) c.2.1
    obtain ⟨y, hy, rfl⟩ := isR_of (by omega) c.2.2
    rw [ix_nI (by omega), ix_nI (by omega), ix_nI (by omega)]
    obtain ⟨x1, x2, x3, x4⟩ := ok.2.2.1 x hx
    obtain ⟨y1, y2, y3, y4⟩ := ok.2.2.1 y hy
    obtain ⟨sx, nx, dx⟩ := hT.1 x hx
    obtain ⟨sy, ny, dy⟩ := hT.1 y hy
    have b1 := p256 (aOK.lt256 hW x3) (aOK.lt256 hW y3)
    have b2 := p256 (aOK.lt256 hW x2) (aOK.lt256 hW y2)
    have q1 := p560
    have q2 := p576
    have q3 := p512
    have q4 := p512'
    refine U5_multiply x y 16 H (by omega) (by omega) (by decide) (by omega) (by omega) (by rw [nx, ny]; omega) (fun g H => ?_)
    rw [ix8, ix8]
    refine U5_multiply (8 + x) (8 + y) 17 H (by omega) (by omega) (by decide) (by omega) (by omega) (by rw [va_up_ne _ _ (by omega), va_up_ne _ _ (by omega), dx, dy]; omega) (fun g H => ?_)
    refine ⟨as, H.r3, _, H.rs (by omega), as, H.r3, _, H.rs (by omega), ?_⟩
    refine F5_store ok H (hT.keep hR (keepN.up (keepN.up keepN.rf (by decide)) (by decide))) ?_ ?_ (Nat.mul_pos x1 y1) ?_ (by omega) (fun _ => ?_) hd (fun g q => ⟨rfl, q⟩)
    · rw [va_up_ne _ _ (by decide), va_up_self, nx, ny, Int.natAbs_mul]
    · rw [va_up_self, va_up_ne _ _ (by omega), va_up_ne _ _ (by omega), dx, dy]
    · rw [Int.natAbs_mul]; omega
    · rw [sx, sy, sgI_mul]
  · rw [aMul, if_neg (ite_z.mp c)]
    exact ⟨rfl, N, sn, sg, go, gs, H, hT⟩
theorem D5_div {x y w : Int32} (ok : aOK R W a cf) (Q : rQ E h ab as R W f0 a cf f) : S_X5_div E h x y w f (fun r g => r = (aDiv R W a x y w).1 ∧ rQ E h ab as R W f0 (aDiv R W a x y w).2 cf g) := by
  obtain ⟨N, sn, sg, go, gs, H, hT⟩ := Q
  have hR := ok.1.2
  have hW := ok.2.1.2
  refine T_X5_div ?_
  unfold X_X5_div_0
  refine U5_areRegisters x y w H ⟨fun c => ?_, fun c => ?_⟩
  · have c := ite_n c
    rw [aDiv, if_pos c]
    obtain ⟨d, hd, rfl⟩ := isR_of (by omega) c.1
    obtain ⟨x, hx, rfl⟩ := isR_of (by omega) c.2.1
    obtain ⟨y, hy, rfl⟩ := isR_of (by omega) c.2.2
    rw [ix_nI (by omega), ix_nI (by omega), ix_nI (by omega)]
    obtain ⟨x1, x2, x3, x4⟩ := ok.2.2.1 x hx
    obtain ⟨y1, y2, y3, y4⟩ := ok.2.2.1 y hy
    obtain ⟨sx, nx, dx⟩ := hT.1 x hx
    obtain ⟨sy, ny, dy⟩ := hT.1 y hy
    have b1 := p256 (aOK.lt256 hW x3) (aOK.lt256 hW y2)
    have b2 := p256 (aOK.lt256 hW x2) (aOK.lt256 hW y3)
    have q1 := p560
    have q2 := p576
    have q3 := p512
    have q4 := p512'
    refine ⟨as, H.r3, _, H.rs (by omega), fun c2 => ?_, fun c2 => ?_⟩
    · rw [sy] at c2
      have z0 : ¬ (a y).1 = 0 := fun q => c2 (sgI_eq0.mpr q)
      rw [if_neg z0, ix8, ix8]
      refine U5_multiply x (8 + y) 16 H (by omega) (by omega) (by decide) (by omega) (by omega) (by rw [nx, dy]; omega) (fun g H => ?_)
      refine U5_multiply (8 + x) y 17 H (by omega) (by omega) (by decide) (by omega) (by omega) (by rw [va_up_ne _ _ (by omega), va_up_ne _ _ (by omega), dx, ny]; omega) (fun g H => ?_)
      refine ⟨as, H.r3, _, H.rs (by omega), as, H.r3, _, H.rs (by omega), ?_⟩
      have ea : ((a x).1 * (a y).2 * (a y).1.sign).natAbs = (a x).1.natAbs * (a y).2 := by
        rw [Int.natAbs_mul, abs_mulN, Int.natAbs_sign_of_ne_zero z0, Nat.mul_one]
      refine F5_store ok H (hT.keep hR (keepN.up (keepN.up keepN.rf (by decide)) (by decide))) ?_ ?_ (Nat.mul_pos x1 (by omega)) ?_ (by omega) (fun _ => ?_) hd (fun g q => ⟨rfl, q⟩)
      · rw [va_up_ne _ _ (by decide), va_up_self, nx, dy, ea]
      · rw [va_up_self, va_up_ne _ _ (by omega), va_up_ne _ _ (by omega), dx, ny]
      · rw [ea]; omega
      · rw [sx, sy, ← sgI_mul, sgI_mulN y1]
        congr 1
        rcases Int.lt_trichotomy (a y).1 0 with q | q | q
        · rw [Int.sign_eq_neg_one_of_neg q, sgI_neg q]; rfl
        · exact absurd q z0
        · rw [Int.sign_eq_one_of_pos q, sgI_pos q]; rfl
    · rw [sy] at c2
      rw [if_pos (sgI_eq0.mp c2)]
      exact ⟨rfl, N, sn, sg, go, gs, H, hT⟩
  · rw [aDiv, if_neg (ite_z.mp c)]
    exact ⟨rfl, N, sn, sg, go, gs, H, hT⟩
theorem D5_cmp {x y : Int32} (ok : aOK R W a cf) (Q : rQ E h ab as R W f0 a cf f) : S_X5_cmp E h x y f (fun r g => r = aCmp R a x y ∧ rQ E h ab as R W f0 a cf g) := by
  obtain ⟨N, sn, sg, go, gs, H, hT⟩ := Q
  have hR := ok.1.2
  have hW := ok.2.1.2
  refine T_X5_cmp ?_
  unfold X_X5_cmp_0
  refine U5_isRegister x H ⟨fun c => ?_, fun c => ?_⟩
  · rw [aCmp, if_neg (fun q => ite_z.mp c q.1)]
    exact ⟨rfl, N, sn, sg, go, gs, H, hT⟩
  · have c := ite_n c
    refine U5_isRegister y H ⟨fun c2 => ?_, fun c2 => ?_⟩
    · have c2 := ite_n c2
      rw [aCmp, if_pos ⟨c, c2⟩]
      obtain ⟨x, hx, rfl⟩ := isR_of (by omega) c
      obtain ⟨y, hy, rfl⟩ := isR_of (by omega) c2
      rw [ix_nI (by omega), ix_nI (by omega)]
      obtain ⟨x1, x2, x3, x4⟩ := ok.2.2.1 x hx
      obtain ⟨y1, y2, y3, y4⟩ := ok.2.2.1 y hy
      obtain ⟨sx, nx, dx⟩ := hT.1 x hx
      obtain ⟨sy, ny, dy⟩ := hT.1 y hy
      have b1 := p256 (aOK.lt256 hW x3) (aOK.lt256 hW y2)
      have b2 := p256 (aOK.lt256 hW y3) (aOK.lt256 hW x2)
      have q1 := p560
      have q2 := p576
      have q3 := p512
      have q4 := p512'
      refine ⟨as, H.r3, _, H.rs (by omega), as, H.r3, _, H.rs (by omega), ?_⟩
      rw [sx, sy, ix8, ix8]
      refine ⟨fun c3 => ?_, fun c3 => ⟨as, H.r3, _, H.rs (by omega), as, H.r3, _, H.rs (by omega), ?_⟩⟩
      · rw [cmpF, if_pos c3]
        refine U5_multiply x (8 + y) 18 H (by omega) (by omega) (by decide) (by omega) (by omega) (by rw [nx, dy]; omega) (fun g H => ?_)
        refine U5_multiply y (8 + x) 19 H (by omega) (by omega) (by decide) (by omega) (by omega) (by rw [va_up_ne _ _ (by omega), va_up_ne _ _ (by omega), ny, dx]; omega) (fun g H => ?_)
        refine ⟨as, H.r3, _, H.rs (by omega), ?_⟩
        refine U5_compare 18 19 H (by decide) (by decide) ?_
        rw [va_up_ne _ _ (by decide), va_up_self, va_up_self, va_up_ne _ _ (by omega), va_up_ne _ _ (by omega), nx, ny, dx, dy, sx]
        exact ⟨rfl, _, sn, sg, go, gs, H, hT.keep hR (keepN.up (keepN.up keepN.rf (by decide)) (by decide))⟩
      · rw [sx, sy, cmpF, if_neg c3]
        refine ⟨fun c4 => ?_, fun c4 => ?_⟩
        · rw [if_neg (Int32.not_lt.mpr c4)]; exact ⟨rfl, N, sn, sg, go, gs, H, hT⟩
        · rw [if_pos (Int32.not_le.mp c4)]; exact ⟨rfl, N, sn, sg, go, gs, H, hT⟩
    · rw [aCmp, if_neg (fun q => ite_z.mp c2 q.2)]
      exact ⟨rfl, N, sn, sg, go, gs, H, hT⟩
end REFPUB
