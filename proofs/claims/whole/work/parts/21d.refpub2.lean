/-! The reference: down to a whole number, continued fractions, limbs, set. -/
section REFPUB2
variable {E : cx} {h ab as R W : Nat} {f0 : hm} {sn : Nat → Int32} {sg go gs : Int32} {f : hm} {N : Nat → Nat} {a : regs} {cf : Int × Nat}
/-- number n1 with its sign, over number n2, down to a whole number: number 20 is that, without its sign, 21 what is left; the sign is answered -/
theorem C5_down {n1 n2 D : Nat} {z : Int} (H : rS E h ab as (nI R) (nI W) f0 N sn sg go gs f) (h1 : n1 < 27) (h2 : n2 < 27) (a1 : n1 ≠ 20) (a2 : n1 ≠ 21) (b1 : n2 ≠ 20) (b2 : n2 ≠ 21) (b3 : n2 ≠ 24) (e1 : N n1 = z.natAbs) (e2 : N n2 = D) (hD : 0 < D) (l1 : z.natAbs < 65536 ^ 35) (l2 : D < 65536 ^ 35) :
    S_X5_down E h (nI n1) (nI n2) (sgI z) f (fun r g => r = sgI (z / (D : Int)) ∧ ∃ M : Nat → Nat, rS E h ab as (nI R) (nI W) f0 M sn sg go gs g ∧ M 20 = (z / (D : Int)).natAbs ∧ M 21 = (z % (D : Int)).toNat ∧ ∀ m, m ≠ 20 → m ≠ 21 → m ≠ 24 → M m = N m) := by
  have q1 : 65536 * 65536 ^ 35 = 65536 ^ 36 := by rw [← Nat.pow_succ']
  have hq : z.natAbs / D ≤ z.natAbs := Nat.div_le_self _ _
  have hm := Nat.mod_lt z.natAbs hD
  refine T_X5_down ?_
  unfold X_X5_down_0
  refine U5_divide n1 n2 H h1 h2 a1 a2 b1 b2 (by omega) (by omega) (fun g H => ?_)
  rw [e1, e2] at H
  have cz := sgI_cases z
  have hdm := Nat.div_add_mod z.natAbs D
  have same : ∀ (hz : 0 ≤ z ∨ z.natAbs % D = 0), isO g h 5 ∧ S_X5_isZero E h (20 : Int32) g (fun r6 f5 => ((r6 = 0 → ((fun r g => r = sgI (z / (D : Int)) ∧ ∃ M : Nat → Nat, rS E h ab as (nI R) (nI W) f0 M sn sg go gs g ∧ M 20 = (z / (D : Int)).natAbs ∧ M 21 = (z % (D : Int)).toNat ∧ ∀ m, m ≠ 20 → m ≠ 21 → m ≠ 24 → M m = N m) (sgI z) f5)) ∧ (¬ (r6 = 0) → ((fun r g => r = sgI (z / (D : Int)) ∧ ∃ M : Nat → Nat, rS E h ab as (nI R) (nI W) f0 M sn sg go gs g ∧ M 20 = (z / (D : Int)).natAbs ∧ M 21 = (z % (D : Int)).toNat ∧ ∀ m, m ≠ 20 → m ≠ 21 → m ≠ 24 → M m = N m) (0 : Int32) f5)))) := by
    intro hz
    have ez : (z / (D : Int)).natAbs = z.natAbs / D ∧ (z % (D : Int)).toNat = z.natAbs % D ∧ ((z.natAbs / D = 0 ∧ z / (D : Int) = 0) ∨ (0 < z.natAbs / D ∧ sgI z = sgI (z / (D : Int)))) := by
      rcases Int.lt_or_le z 0 with hn | hp
      · have h0 : z.natAbs % D = 0 := by omega
        obtain ⟨k1, k2⟩ := (fl_neg (n := z.natAbs) hD).1 h0
        rw [show -((z.natAbs : Nat) : Int) = z by omega] at k1 k2
        rw [k1, k2, h0]
        refine ⟨by rw [Int.natAbs_neg, Int.natAbs_natCast], rfl, Or.inr ?_⟩
        have : 0 < z.natAbs / D := by
          rcases Nat.eq_zero_or_pos (z.natAbs / D) with q | q
          · rw [q, h0] at hdm; omega
          · exact q
        have ng : ∀ n : Nat, 0 < n → sgI (-(n : Int)) = -1 := fun n hn => sgI_neg (by omega)
        exact ⟨this, by rw [sgI_neg hn, ng _ this]⟩
      · obtain ⟨k1, k2⟩ := fl_pos z.natAbs D
        rw [show ((z.natAbs : Nat) : Int) = z by omega] at k1 k2
        rw [k1, k2]
        refine ⟨Int.natAbs_natCast _, Int.toNat_natCast _, ?_⟩
        rcases Nat.eq_zero_or_pos (z.natAbs / D) with q | q
        · exact Or.inl ⟨q, by rw [q]; rfl⟩
        · refine Or.inr ⟨q, ?_⟩
          have : 0 < z := by
            rcases Int.lt_or_le 0 z with w | w
            · exact w
            · have : z = 0 := by omega
              subst this
              simp at q
          have ps : ∀ n : Nat, 0 < n → sgI (n : Int) = 1 := fun n hn => sgI_pos (by omega)
          rw [sgI_pos this, ps _ q]
    have fin : ∃ M : Nat → Nat, rS E h ab as (nI R) (nI W) f0 M sn sg go gs g ∧ M 20 = (z / (D : Int)).natAbs ∧ M 21 = (z % (D : Int)).toNat ∧ ∀ m, m ≠ 20 → m ≠ 21 → m ≠ 24 → M m = N m := by
      refine ⟨_, H, ?_, ?_, fun m m0 m1 _ => ?_⟩
      · rw [va_up_ne _ _ (by decide), va_up_self, ez.1]
      · rw [va_up_self, ez.2.1]
      · rw [va_up_ne _ _ m1, va_up_ne _ _ m0]
    refine U5_isZero 20 H (by decide) ?_
    rw [va_up_ne _ _ (by decide), va_up_self]
    refine ⟨fun c => ⟨?_, fin⟩, fun c => ⟨?_, fin⟩⟩
    · have c := ite_z.mp c
      rcases ez.2.2 with w | w
      · exact absurd w.1 c
      · exact w.2
    · have c := ite_n c
      rcases ez.2.2 with w | w
      · rw [w.2]; rfl
      · omega
  refine ⟨fun c => ?_, fun c => ?_⟩
  · refine same (Or.inl ?_)
    rcases cz with ⟨k1, k2⟩ | ⟨k1, k2⟩ | ⟨k1, k2⟩
    · rw [k2] at c; exact absurd c (by decide)
    · omega
    · omega
  · have hn : z < 0 := by
      rcases cz with ⟨k1, k2⟩ | ⟨k1, k2⟩ | ⟨k1, k2⟩
      · exact k1
      · rw [k2] at c; exact absurd (by decide) c
      · rw [k2] at c; exact absurd (by decide) c
    refine U5_isZero 21 H (by decide) ?_
    rw [va_up_self]
    refine ⟨fun c2 => ?_, fun c2 => same (Or.inr (ite_n c2))⟩
    have c2 := ite_z.mp c2
    obtain ⟨k1, k2⟩ := (fl_neg (n := z.natAbs) hD).2 c2
    rw [show -((z.natAbs : Nat) : Int) = z by omega] at k1 k2
    refine U5_copy 21 24 H (by decide) (by decide) (fun g H => ?_)
    rw [va_up_self] at H
    refine U5_copy n2 21 H h2 (by decide) (fun g H => ?_)
    rw [va_up_ne _ _ b3, va_up_ne _ _ b2, va_up_ne _ _ b1, e2] at H
    refine U5_lessen 21 24 H (by decide) (by decide) (by decide) (by rw [va_up_self, va_up_ne _ _ (by decide), va_up_self]; omega) (fun g H => ?_)
    rw [va_up_self, va_up_ne _ _ (by decide), va_up_self] at H
    refine U5_put 24 1 H (by decide) (by decide) (fun g H => ?_)
    refine U5_plus 20 24 H (by decide) (by decide) (by decide) (by rw [va_up_self, va_up_ne _ _ (by decide), va_up_ne _ _ (by decide), va_up_ne _ _ (by decide), va_up_ne _ _ (by decide), va_up_ne _ _ (by decide), va_up_self]; omega) (fun g H => ?_)
    have ng : ∀ n : Nat, sgI (-(n : Int) - 1) = -1 ∧ (-(n : Int) - 1).natAbs = n + 1 := fun n => ⟨sgI_neg (by omega), by omega⟩
    refine ⟨by rw [k1, (ng _).1], _, H, ?_, ?_, fun m m0 m1 m2 => ?_⟩
    · rw [va_up_self, va_up_ne _ _ (by decide), va_up_ne _ _ (by decide), va_up_ne _ _ (by decide), va_up_ne _ _ (by decide), va_up_ne _ _ (by decide), va_up_self, va_up_self, k1, (ng _).2]
    · rw [va_up_ne _ _ (by decide), va_up_ne _ _ (by decide), va_up_self, k2, Int.toNat_natCast]
    · rw [va_up_ne _ _ m0, va_up_ne _ _ m2, va_up_ne _ _ m1, va_up_ne _ _ m1, va_up_ne _ _ m2, va_up_ne _ _ m1, va_up_ne _ _ m0]
theorem lsl16 {n : Nat} : j_lshl (lN n) (16 : Int32) = lN (n * 65536) := by
  show lN n <<< ((nI 16).toInt64 &&& 63) = _
  rw [wb_shl n (by decide)]
theorem C5_quotient {q : Int} (H : rS E h ab as (nI R) (nI W) f0 N sn sg go gs f) (e20 : N 20 = q.natAbs) : S_X5_quotient E h (sgI q) f (fun r g => g = f ∧ r.toInt = if q.natAbs < 2 ^ 40 then q else 2 ^ 41) := by
  refine T_X5_quotient (fun t a x1 x2 x4 g => t ≤ 3 ∧ a = h ∧ x1 = sgI q ∧ x4 = nI t + (-1) ∧ g = f ∧ x2 = lN (N 20 / 65536 ^ t % 65536 ^ (3 - t))) ?_ ?_
  · exact ⟨3, by omega, rfl, rfl, by decide, rfl, by simp [Nat.mod_one]; rfl⟩
  · rintro t a x1 x2 x4 g ⟨ht, rfl, rfl, rfl, rfl, rfl⟩
    unfold X_X5_quotient_5
    cases t with
    | zero =>
      refine ⟨fun c => ?_, fun c => absurd (by decide) c⟩
      refine U5_bitsOf 20 H (by decide) (fun b hb hl => ⟨fun c2 => ⟨rfl, ?_⟩, fun c2 => ⟨rfl, ?_⟩⟩)
      · rw [show (40 : Int32) = nI 40 from rfl, nI_leI (by omega) (by decide)] at c2
        have hlt := (lenIs_iff hl).mp c2
        rw [e20] at hlt
        rw [if_pos hlt, e20, Nat.pow_zero, Nat.div_one, Nat.mod_eq_of_lt (by omega)]
        have eN := pf_lI (a := q.natAbs) (by omega)
        rcases sgI_cases q with ⟨k1, k2⟩ | ⟨k1, k2⟩ | ⟨k1, k2⟩ <;> rw [k2]
        · rw [show (-1 : Int32).toInt64 = -1 from rfl, Int64.neg_mul, Int64.one_mul, Int64.toInt_neg, eN, Int.bmod_eq_of_le (by omega) (by omega)]
          omega
        · rw [show (0 : Int32).toInt64 = 0 from rfl, Int64.zero_mul, k1]; rfl
        · rw [show (1 : Int32).toInt64 = 1 from rfl, Int64.one_mul, eN]
          omega
      · rw [show (40 : Int32) = nI 40 from rfl, nI_leI (by omega) (by decide)] at c2
        rw [if_neg (fun z => c2 ((lenIs_iff hl).mpr (by rw [e20]; exact z)))]
        rfl
    | succ t =>
      rw [nI_m1]
      refine ⟨fun c => absurd c (nI_pos (by omega)), fun c => ?_⟩
      rw [show (720 : Int32) + nI t = nI (36 * 20 + t) by rw [show (720 : Int32) = nI 720 from rfl, nI_add]]
      refine ⟨ab, H.r2, _, H.rd (by decide) (by omega), ?_⟩
      have d1 := dg_lt (B := 65536) (by decide) (N 20) t
      rintro x rfl y rfl
      refine ⟨t, by omega, by omega, rfl, rfl, rfl, rfl, ?_⟩
      rw [lsl16, nI_l (by omega), lN_add]
      congr 1
      have e1 : N 20 / 65536 ^ (t + 1) = N 20 / 65536 ^ t / 65536 := by rw [Nat.div_div_eq_div_mul, Nat.pow_succ]
      rw [e1, dg, show 3 - t = (3 - (t + 1)) + 1 by omega, Nat.pow_succ, Nat.mul_comm (65536 ^ _) 65536, Nat.mod_mul]
      omega
theorem U5_down {K : Int32 → hm → Prop} {D : Nat} {z : Int} (n1 n2 : Nat) (H : rS E h ab as (nI R) (nI W) f0 N sn sg go gs f) (h1 : n1 < 27) (h2 : n2 < 27) (a1 : n1 ≠ 20) (a2 : n1 ≠ 21) (b1 : n2 ≠ 20) (b2 : n2 ≠ 21) (b3 : n2 ≠ 24) (e1 : N n1 = z.natAbs) (e2 : N n2 = D) (hD : 0 < D) (l1 : z.natAbs < 65536 ^ 35) (l2 : D < 65536 ^ 35) (k : ∀ (g : hm) (M : Nat → Nat), rS E h ab as (nI R) (nI W) f0 M sn sg go gs g → M 20 = (z / (D : Int)).natAbs → M 21 = (z % (D : Int)).toNat → (∀ m, m ≠ 20 → m ≠ 21 → m ≠ 24 → M m = N m) → K (sgI (z / (D : Int))) g) : isO f h 5 ∧ S_X5_down E h (nI n1) (nI n2) (sgI z) f K := ⟨H.o, MI.mono (C5_down H h1 h2 a1 a2 b1 b2 b3 e1 e2 hD l1 l2) (fun r g ⟨e, M, q1, q2, q3, q4⟩ => by rw [e]; exact k g M q1 q2 q3 q4)⟩
theorem U5_quotient {K : Int64 → hm → Prop} {q : Int} (H : rS E h ab as (nI R) (nI W) f0 N sn sg go gs f) (e20 : N 20 = q.natAbs) (k : ∀ r : Int64, (r.toInt = if q.natAbs < 2 ^ 40 then q else 2 ^ 41) → K r f) : isO f h 5 ∧ S_X5_quotient E h (sgI q) f K := ⟨H.o, ML.mono (C5_quotient H e20) (fun r g ⟨e, q⟩ => by rw [e]; exact k r q)⟩
theorem keepN.down {M : Nat → Nat} (hk : ∀ m, m ≠ 20 → m ≠ 21 → m ≠ 24 → M m = N m) : keepN N M := fun m hm => hk m (by omega) (by omega) (by omega)
theorem qt_in {r : Int64} {q : Int} (hr : r.toInt = if q.natAbs < 2 ^ 40 then q else 2 ^ 41) : (inI q ↔ -2147483648 ≤ r.toInt ∧ r.toInt ≤ 2147483647) ∧ (inI q → r.toInt = q) := by
  split at hr
  · rw [hr]; exact ⟨Iff.rfl, fun _ => rfl⟩
  · rw [hr]; constructor
    · omega
    · intro hq; omega
theorem p256' {n : Nat} (hW : W ≤ 8) (h : n < 2 ^ (32 * W)) : n < 65536 ^ 35 := by
  have h1 := aOK.lt256 hW h
  have : (2 : Nat) ^ 256 < 65536 ^ 35 := by decide +kernel
  omega
/-- fits, and what it leaves -/
theorem D5_fits {x : Int32} (ok : aOK R W a cf) (Q : rQ E h ab as R W f0 a cf f) : S_X5_fits E h x f (fun r g => r = aFits R a x ∧ rQ E h ab as R W f0 a cf g) := by
  obtain ⟨N, sn, sg, go, gs, H, hT⟩ := Q
  have hR := ok.1.2
  have hW := ok.2.1.2
  refine T_X5_fits ?_
  unfold X_X5_fits_0
  refine U5_isRegister x H ⟨fun c => ?_, fun c => ?_⟩
  · have c := ite_n c
    obtain ⟨x, hx, rfl⟩ := isR_of (by omega) c
    obtain ⟨x1, x2, x3, x4⟩ := ok.2.2.1 x hx
    obtain ⟨sx, nx, dx⟩ := hT.1 x hx
    refine ⟨as, H.r3, _, H.rs (by omega), ?_⟩
    rw [sx, ix8, aFits, ix_nI (by omega)]
    refine U5_down x (8 + x) H (by omega) (by omega) (by omega) (by omega) (by omega) (by omega) (by omega) nx dx x1 (p256' hW x3) (p256' hW x2) (fun g M H m20 m21 hk => ?_)
    refine U5_quotient H m20 (fun r hr => ?_)
    obtain ⟨w1, w2⟩ := qt_in hr
    have done : ∀ v : Int32, v = (if isR R (nI x) ∧ inI ((a x).1 / ((a x).2 : Int)) then 1 else 0) → (v = (if isR R (nI x) ∧ inI ((a x).1 / ((a x).2 : Int)) then 1 else 0) ∧ rQ E h ab as R W f0 a cf g) := fun v hv => ⟨hv, M, sn, sg, go, gs, H, hT.keep hR (keepN.down hk)⟩
    have el : (-2147483648 : Int64).toInt = -2147483648 := rfl
    have eu : (2147483647 : Int64).toInt = 2147483647 := rfl
    rw [lgc_lt, lgc_gt, el, eu]
    refine ⟨fun c2 => ⟨nb0, done 0 ?_⟩, fun c2 => ⟨fun c3 => ⟨nb0, done 0 ?_⟩, fun c3 => ⟨nb1, done 1 ?_⟩⟩⟩
    · rw [if_neg (fun q => by have := w1.mp q.2; omega)]
    · rw [if_neg (fun q => by have := w1.mp q.2; omega)]
    · rw [if_pos ⟨c, w1.mpr ⟨by omega, by omega⟩⟩]
  · rw [aFits, if_neg (fun q => ite_z.mp c q.1)]
    exact ⟨nb0, rfl, N, sn, sg, go, gs, H, hT⟩
theorem to32 {r : Int64} {q : Int} (h : r.toInt = q) : r.toInt32 = Int32.ofInt q := by
  apply Int32.toInt_inj.mp
  rw [Int64.toInt_toInt32, h, Int32.toInt_ofInt]
theorem D5_floorSmall {x : Int32} (ok : aOK R W a cf) (Q : rQ E h ab as R W f0 a cf f) : S_X5_floorSmall E h x f (fun r g => r = aFloor R a x ∧ rQ E h ab as R W f0 a cf g) := by
  have hR := ok.1.2
  have hW := ok.2.1.2
  refine T_X5_floorSmall ?_
  unfold X_X5_floorSmall_0
  refine ⟨by obtain ⟨N, sn, sg, go, gs, H, hT⟩ := Q; exact H.o, MI.mono (D5_fits ok Q) (fun r g q => ?_)⟩
  obtain ⟨rfl, N, sn, sg, go, gs, H, hT⟩ := q
  refine ⟨fun c => ?_, fun c => ?_⟩
  · rw [aFloor, if_neg (ite_z.mp c)]
    exact ⟨rfl, N, sn, sg, go, gs, H, hT⟩
  · have c := ite_n c
    rw [aFloor, if_pos c]
    obtain ⟨c, ci⟩ := c
    obtain ⟨x, hx, rfl⟩ := isR_of (by omega) c
    obtain ⟨x1, x2, x3, x4⟩ := ok.2.2.1 x hx
    obtain ⟨sx, nx, dx⟩ := hT.1 x hx
    rw [ix_nI (by omega)] at ci ⊢
    refine ⟨as, H.r3, _, H.rs (by omega), ?_⟩
    rw [sx, ix8]
    refine U5_down x (8 + x) H (by omega) (by omega) (by omega) (by omega) (by omega) (by omega) (by omega) nx dx x1 (p256' hW x3) (p256' hW x2) (fun g M H m20 m21 hk => ?_)
    refine U5_quotient H m20 (fun r hr => ?_)
    obtain ⟨w1, w2⟩ := qt_in hr
    exact ⟨to32 (w2 ci), M, sn, sg, go, gs, H, hT.keep hR (keepN.down hk)⟩
theorem D5_cfStart {x : Int32} (ok : aOK R W a cf) (Q : rQ E h ab as R W f0 a cf f) : S_X5_cfStart E h x f (fun r g => r = (aCfStart R a cf x).1 ∧ rQ E h ab as R W f0 a (aCfStart R a cf x).2 g) := by
  obtain ⟨N, sn, sg, go, gs, H, hT⟩ := Q
  have hR := ok.1.2
  refine T_X5_cfStart ?_
  unfold X_X5_cfStart_0
  refine U5_isRegister x H ⟨fun c => ?_, fun c => ?_⟩
  · have c := ite_n c
    rw [aCfStart, if_pos c]
    obtain ⟨x, hx, rfl⟩ := isR_of (by omega) c
    obtain ⟨x1, x2, x3, x4⟩ := ok.2.2.1 x hx
    obtain ⟨sx, nx, dx⟩ := hT.1 x hx
    rw [ix_nI (by omega), ix8]
    refine U5_copy x 22 H (by omega) (by decide) (fun g H => ?_)
    refine U5_copy (8 + x) 23 H (by omega) (by decide) (fun g H => ?_)
    rw [va_up_ne _ _ (by omega), nx, dx] at H
    obtain ⟨g1, hw1, H1⟩ := w6S H (sn x)
    obtain ⟨g2, hw2, H2⟩ := w5S H1 1
    refine ⟨as, H.r3, _, H.rs (by omega), g1, hw1, ⟨nb1, fb1⟩, g2, hw2, nb1, rfl, _, sn, sg, _, _, H2, fun r hr => ?_, ?_, fun _ => ⟨?_, ?_, sx⟩⟩
    · rw [va_up_ne _ _ (by omega), va_up_ne _ _ (by omega), va_up_ne _ _ (by omega), va_up_ne _ _ (by omega)]
      exact hT.1 r hr
    · rw [if_neg (show ¬ (a x).2 = 0 by omega)]
    · rw [va_up_ne _ _ (by decide), va_up_self]
    · rw [va_up_self]
  · rw [aCfStart, if_neg (ite_z.mp c)]
    exact ⟨nb0, rfl, N, sn, sg, go, gs, H, hT⟩
theorem D5_cfDone (Q : rQ E h ab as R W f0 a cf f) : S_X5_cfDone E h f (fun r g => r = aCfDone cf ∧ rQ E h ab as R W f0 a cf g) := by
  obtain ⟨N, sn, sg, go, gs, H, hT⟩ := Q
  refine T_X5_cfDone ?_
  unfold X_X5_cfDone_0
  have hg := hT.2.1
  refine ⟨go, H.r5, fun c => ⟨nb0, ?_, N, sn, sg, go, gs, H, hT⟩, fun c => ⟨nb1, ?_, N, sn, sg, go, gs, H, hT⟩⟩
  · rw [aCfDone]
    split
    · rename_i q; rw [if_pos q] at hg; exact absurd hg c
    · rfl
  · rw [aCfDone]
    split
    · rfl
    · rename_i q; rw [if_neg q] at hg; rw [hg] at c; exact absurd c (by decide)
theorem D5_cfNext (ok : aOK R W a cf) (Q : rQ E h ab as R W f0 a cf f) : S_X5_cfNext E h f (fun r g => r = (aCfNext cf).1 ∧ rQ E h ab as R W f0 a (aCfNext cf).2 g) := by
  obtain ⟨N, sn, sg, go, gs, H, hT⟩ := Q
  have hR := ok.1.2
  have hW := ok.2.1.2
  refine T_X5_cfNext ?_
  unfold X_X5_cfNext_0
  have hg := hT.2.1
  refine ⟨go, H.r5, fun c => ?_, fun c => ?_⟩
  · have h0 : ¬ cf.2 = 0 := fun q => c (by rw [hg, if_pos q])
    obtain ⟨e22, e23, egs⟩ := hT.2.2 h0
    refine ⟨gs, H.r6, ?_⟩
    rw [egs]
    refine U5_down 22 23 H (by decide) (by decide) (by decide) (by decide) (by decide) (by decide) (by decide) e22 e23 (by omega) (p256' hW ok.2.2.2.1) (p256' hW ok.2.2.2.2) (fun g M H m20 m21 hk => ?_)
    refine U5_quotient H m20 (fun r hr => ?_)
    obtain ⟨w1, w2⟩ := qt_in hr
    have el : (-2147483648 : Int64).toInt = -2147483648 := rfl
    have eu : (2147483647 : Int64).toInt = 2147483647 := rfl
    have hk2 := hT.keep hR (keepN.down hk)
    rw [lgc_le, lgc_le, el, eu, aCfNext, if_neg h0]
    have out : ¬ (-2147483648 < r.toInt ∧ r.toInt ≤ 2147483647) → ¬ (-2147483648 < cf.1 / (cf.2 : Int) ∧ cf.1 / (cf.2 : Int) ≤ 2147483647) := fun q z => q (by
      have := w2 ⟨by omega, z.2⟩
      omega)
    refine ⟨fun c2 => ?_, fun c2 => ⟨fun c3 => ?_, fun c3 => ?_⟩⟩
    · rw [if_neg (out (by omega))]
      exact ⟨rfl, M, sn, sg, go, gs, H, hk2⟩
    · have hin : inI (cf.1 / (cf.2 : Int)) := w1.mpr ⟨by omega, c3⟩
      have er := w2 hin
      rw [if_pos ⟨by omega, by omega⟩, ← to32 er]
      have m23 : M 23 = cf.2 := by rw [hk 23 (by decide) (by decide) (by decide), e23]
      have fin : ∀ (v : Int32) (g : hm), v = (if (cf.1 % (cf.2 : Int)).toNat = 0 then 0 else 1) → rS E h ab as (nI R) (nI W) f0 M sn sg v gs g → isO g h 5 ∧ S_X5_copy E h (23 : Int32) (22 : Int32) g (fun f19 => isO f19 h 5 ∧ S_X5_copy E h (21 : Int32) (23 : Int32) f19 (fun f21 => ∃ f22 : hm, wrV f21 h 5 6 (.int (1 : Int32)) = some f22 ∧ (r.toInt32 = r.toInt32 ∧ rQ E h ab as R W f0 a ((cf.2 : Int), (cf.1 % (cf.2 : Int)).toNat) f22))) := by
        intro v g hv H
        refine U5_copy 23 22 H (by decide) (by decide) (fun g H => ?_)
        refine U5_copy 21 23 H (by decide) (by decide) (fun g H => ?_)
        rw [va_up_ne _ _ (by decide), m23, m21] at H
        obtain ⟨g1, hw1, H1⟩ := w6S H 1
        refine ⟨g1, hw1, rfl, _, sn, sg, v, 1, H1, fun r hr => ?_, hv, fun _ => ⟨?_, ?_, ?_⟩⟩
        · rw [va_up_ne _ _ (by omega), va_up_ne _ _ (by omega), va_up_ne _ _ (by omega), va_up_ne _ _ (by omega)]
          exact hk2.1 r hr
        · rw [va_up_ne _ _ (by decide), va_up_self]; exact (Int.natAbs_natCast _).symm
        · rw [va_up_self]
        · rw [sgI_pos]
          show (0 : Int) < (cf.2 : Int)
          omega
      refine U5_isZero 21 H (by decide) ?_
      rw [m21]
      refine ⟨fun c4 => ⟨⟨nb0, fb0⟩, ?_⟩, fun c4 => ⟨⟨nb1, fb1⟩, ?_⟩⟩
      · obtain ⟨g1, hw1, H1⟩ := w5S H 0
        exact ⟨g1, hw1, fin 0 g1 (by rw [if_pos (ite_n c4)]) H1⟩
      · obtain ⟨g1, hw1, H1⟩ := w5S H 1
        exact ⟨g1, hw1, fin 1 g1 (by rw [if_neg (ite_z.mp c4)]) H1⟩
    · rw [if_neg (out (by omega))]
      exact ⟨rfl, M, sn, sg, go, gs, H, hk2⟩
  · have h0 : cf.2 = 0 := by
      rcases Nat.eq_zero_or_pos cf.2 with q | q
      · exact q
      · rw [if_neg (by omega)] at hg; rw [hg] at c; exact absurd c (by decide)
    rw [aCfNext, if_pos h0]
    exact ⟨rfl, N, sn, sg, go, gs, H, hT⟩
end REFPUB2
