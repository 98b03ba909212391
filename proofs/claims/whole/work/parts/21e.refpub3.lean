/-! The reference: limbs, sign, set, farther. -/
theorem limb_dg (n i : Nat) : dg 4294967296 n i = dg 65536 n (2 * i) + dg 65536 n (2 * i + 1) * 65536 := by
  have e1 : (4294967296 : Nat) ^ i = 65536 ^ (2 * i) := by rw [show (4294967296 : Nat) = 65536 ^ 2 from rfl, ← Nat.pow_mul]
  have e2 : n / 65536 ^ (2 * i + 1) = n / 65536 ^ (2 * i) / 65536 := by rw [Nat.div_div_eq_div_mul, Nat.pow_succ]
  unfold dg
  rw [e1, e2]
  omega
theorem l64 (p : Int32) : p.toInt64.toInt = p.toInt := Int32.toInt_toInt64 p
theorem i32r (p : Int32) : -2147483648 ≤ p.toInt ∧ p.toInt ≤ 2147483647 := ⟨Int32.le_toInt p, Int32.toInt_le p⟩
theorem l64p {p : Int32} (h : 0 ≤ p.toInt) : p.toInt64 = lN p.toInt.natAbs := by
  have := i32r p
  apply Int64.toInt_inj.mp
  rw [l64, pf_lI (by omega)]
  omega
theorem l64n {p : Int32} (h : ¬ 0 ≤ p.toInt) : -p.toInt64 = lN p.toInt.natAbs := by
  have := i32r p
  apply Int64.toInt_inj.mp
  rw [Int64.toInt_neg, l64, pf_lI (by omega), Int.bmod_eq_of_le (by omega) (by omega)]
  omega
section REFPUB3
variable {E : cx} {h ab as R W : Nat} {f0 : hm} {sn : Nat → Int32} {sg go gs : Int32} {f : hm} {N : Nat → Nat} {a : regs} {cf : Int × Nat}
theorem C5_limb {x : Int32} {n : Nat} (H : rS E h ab as (nI R) (nI W) f0 N sn sg go gs f) (hn : n < 27) : S_X5_limb E h (nI n) x f (fun r g => g = f ∧ r = limbOf (N n) x) := by
  refine T_X5_limb ?_
  unfold X_X5_limb_0
  refine ⟨fun c => ⟨rfl, by rw [limbOf, if_pos c]⟩, fun c => ?_⟩
  rw [limbOf, if_neg c]
  obtain ⟨j, hj, rfl⟩ := nI_of c
  rw [ix_nI hj]
  refine ⟨fun c2 => ?_, fun c2 => ⟨rfl, ?_⟩⟩
  · rw [show (17 : Int32) = nI 17 from rfl, nI_leI hj (by decide)] at c2
    rw [show (2 : Int32) = nI 2 from rfl, pk_mul, ix36, nI_1]
    refine ⟨ab, H.r2, _, H.rd hn (by omega), ab, H.r2, _, H.rd (k := 2 * j + 1) hn (by omega), rfl, ?_⟩
    have d1 := dg_lt (B := 65536) (by decide) (N n) (2 * j)
    have d2 := dg_lt (B := 65536) (by decide) (N n) (2 * j + 1)
    rw [pk_shlN _ 16 (by decide) (by omega), nI_or, limb_dg]
    congr 1
    rw [Nat.or_comm, Nat.mul_comm (dg 65536 (N n) (2 * j + 1)), ← Nat.two_pow_add_eq_or_of_lt (i := 16) d1]
    omega
  · rw [show (17 : Int32) = nI 17 from rfl, nI_leI hj (by decide)] at c2
    rw [dg_big]
    · rfl
    · have h1 := H.lt hn
      have h2 : (65536 : Nat) ^ 36 = 4294967296 ^ 18 := by decide +kernel
      have h3 : (4294967296 : Nat) ^ 18 ≤ 4294967296 ^ j := Nat.pow_le_pow_right (by decide) (by omega)
      omega
theorem D5_numLimb {x i : Int32} (ok : aOK R W a cf) (Q : rQ E h ab as R W f0 a cf f) : S_X5_numLimb E h x i f (fun r g => r = aNum R a x i ∧ rQ E h ab as R W f0 a cf g) := by
  obtain ⟨N, sn, sg, go, gs, H, hT⟩ := Q
  have hR := ok.1.2
  refine T_X5_numLimb ?_
  unfold X_X5_numLimb_0
  refine U5_isRegister x H ⟨fun c => ?_, fun c => ?_⟩
  · rw [aNum, if_neg (ite_z.mp c)]
    exact ⟨rfl, N, sn, sg, go, gs, H, hT⟩
  · have c := ite_n c
    rw [aNum, if_pos c]
    obtain ⟨x, hx, rfl⟩ := isR_of (by omega) c
    obtain ⟨sx, nx, dx⟩ := hT.1 x hx
    rw [ix_nI (by omega), ← nx]
    exact ⟨H.o, MI.mono (C5_limb H (by omega)) (fun r g q => by rw [q.1]; exact ⟨q.2, N, sn, sg, go, gs, H, hT⟩)⟩
theorem D5_denLimb {x i : Int32} (ok : aOK R W a cf) (Q : rQ E h ab as R W f0 a cf f) : S_X5_denLimb E h x i f (fun r g => r = aDen R a x i ∧ rQ E h ab as R W f0 a cf g) := by
  obtain ⟨N, sn, sg, go, gs, H, hT⟩ := Q
  have hR := ok.1.2
  refine T_X5_denLimb ?_
  unfold X_X5_denLimb_0
  refine U5_isRegister x H ⟨fun c => ?_, fun c => ?_⟩
  · rw [aDen, if_neg (ite_z.mp c)]
    exact ⟨rfl, N, sn, sg, go, gs, H, hT⟩
  · have c := ite_n c
    rw [aDen, if_pos c]
    obtain ⟨x, hx, rfl⟩ := isR_of (by omega) c
    obtain ⟨sx, nx, dx⟩ := hT.1 x hx
    rw [ix_nI (by omega), ← dx, ix8]
    exact ⟨H.o, MI.mono (C5_limb H (by omega)) (fun r g q => by rw [q.1]; exact ⟨q.2, N, sn, sg, go, gs, H, hT⟩)⟩
theorem D5_sign {x : Int32} (ok : aOK R W a cf) (Q : rQ E h ab as R W f0 a cf f) : S_X5_sign E h x f (fun r g => r = aSign R a x ∧ rQ E h ab as R W f0 a cf g) := by
  obtain ⟨N, sn, sg, go, gs, H, hT⟩ := Q
  have hR := ok.1.2
  refine T_X5_sign ?_
  unfold X_X5_sign_0
  refine U5_isRegister x H ⟨fun c => ?_, fun c => ?_⟩
  · rw [aSign, if_neg (ite_z.mp c)]
    exact ⟨rfl, N, sn, sg, go, gs, H, hT⟩
  · have c := ite_n c
    rw [aSign, if_pos c]
    obtain ⟨x, hx, rfl⟩ := isR_of (by omega) c
    obtain ⟨sx, nx, dx⟩ := hT.1 x hx
    rw [ix_nI (by omega)]
    exact ⟨as, H.r3, _, H.rs (by omega), sx, N, sn, sg, go, gs, H, hT⟩
theorem D5_set {x p q : Int32} (ok : aOK R W a cf) (Q : rQ E h ab as R W f0 a cf f) : S_X5_set E h x p q f (fun r g => r = (aSet R W a x p q).1 ∧ rQ E h ab as R W f0 (aSet R W a x p q).2 cf g) := by
  obtain ⟨N, sn, sg, go, gs, H, hT⟩ := Q
  have hR := ok.1.2
  refine T_X5_set ?_
  unfold X_X5_set_0
  have hge : ∀ y : Int32, 0 ≤ lg_cmp y.toInt64 0 ↔ 0 ≤ y.toInt := fun y => by rw [lgc_ge, l64]; rfl
  have heq : ∀ y : Int32, lg_cmp y.toInt64 0 = 0 ↔ y.toInt = 0 := fun y => by rw [lgc_eq, l64]; rfl
  refine U5_isRegister x H ⟨fun c => ⟨fun c2 => ?_, fun c2 => ?_⟩, fun c => ?_⟩
  · have c := ite_n c
    rw [aSet, if_pos c, if_neg c2]
    obtain ⟨x, hx, rfl⟩ := isR_of (by omega) c
    rw [ix_nI (by omega)]
    have q0 : q.toInt ≠ 0 := fun z => c2 (Int32.toInt_inj.mp z)
    have bp := i32r p
    have bq := i32r q
    have ea : (p.toInt * q.toInt.sign).natAbs = p.toInt.natAbs := by rw [Int.natAbs_mul, Int.natAbs_sign_of_ne_zero q0, Nat.mul_one]
    have es : sgI (p.toInt * q.toInt.sign) = sgI p.toInt * sgI q.toInt := by
      rw [← sgI_mul]
      congr 1
      rcases Int.lt_trichotomy q.toInt 0 with w | w | w
      · rw [Int.sign_eq_neg_one_of_neg w, sgI_neg w]; rfl
      · exact absurd w q0
      · rw [Int.sign_eq_one_of_pos w, sgI_pos w]; rfl
    have b35 : (2147483649 : Nat) < 65536 ^ 35 := by decide +kernel
    have fin : ∀ (g : hm) (s : Int32), rS E h ab as (nI R) (nI W) f0 (va_up (va_up N 16 p.toInt.natAbs) 17 q.toInt.natAbs) sn sg go gs g → (p.toInt * q.toInt.sign ≠ 0 → s = sgI (p.toInt * q.toInt.sign)) → ∃ f' : hm, wrV g h 5 4 (.int s) = some f' ∧ (isO f' h 5 ∧ S_X5_store E h (nI x) f' (fun r g => r = (opR W a x (p.toInt * q.toInt.sign) q.toInt.natAbs).1 ∧ rQ E h ab as R W f0 (opR W a x (p.toInt * q.toInt.sign) q.toInt.natAbs).2 cf g)) := by
      intro g s H hs
      refine F5_store ok H (hT.keep hR (keepN.up (keepN.up keepN.rf (by decide)) (by decide))) ?_ ?_ (by omega) (by omega) (by omega) hs hx (fun g q => ⟨rfl, q⟩)
      · rw [va_up_ne _ _ (by decide), va_up_self, ea]
      · rw [va_up_self]
    have z0 : p.toInt = 0 → p.toInt * q.toInt.sign = 0 := fun w => by rw [w, Int.zero_mul]
    have leaf : ∀ s : Int32, ((0 < p.toInt ∧ 0 < q.toInt) ∨ (p.toInt < 0 ∧ q.toInt < 0) → s = 1) → ((0 < p.toInt ∧ q.toInt < 0) ∨ (p.toInt < 0 ∧ 0 < q.toInt) → s = -1) → (p.toInt * q.toInt.sign ≠ 0 → s = sgI (p.toInt * q.toInt.sign)) := by
      intro s s1 s2 hz
      have p0 : p.toInt ≠ 0 := fun w => hz (z0 w)
      rw [es]
      rcases sgI_cases p.toInt with ⟨k1, k2⟩ | ⟨k1, k2⟩ | ⟨k1, k2⟩ <;> rcases sgI_cases q.toInt with ⟨k3, k4⟩ | ⟨k3, k4⟩ | ⟨k3, k4⟩ <;> first | (exfalso; omega) | skip
      · rw [k2, k4, s1 (Or.inr ⟨k1, k3⟩)]; rfl
      · rw [k2, k4, s2 (Or.inr ⟨k1, k3⟩)]; rfl
      · rw [k2, k4, s2 (Or.inl ⟨k1, k3⟩)]; rfl
      · rw [k2, k4, s1 (Or.inl ⟨k1, k3⟩)]; rfl
    have bP : p.toInt.natAbs < 2 ^ 62 := by omega
    have bQ : q.toInt.natAbs < 2 ^ 62 := by omega
    simp only [hge, heq]
    refine ⟨fun cp => ?_, fun cp => ?_⟩
    · rw [l64p cp]
      refine U5_put 16 _ H (by decide) bP (fun g H => ⟨fun cq => ?_, fun cq => ?_⟩)
      · rw [l64p cq]
        refine U5_put 17 _ H (by decide) bQ (fun g H => ?_)
        refine ⟨fun c3 => ⟨fun c4 => ⟨fun c5 => ⟨fun e => absurd trivial e, fun _ => fin _ 1 H (leaf 1 (fun _ => rfl) (fun w => by omega))⟩, fun c5 => ⟨fun _ => fin _ (-1) H (leaf (-1) (fun w => by omega) (fun _ => rfl)), fun e => absurd e (by decide)⟩⟩, fun c4 => ⟨fun c5 => ⟨fun _ => fin _ (-1) H (leaf (-1) (fun w => by omega) (fun _ => rfl)), fun e => absurd e (by decide)⟩, fun c5 => ⟨fun e => absurd trivial e, fun _ => fin _ 1 H (leaf 1 (fun _ => rfl) (fun w => by omega))⟩⟩⟩, fun c3 => fin _ 0 H (fun hz => absurd (z0 c3) hz)⟩
      · rw [l64n cq]
        refine U5_put 17 _ H (by decide) bQ (fun g H => ?_)
        refine ⟨fun c3 => ⟨fun c4 => ⟨fun c5 => ⟨fun e => absurd trivial e, fun _ => fin _ 1 H (leaf 1 (fun _ => rfl) (fun w => by omega))⟩, fun c5 => ⟨fun _ => fin _ (-1) H (leaf (-1) (fun w => by omega) (fun _ => rfl)), fun e => absurd e (by decide)⟩⟩, fun c4 => ⟨fun c5 => ⟨fun _ => fin _ (-1) H (leaf (-1) (fun w => by omega) (fun _ => rfl)), fun e => absurd e (by decide)⟩, fun c5 => ⟨fun e => absurd trivial e, fun _ => fin _ 1 H (leaf 1 (fun _ => rfl) (fun w => by omega))⟩⟩⟩, fun c3 => fin _ 0 H (fun hz => absurd (z0 c3) hz)⟩
    · rw [l64n cp]
      refine U5_put 16 _ H (by decide) bP (fun g H => ⟨fun cq => ?_, fun cq => ?_⟩)
      · rw [l64p cq]
        refine U5_put 17 _ H (by decide) bQ (fun g H => ?_)
        refine ⟨fun c3 => ⟨fun c4 => ⟨fun c5 => ⟨fun e => absurd trivial e, fun _ => fin _ 1 H (leaf 1 (fun _ => rfl) (fun w => by omega))⟩, fun c5 => ⟨fun _ => fin _ (-1) H (leaf (-1) (fun w => by omega) (fun _ => rfl)), fun e => absurd e (by decide)⟩⟩, fun c4 => ⟨fun c5 => ⟨fun _ => fin _ (-1) H (leaf (-1) (fun w => by omega) (fun _ => rfl)), fun e => absurd e (by decide)⟩, fun c5 => ⟨fun e => absurd trivial e, fun _ => fin _ 1 H (leaf 1 (fun _ => rfl) (fun w => by omega))⟩⟩⟩, fun c3 => fin _ 0 H (fun hz => absurd (z0 c3) hz)⟩
      · rw [l64n cq]
        refine U5_put 17 _ H (by decide) bQ (fun g H => ?_)
        refine ⟨fun c3 => ⟨fun c4 => ⟨fun c5 => ⟨fun e => absurd trivial e, fun _ => fin _ 1 H (leaf 1 (fun _ => rfl) (fun w => by omega))⟩, fun c5 => ⟨fun _ => fin _ (-1) H (leaf (-1) (fun w => by omega) (fun _ => rfl)), fun e => absurd e (by decide)⟩⟩, fun c4 => ⟨fun c5 => ⟨fun _ => fin _ (-1) H (leaf (-1) (fun w => by omega) (fun _ => rfl)), fun e => absurd e (by decide)⟩, fun c5 => ⟨fun e => absurd trivial e, fun _ => fin _ 1 H (leaf 1 (fun _ => rfl) (fun w => by omega))⟩⟩⟩, fun c3 => fin _ 0 H (fun hz => absurd (z0 c3) hz)⟩
  · have c := ite_n c
    rw [aSet, if_pos c, if_pos c2]
    exact ⟨rfl, N, sn, sg, go, gs, H, hT⟩
  · rw [aSet, if_neg (ite_z.mp c)]
    exact ⟨rfl, N, sn, sg, go, gs, H, hT⟩
theorem U5_farther {K : Int32 → hm → Prop} (q1 q2 : Nat) (H : rS E h ab as (nI R) (nI W) f0 N sn sg go gs f) (h1 : q1 ≤ 1000) (h2 : q2 ≤ 1000) (l18 : N 18 < 65536 ^ 35) (l26 : N 26 < 65536 ^ 35) (k : ∀ (g : hm) (M : Nat → Nat), rS E h ab as (nI R) (nI W) f0 M sn sg go gs g → (∀ m, m ≠ 24 → m ≠ 25 → M m = N m) → K (ord3 (q2 * N 18) (q1 * N 26)) g) : isO f h 5 ∧ S_X5_farther E h (nI q1) (nI q2) f K := by
  refine ⟨H.o, T_X5_farther ?_⟩
  unfold X_X5_farther_0
  have q35 : 65536 * 65536 ^ 35 = 65536 ^ 36 := by rw [← Nat.pow_succ']
  have b1 : q2 * N 18 ≤ 1000 * N 18 := Nat.mul_le_mul_right _ h2
  have b2 : q1 * N 26 ≤ 1000 * N 26 := Nat.mul_le_mul_right _ h1
  rw [nI_l (by omega), nI_l (by omega)]
  refine U5_copy 18 24 H (by decide) (by decide) (fun g H => ?_)
  refine U5_grow 24 q2 H (by decide) (by omega) (by rw [va_up_self]; omega) (fun g H => ?_)
  refine U5_copy 26 25 H (by decide) (by decide) (fun g H => ?_)
  refine U5_grow 25 q1 H (by decide) (by omega) (by rw [va_up_self, va_up_ne _ _ (by decide), va_up_ne _ _ (by decide)]; omega) (fun g H => ?_)
  refine U5_compare 24 25 H (by decide) (by decide) ?_
  have := k g _ H (fun m m1 m2 => by rw [va_up_ne _ _ m2, va_up_ne _ _ m2, va_up_ne _ _ m1, va_up_ne _ _ m1])
  rw [va_up_self, va_up_self, va_up_ne _ _ (show (24 : Nat) ≠ 25 by decide), va_up_ne _ _ (show (24 : Nat) ≠ 25 by decide), va_up_self, va_up_self, va_up_ne _ _ (show (26 : Nat) ≠ 24 by decide), va_up_ne _ _ (show (26 : Nat) ≠ 24 by decide)]
  exact this
end REFPUB3
