/-! The class: the parts of its operations. -/
theorem m1_or (y : Int32) : (-1 : Int32) ||| y = -1 := by
  apply b_ext
  intro i hi
  rw [b_or, b_m1 i hi]
  rfl
theorem nI_negN {n : Nat} (h : n ≤ 4294967296) : -(nI n) = nI (4294967296 - n) := by
  have e : nI 4294967296 = 0 := by decide +kernel
  have := pk_sub (a := 4294967296) (b := n) h
  rw [e] at this
  rw [← this, Int32.sub_eq_add_neg, Int32.zero_add]
theorem sg_nI {n : Nat} (h : n < 4294967296) : (nI n).toInt = if n < 2147483648 then (n : Int) else (n : Int) - 4294967296 := by
  have := BitVec.toInt_eq_toNat_cond (nI n).toBitVec
  rw [pk_tn h] at this
  have e : (nI n).toInt = (nI n).toBitVec.toInt := rfl
  rw [e, this]
  by_cases q : n < 2147483648
  · rw [if_pos q, if_pos (by omega)]
  · rw [if_neg q, if_neg (by omega)]; rfl
theorem sig_eq (p : Int32) : (p >>> ((31 : Int32) &&& 31)) ||| (j_iushr (-p) (31 : Int32)) = sgI p.toInt := by
  obtain ⟨n, hn, rfl⟩ := wb_of32 p
  have hn : n < 4294967296 := hn
  have hs : ((((31 : Int32) &&& 31)).toBitVec.smod 32).toNat = 31 := by decide
  rw [sg_nI hn]
  by_cases q : n < 2147483648
  · rw [if_pos q, pk_shrN q _ 31 hs, Nat.div_eq_of_lt q, nI_negN (by omega)]
    rcases Nat.eq_zero_or_pos n with z | z
    · subst z; decide +kernel
    · rw [show (31 : Int32) = nI 31 from rfl, iush (by omega) (by decide), show (4294967296 - n) / 2 ^ 31 = 1 by omega, sgI_pos (by omega)]
      decide
  · rw [if_neg q, sgI_neg (by omega)]
    have : nI n >>> ((31 : Int32) &&& 31) = -1 := by
      apply Int32.toInt_inj.mp
      rw [pk_shr _ _ 31 hs, sg_nI hn, if_neg q, Int.shiftRight_eq_div_pow, show (-1 : Int32).toInt = -1 from rfl]
      omega
    rw [this, m1_or]
section CI
variable {E : cx} {ad : Nat → Nat} {R : Nat} {W : Int32} {f00 : hm} {V : Nat → Nat} {sg : Nat → Int32} {a b : Nat} {u l ou ol : Int64} {g o x i j k : Nat} {f f' : hm}
theorem U6_signum {C : Int32 → hm → Prop} {p : Int32} (c : C (sgI p.toInt) f) : S_J6_signum_0f7a4 E p f C := by
  refine T_J6_signum_0f7a4 ?_
  unfold X_J6_signum_0f7a4_0
  rw [sig_eq]
  exact c
theorem U4_isInt {C : Int32 → hm → Prop} {r : Int64} (c : C (if inI r.toInt then 1 else 0) f) : S_X4_isInt E r f C := by
  refine T_X4_isInt ?_
  unfold X_X4_isInt_0
  rw [lgc_lt, lgc_gt, show (-2147483648 : Int64).toInt = -2147483648 from rfl, show (2147483647 : Int64).toInt = 2147483647 from rfl]
  refine ⟨fun w => ⟨nb0, ?_⟩, fun w => ⟨fun w2 => ⟨nb0, ?_⟩, fun w2 => ⟨nb1, ?_⟩⟩⟩
  · rw [if_neg (fun z : inI _ => by omega)] at c; exact c
  · rw [if_neg (fun z : inI _ => by omega)] at c; exact c
  · rw [if_pos ⟨by omega, by omega⟩] at c; exact c
theorem U4_isRegister {C : Int32 → hm → Prop} {y : Int32} (H : cS E ad R W f00 V sg a b u l ou ol g o x f) (c : C (if isR R y then 1 else 0) f) : isO f (ad 0) 4 ∧ S_X4_isRegister E (ad 0) y f C := by
  refine ⟨H.o0, T_X4_isRegister ?_⟩
  unfold X_X4_isRegister_0
  refine ⟨fun w => ⟨nb0, ?_⟩, fun w => ⟨_, H.f1, _, H.len, fun w2 => ⟨nb0, ?_⟩, fun w2 => ⟨nb1, ?_⟩⟩⟩
  · rw [if_neg (fun z : isR R y => absurd z.1 (Int32.not_le.mpr w))] at c; exact c
  · rw [if_neg (fun z : isR R y => absurd z.2 (Int32.not_lt.mpr w2))] at c; exact c
  · rw [if_pos ⟨Int32.not_lt.mp w, Int32.not_le.mp w2⟩] at c; exact c
theorem U4_areRegisters {C : Int32 → hm → Prop} {y z w : Int32} (H : cS E ad R W f00 V sg a b u l ou ol g o x f) (c : C (if isR R y ∧ isR R z ∧ isR R w then 1 else 0) f) : isO f (ad 0) 4 ∧ S_X4_areRegisters E (ad 0) y z w f C := by
  refine ⟨H.o0, T_X4_areRegisters ?_⟩
  unfold X_X4_areRegisters_0
  refine U4_isRegister H ⟨fun q => ⟨nb0, ?_⟩, fun q => U4_isRegister H ⟨fun q2 => ⟨nb0, ?_⟩, fun q2 => U4_isRegister H ⟨fun q3 => ⟨nb0, ?_⟩, fun q3 => ⟨nb1, ?_⟩⟩⟩⟩
  · rw [ite_z] at q
    rw [if_neg (fun t => q t.1)] at c; exact c
  · rw [ite_z] at q2
    rw [if_neg (fun t => q2 t.2.1)] at c; exact c
  · rw [ite_z] at q3
    rw [if_neg (fun t => q3 t.2.2)] at c; exact c
  · rw [if_pos ⟨ite_n q, ite_n q2, ite_n q3⟩] at c; exact c
theorem cS.lenOf (H : cS E ad R W f00 V sg a b u l ou ol g o x f) (hk : cK R k) : ∃ len : Nat, rdV f (cn ad k) 1 1 = some (.int (nI len)) ∧ lenIs 4294967296 (V k) len ∧ len ≤ 20 := by
  obtain ⟨len, g, h1, h2, h3, -⟩ := H.ns.rawOf hk
  exact ⟨len, h1.r1, h2, h3⟩
theorem lenB_iff {n b k : Nat} (h : lenIs 4294967296 n b) : b ≤ k ↔ n < 4294967296 ^ k := ⟨fun q => Nat.lt_of_lt_of_le h.1 (Nat.pow_le_pow_right (by decide) q), fun q => lenIs_le (by decide) h q⟩
theorem U4_keep {C : Int32 → hm → Prop} {w d : Nat} (H : cS E ad R (nI w) f00 V sg a b u l ou ol g o x f) (hw : w ≤ 8) (hd : d < R)
    (c1 : ∀ f', V 18 < 4294967296 ^ w → V 19 < 4294967296 ^ w → cS E ad R (nI w) f00 (va_up (va_up V (2 * d) (V 18)) (2 * d + 1) (V 19)) (va_up sg d (sg 9)) a b u l ou ol g o x f' → C 0 f') (c0 : ¬ (V 18 < 4294967296 ^ w ∧ V 19 < 4294967296 ^ w) → C 1 f) : isO f (ad 0) 4 ∧ S_X4_keepResult E (ad 0) (nI d) f C := by
  refine ⟨H.o0, T_X4_keepResult ?_⟩
  unfold X_X4_keepResult_0
  obtain ⟨l1, e1, i1, m1⟩ := H.lenOf (k := 18) (cK_w (by decide) (by decide))
  obtain ⟨l2, e2, i2, m2⟩ := H.lenOf (k := 19) (cK_w (by decide) (by decide))
  have hR := H.R8
  refine ⟨_, H.f3, _, H.q1 cF_9, _, e1, _, H.f0, ?_⟩
  rw [nI_ltI (by omega) (by omega)]
  refine ⟨fun q => c0 (fun z => ?_), fun q => ⟨_, H.f3, _, H.q2 cF_9, _, e2, _, H.f0, ?_⟩⟩
  · have := (lenB_iff i1).mpr z.1; omega
  · rw [nI_leI (by omega) (by omega)]
    refine ⟨fun q2 => ⟨_, H.f1, _, H.reg hd, _, H.f3, ?_⟩, fun q2 => c0 (fun z => ?_)⟩
    · refine U0_become H (Or.inl hd) cF_9 (by omega) (fun f' H' => c1 f' ((lenB_iff i1).mp (by omega)) ((lenB_iff i2).mp q2) H')
    · have := (lenB_iff i2).mpr z.2; omega
theorem sgI_lt {z : Int} : sgI z < 0 ↔ z < 0 := by
  rcases sgI_cases z with ⟨h, e⟩ | ⟨h, e⟩ | ⟨h, e⟩ <;> rw [e]
  · exact ⟨fun _ => h, fun _ => by decide⟩
  · exact ⟨fun q => absurd q (by decide), fun q => by omega⟩
  · exact ⟨fun q => absurd q (by decide), fun q => by omega⟩
theorem U4_upper {C : hm → Prop} {t1 t2 : Int} (H : cS E ad R W f00 V sg a b u l ou ol g o x f) (h1 : V 30 = t1.natAbs) (h2 : V 32 = t2.natAbs) (hb : V 30 + V 32 < 4294967296 ^ 20) (c : ∀ f', cS E ad R W f00 (va_up V 18 (t1 + t2).natAbs) (va_up sg 9 (sgI (t1 + t2))) a b u l ou ol g o x f' → C f') : isO f (ad 0) 4 ∧ S_X4_addUpperNumbers E (ad 0) (sgI t1) (sgI t2) f C := by
  refine ⟨H.o0, T_X4_addUpperNumbers ?_⟩
  unfold X_X4_addUpperNumbers_0
  have k18 : cK R 18 := cK_w (by decide) (by decide)
  have k30 : cK R 30 := cK_w (by decide) (by decide)
  have k32 : cK R 32 := cK_w (by decide) (by decide)
  rw [sgI_mul, sgI_lt]
  refine ⟨fun w => ?_, fun w => ?_⟩
  · have hs : (t1 < 0 ∧ 0 < t2) ∨ (0 < t1 ∧ t2 < 0) := by
      rcases Int.lt_trichotomy t1 0 with p | p | p <;> rcases Int.lt_trichotomy t2 0 with q | q | q
      · exact absurd (Int.mul_pos_of_neg_of_neg p q) (by omega)
      · rw [q, Int.mul_zero] at w; omega
      · exact Or.inl ⟨p, q⟩
      · rw [p, Int.zero_mul] at w; omega
      · rw [p, Int.zero_mul] at w; omega
      · rw [p, Int.zero_mul] at w; omega
      · exact Or.inr ⟨p, q⟩
      · rw [q, Int.mul_zero] at w; omega
      · exact absurd (Int.mul_pos p q) (by omega)
    have key : sgI t1 * ord3 t1.natAbs t2.natAbs = sgI (t1 + t2) := by
      unfold ord3
      rcases hs with ⟨p, q⟩ | ⟨p, q⟩
      · rw [sgI_neg p]
        split
        · rw [sgI_pos (by omega)]; rfl
        · split
          · rw [show t1 + t2 = 0 by omega]; rfl
          · rw [sgI_neg (by omega)]; rfl
      · rw [sgI_pos p]
        split
        · rw [sgI_neg (by omega)]; rfl
        · split
          · rw [show t1 + t2 = 0 by omega]; rfl
          · rw [sgI_pos (by omega)]; rfl
    refine ⟨_, H.f6, _, H.f8, U1_compareWith H.ns k30 k32 ?_⟩
    rw [h1, h2, key, ord3_lt]
    refine ⟨fun q => ⟨_, H.f3, _, H.q1 cF_9, _, H.f8, _, H.f6, ?_⟩, fun q => ⟨_, H.f3, _, H.q1 cF_9, _, H.f6, _, H.f8, ?_⟩⟩
    · refine U1_becomeDifference H.ns k18 k32 k30 (by omega) (fun f1 n1 => ?_)
      have H1 := H.op n1
      rw [show V 32 - V 30 = (t1 + t2).natAbs by omega] at H1
      obtain ⟨f2, w2, H2⟩ := H1.wF cF_9 (sgI (t1 + t2))
      exact ⟨_, H1.f3, f2, w2, c f2 H2⟩
    · refine U1_becomeDifference H.ns k18 k30 k32 (by omega) (fun f1 n1 => ?_)
      have H1 := H.op n1
      rw [show V 30 - V 32 = (t1 + t2).natAbs by omega] at H1
      obtain ⟨f2, w2, H2⟩ := H1.wF cF_9 (sgI (t1 + t2))
      exact ⟨_, H1.f3, f2, w2, c f2 H2⟩
  · have hs : (0 ≤ t1 ∧ 0 ≤ t2) ∨ (t1 ≤ 0 ∧ t2 ≤ 0) := by
      rcases Int.lt_trichotomy t1 0 with p | p | p <;> rcases Int.lt_trichotomy t2 0 with q | q | q <;> try omega
      · exact absurd (Int.mul_neg_of_neg_of_pos p q) w
      · exact absurd (Int.mul_neg_of_pos_of_neg p q) w
    refine ⟨_, H.f3, _, H.q1 cF_9, _, H.f6, _, H.f8, U1_becomeSum H.ns k18 k30 k32 (by decide) (by decide) hb (fun f1 n1 => ?_)⟩
    have H1 := H.op n1
    rw [show V 30 + V 32 = (t1 + t2).natAbs by omega] at H1
    refine ⟨_, H1.f3, fun q => ?_, fun q => ?_⟩
    · rw [sgI_eq0] at q
      subst q
      obtain ⟨f2, w2, H2⟩ := H1.wF cF_9 (sgI t2)
      rw [Int.zero_add] at c H2
      exact ⟨f2, w2, c f2 H2⟩
    · rw [sgI_eq0] at q
      obtain ⟨f2, w2, H2⟩ := H1.wF cF_9 (sgI t1)
      have : sgI (t1 + t2) = sgI t1 := by
        rcases hs with ⟨p, p2⟩ | ⟨p, p2⟩
        · rw [sgI_pos (by omega), sgI_pos (by omega)]
        · rw [sgI_neg (by omega), sgI_neg (by omega)]
      rw [this] at c
      exact ⟨f2, w2, c f2 H2⟩
end CI
