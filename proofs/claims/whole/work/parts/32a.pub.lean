/-! The class's public methods, held against the same state as the reference's. -/
def cT (R : Nat) (a : regs) (cf : Int × Nat) (V : Nat → Nat) (sg : Nat → Int32) : Prop := (∀ r, r < R → sg r = sgI (a r).1 ∧ V (2 * r) = (a r).1.natAbs ∧ V (2 * r + 1) = (a r).2) ∧ V 17 = cf.2 ∧ (cf.2 ≠ 0 → V 16 = cf.1.natAbs ∧ sg 8 = sgI cf.1)
def cQ (E : cx) (ad : Nat → Nat) (R W : Nat) (f00 : hm) (A : regs) (cf : Int × Nat) (f : hm) : Prop := ∃ (V : Nat → Nat) (sg : Nat → Int32) (a b : Nat) (u l ou ol : Int64) (g o x : Nat), cS E ad R (nI W) f00 V sg a b u l ou ol g o x f ∧ cP a b ∧ cG g o x ∧ cT R A cf V sg
theorem pw32 (w : Nat) : 2 ^ (32 * w) = 4294967296 ^ w := by rw [Nat.pow_mul]
theorem cT.keep {R : Nat} {A : regs} {cf : Int × Nat} {V V' : Nat → Nat} {sg : Nat → Int32} (h : cT R A cf V sg) (hR : R ≤ 8) (hk : kpt V V') (s9 : Int32) : cT R A cf V' (va_up sg 9 s9) := by
  refine ⟨fun r hr => ?_, ?_, fun hc => ?_⟩
  · rw [va_up_ne _ _ (by omega), hk _ (by omega), hk _ (by omega)]; exact h.1 r hr
  · rw [hk _ (by decide)]; exact h.2.1
  · rw [va_up_ne _ _ (by decide), hk _ (by decide)]; exact h.2.2 hc
theorem cT.keep' {R : Nat} {A : regs} {cf : Int × Nat} {V V' : Nat → Nat} {sg : Nat → Int32} (h : cT R A cf V sg) (hR : R ≤ 8) (hk : kpt V V') : cT R A cf V' sg := by
  refine ⟨fun r hr => ?_, ?_, fun hc => ?_⟩
  · rw [hk _ (by omega), hk _ (by omega)]; exact h.1 r hr
  · rw [hk _ (by decide)]; exact h.2.1
  · rw [hk _ (by decide)]; exact h.2.2 hc
section CP
variable {E : cx} {ad : Nat → Nat} {R W : Nat} {f00 : hm} {A : regs} {cf : Int × Nat} {f : hm} {V : Nat → Nat} {sg : Nat → Int32} {a b : Nat} {u l ou ol : Int64} {g o x i j k : Nat}
theorem D4_fin {C : Int32 → hm → Prop} {z : Int} {D d : Nat} (ok : aOK R W A cf) (H : cS E ad R (nI W) f00 V sg a b u l ou ol g o x f) (hab : cP a b) (hG : cG g o x) (hT : cT R A cf V sg) (h18 : V 18 = rN z.natAbs D) (h19 : V 19 = rD z.natAbs D) (h9 : sg 9 = sgI z) (hD : 0 < D) (hd : d < R) (c : ∀ g, cQ E ad R W f00 (opR W A d z D).2 cf g → C (opR W A d z D).1 g) : isO f (ad 0) 4 ∧ S_X4_keepResult E (ad 0) (nI d) f C := by
  have hW := ok.2.1.2
  have hR := ok.1.2
  refine U4_keep H hW hd (fun f' r1 r2 H' => ?_) (fun nr => ?_)
  · have hr : room W z D := by
      rw [h18, ← pw32] at r1
      rw [h19, ← pw32] at r2
      exact ⟨r1, r2⟩
    rw [opR, if_pos hr] at c
    refine c f' ⟨_, _, a, b, u, l, ou, ol, g, o, x, H', hab, hG, fun r hrR => ?_, ?_, fun hc => ?_⟩
    · dsimp only
      by_cases hrd : r = d
      · subst hrd
        rw [va_up_self, va_up_self, va_up_ne _ _ (by omega), va_up_self, va_up_self, h9, redz_sg hD, h18, h19, redz_abs]
        exact ⟨rfl, rfl, rfl⟩
      · rw [va_up_ne _ _ hrd, va_up_ne _ _ hrd, va_up_ne _ _ (by omega), va_up_ne _ _ (by omega), va_up_ne _ _ (by omega), va_up_ne _ _ (by omega)]
        exact hT.1 r hrR
    · rw [va_up_ne _ _ (by omega), va_up_ne _ _ (by omega)]; exact hT.2.1
    · rw [va_up_ne _ _ (by omega), va_up_ne _ _ (by omega), va_up_ne _ _ (by omega)]; exact hT.2.2 hc
  · have hr : ¬ room W z D := fun hr => nr ⟨by rw [h18, ← pw32]; exact hr.1, by rw [h19, ← pw32]; exact hr.2⟩
    rw [opR, if_neg hr] at c
    exact c f ⟨V, sg, a, b, u, l, ou, ol, g, o, x, H, hab, hG, hT⟩
theorem D4_set {y p q : Int32} (ok : aOK R W A cf) (Q : cQ E ad R W f00 A cf f) : S_X4_set E (ad 0) y p q f (fun r g => r = (aSet R W A y p q).1 ∧ cQ E ad R W f00 (aSet R W A y p q).2 cf g) := by
  obtain ⟨V, sg, a, b, u, l, ou, ol, g, o, x, H, hab, hG, hT⟩ := Q
  have hR := ok.1.2
  refine T_X4_set ?_
  unfold X_X4_set_0
  have k18 : cK R 18 := cK_w (by decide) (by decide)
  have k19 : cK R 19 := cK_w (by decide) (by decide)
  have ab : ∀ y : Int32, (if 0 < y.toInt64 then y.toInt64 else -y.toInt64) = lN y.toInt.natAbs := by
    intro y
    have e : (0 < y.toInt64) ↔ 0 < y.toInt := by rw [Int64.lt_iff_toInt_lt, l64]; exact Iff.rfl
    by_cases w : 0 < y.toInt
    · rw [if_pos (e.mpr w), l64p (by omega)]
    · rw [if_neg (fun z => w (e.mp z))]
      by_cases w2 : y.toInt = 0
      · have : y = 0 := Int32.toInt_inj.mp w2
        subst this; rfl
      · rw [l64n (by omega)]
  refine U4_isRegister H ⟨fun c => ⟨fun c2 => ?_, fun c2 => ?_⟩, fun c => ?_⟩
  · have c := ite_n c
    rw [aSet, if_pos c, if_neg c2]
    obtain ⟨y, hy, rfl⟩ := isR_of (by omega) c
    rw [ix_nI (by omega)]
    have q0 : q.toInt ≠ 0 := fun z => c2 (Int32.toInt_inj.mp z)
    have bp := i32r p
    have bq := i32r q
    have ea : (p.toInt * q.toInt.sign).natAbs = p.toInt.natAbs := by rw [Int.natAbs_mul, Int.natAbs_sign_of_ne_zero q0, Nat.mul_one]
    have es : sgI (p.toInt * q.toInt.sign) = sgI p.toInt * sgI q.toInt := by
      rw [← sgI_mul]
      congr 1
      rcases Int.lt_trichotomy q.toInt 0 with w | w | w
      · rw [Int.sign_eq_neg_one_of_neg w, sgI_neg w]; rfl
      · exact absurd w q0
      · rw [Int.sign_eq_one_of_pos w, sgI_pos w]; rfl
    rw [ab, ab]
    refine ⟨_, H.f3, _, H.q1 cF_9, U1_becomeL H.ns k18 (by omega) (fun f1 m1 => ?_)⟩
    have H1 := H.op m1
    refine ⟨_, H1.f3, _, H1.q2 cF_9, U1_becomeL H1.ns k19 (by omega) (fun f2 m2 => ?_)⟩
    have H2 := H1.op m2
    refine ⟨_, H2.f3, U6_signum (U6_signum ?_)⟩
    rw [← es]
    obtain ⟨f3, w3, H3⟩ := H2.wF cF_9 (sgI (p.toInt * q.toInt.sign))
    refine ⟨f3, w3, _, H3.f4, _, H3.f3, _, H3.q1 cF_9, _, H3.f3, _, H3.q2 cF_9, U3_reduce H3 hab k18 k19 (by decide) (by decide) (by decide) ?_ ?_ (fun V4 a4 b4 f4 hab4 r4 H4 => ?_)⟩
    · rw [va_up_ne _ _ (by decide), va_up_self]
      exact Nat.lt_of_lt_of_le (show p.toInt.natAbs < 4294967296 ^ 2 by omega) (Nat.pow_le_pow_right (by decide) (by decide))
    · rw [va_up_self]
      exact Nat.lt_of_lt_of_le (show q.toInt.natAbs < 4294967296 ^ 2 by omega) (Nat.pow_le_pow_right (by decide) (by decide))
    · obtain ⟨r18, r19, -, rk⟩ := r4
      rw [va_up_ne _ _ (show (18 : Nat) ≠ 19 by decide), va_up_self, va_up_self] at r18 r19
      refine D4_fin (z := p.toInt * q.toInt.sign) (D := q.toInt.natAbs) ok H4 hab4 hG (hT.keep hR (fun k hk => ?_) _) ?_ ?_ (va_up_self _ _ _) (by omega) hy (fun g h => ⟨rfl, h⟩)
      · rw [rk k (by omega) (by omega) (by omega) (by omega) (by omega), va_up_ne _ _ (by omega), va_up_ne _ _ (by omega)]
      · rw [r18, ea]; rfl
      · rw [r19, ea]; rfl
  · have c := ite_n c
    rw [aSet, if_pos c, if_pos c2]
    exact ⟨rfl, V, sg, a, b, u, l, ou, ol, g, o, x, H, hab, hG, hT⟩
  · rw [aSet, if_neg (ite_z.mp c)]
    exact ⟨rfl, V, sg, a, b, u, l, ou, ol, g, o, x, H, hab, hG, hT⟩
theorem D4_add {y w v : Int32} (ok : aOK R W A cf) (Q : cQ E ad R W f00 A cf f) : S_X4_add E (ad 0) y w v f (fun r g => r = (aAdd R W A y w v).1 ∧ cQ E ad R W f00 (aAdd R W A y w v).2 cf g) := by
  obtain ⟨V, sg, a, b, u, l, ou, ol, g, o, x, H, hab, hG, hT⟩ := Q
  have hR := ok.1.2
  have hW := ok.2.1.2
  refine T_X4_add ?_
  unfold X_X4_add_0
  refine U4_areRegisters H ⟨fun c => ?_, fun c => ?_⟩
  · have c := ite_n c
    rw [aAdd, if_pos c]
    obtain ⟨c1, c2, c3⟩ := c
    obtain ⟨y, hy, rfl⟩ := isR_of (by omega) c1
    obtain ⟨w, hw, rfl⟩ := isR_of (by omega) c2
    obtain ⟨v, hv, rfl⟩ := isR_of (by omega) c3
    rw [ix_nI (by omega), ix_nI (by omega), ix_nI (by omega)]
    obtain ⟨w1, w2, w3⟩ := hT.1 w hw
    obtain ⟨v1, v2, v3⟩ := hT.1 v hv
    obtain ⟨d1, b1, n1, g1⟩ := ok.2.2.1 w hw
    obtain ⟨d2, b2, n2, g2⟩ := ok.2.2.1 v hv
    rw [pw32] at b1 n1 b2 n2
    refine ⟨_, H.f1, _, H.reg hw, _, H.f1, _, H.reg hv, _, H.f1, _, H.reg hv, _, H.q0 (Or.inl hv), ?_⟩
    rw [v1]
    refine U4_addUp H hab hw hv w1 w2 v2 w3 v3 d1 d2 g1 g2 (B8 hW n1) (B8 hW n2) (B8 hW b1) (B8 hW b2) (fun V' a' b' f' hab' hk h18 h19 H' => ?_)
    exact D4_fin ok H' hab' hG (hT.keep hR hk _) h18 h19 (va_up_self _ _ _) (Nat.mul_pos d1 d2) hy (fun g h => ⟨rfl, h⟩)
  · rw [aAdd, if_neg (ite_z.mp c)]
    exact ⟨rfl, V, sg, a, b, u, l, ou, ol, g, o, x, H, hab, hG, hT⟩
theorem D4_sub {y w v : Int32} (ok : aOK R W A cf) (Q : cQ E ad R W f00 A cf f) : S_X4_sub E (ad 0) y w v f (fun r g => r = (aSub R W A y w v).1 ∧ cQ E ad R W f00 (aSub R W A y w v).2 cf g) := by
  obtain ⟨V, sg, a, b, u, l, ou, ol, g, o, x, H, hab, hG, hT⟩ := Q
  have hR := ok.1.2
  have hW := ok.2.1.2
  refine T_X4_sub ?_
  unfold X_X4_sub_0
  refine U4_areRegisters H ⟨fun c => ?_, fun c => ?_⟩
  · have c := ite_n c
    rw [aSub, if_pos c]
    obtain ⟨c1, c2, c3⟩ := c
    obtain ⟨y, hy, rfl⟩ := isR_of (by omega) c1
    obtain ⟨w, hw, rfl⟩ := isR_of (by omega) c2
    obtain ⟨v, hv, rfl⟩ := isR_of (by omega) c3
    rw [ix_nI (by omega), ix_nI (by omega), ix_nI (by omega)]
    obtain ⟨w1, w2, w3⟩ := hT.1 w hw
    obtain ⟨v1, v2, v3⟩ := hT.1 v hv
    obtain ⟨d1, b1, n1, g1⟩ := ok.2.2.1 w hw
    obtain ⟨d2, b2, n2, g2⟩ := ok.2.2.1 v hv
    rw [pw32] at b1 n1 b2 n2
    refine ⟨_, H.f1, _, H.reg hw, _, H.f1, _, H.reg hv, _, H.f1, _, H.reg hv, _, H.q0 (Or.inl hv), ?_⟩
    rw [v1, ← sgI_neg', show (A w).1 * ((A v).2 : Int) - (A v).1 * ((A w).2 : Int) = (A w).1 * ((A v).2 : Int) + (-(A v).1) * ((A w).2 : Int) by rw [Int.neg_mul, Int.sub_eq_add_neg]]
    refine U4_addUp H hab hw hv w1 w2 (by rw [v2, Int.natAbs_neg]) w3 v3 d1 d2 g1 (by rw [Int.natAbs_neg]; exact g2) (B8 hW n1) (by rw [Int.natAbs_neg]; exact B8 hW n2) (B8 hW b1) (B8 hW b2) (fun V' a' b' f' hab' hk h18 h19 H' => ?_)
    exact D4_fin ok H' hab' hG (hT.keep hR hk _) h18 h19 (va_up_self _ _ _) (Nat.mul_pos d1 d2) hy (fun g h => ⟨rfl, h⟩)
  · rw [aSub, if_neg (ite_z.mp c)]
    exact ⟨rfl, V, sg, a, b, u, l, ou, ol, g, o, x, H, hab, hG, hT⟩
theorem D4_mul {y w v : Int32} (ok : aOK R W A cf) (Q : cQ E ad R W f00 A cf f) : S_X4_mul E (ad 0) y w v f (fun r g => r = (aMul R W A y w v).1 ∧ cQ E ad R W f00 (aMul R W A y w v).2 cf g) := by
  obtain ⟨V, sg, a, b, u, l, ou, ol, g, o, x, H, hab, hG, hT⟩ := Q
  have hR := ok.1.2
  have hW := ok.2.1.2
  refine T_X4_mul ?_
  unfold X_X4_mul_0
  refine U4_areRegisters H ⟨fun c => ?_, fun c => ?_⟩
  · have c := ite_n c
    rw [aMul, if_pos c]
    obtain ⟨c1, c2, c3⟩ := c
    obtain ⟨y, hy, rfl⟩ := isR_of (by omega) c1
    obtain ⟨w, hw, rfl⟩ := isR_of (by omega) c2
    obtain ⟨v, hv, rfl⟩ := isR_of (by omega) c3
    rw [ix_nI (by omega), ix_nI (by omega), ix_nI (by omega)]
    obtain ⟨w1, w2, w3⟩ := hT.1 w hw
    obtain ⟨v1, v2, v3⟩ := hT.1 v hv
    obtain ⟨d1, b1, n1, g1⟩ := ok.2.2.1 w hw
    obtain ⟨d2, b2, n2, g2⟩ := ok.2.2.1 v hv
    rw [pw32] at b1 n1 b2 n2
    have fv : cF R v := Or.inl hv
    refine ⟨_, H.f1, _, H.reg hv, _, H.f1, _, H.reg hw, _, H.q0 fv, _, H.q1 fv, _, H.q2 fv, ?_⟩
    refine U4_multiply H hab hw (cK_F fv).1 (cK_F fv).2 (by omega) (by omega) w2 v2 w3 v3 d1 d2 g1 g2 (B8 hW n1) (B8 hW n2) (B8 hW b1) (B8 hW b2) (fun V' a' b' f' hab' hk h18 h19 H' => ?_)
    refine D4_fin (z := (A w).1 * (A v).1) ok H' hab' hG (hT.keep hR hk _) (by rw [Int.natAbs_mul]; exact h18) (by rw [Int.natAbs_mul]; exact h19) ?_ (Nat.mul_pos d1 d2) hy (fun g h => ⟨rfl, h⟩)
    rw [va_up_self, w1, v1, sgI_mul]
  · rw [aMul, if_neg (ite_z.mp c)]
    exact ⟨rfl, V, sg, a, b, u, l, ou, ol, g, o, x, H, hab, hG, hT⟩
theorem D4_div {y w v : Int32} (ok : aOK R W A cf) (Q : cQ E ad R W f00 A cf f) : S_X4_div E (ad 0) y w v f (fun r g => r = (aDiv R W A y w v).1 ∧ cQ E ad R W f00 (aDiv R W A y w v).2 cf g) := by
  obtain ⟨V, sg, a, b, u, l, ou, ol, g, o, x, H, hab, hG, hT⟩ := Q
  have hR := ok.1.2
  have hW := ok.2.1.2
  refine T_X4_div ?_
  unfold X_X4_div_0
  refine U4_areRegisters H ⟨fun c => ?_, fun c => ?_⟩
  · have c := ite_n c
    rw [aDiv, if_pos c]
    obtain ⟨c1, c2, c3⟩ := c
    obtain ⟨y, hy, rfl⟩ := isR_of (by omega) c1
    obtain ⟨w, hw, rfl⟩ := isR_of (by omega) c2
    obtain ⟨v, hv, rfl⟩ := isR_of (by omega) c3
    rw [ix_nI (by omega), ix_nI (by omega), ix_nI (by omega)]
    obtain ⟨w1, w2, w3⟩ := hT.1 w hw
    obtain ⟨v1, v2, v3⟩ := hT.1 v hv
    obtain ⟨d1, b1, n1, g1⟩ := ok.2.2.1 w hw
    obtain ⟨d2, b2, n2, g2⟩ := ok.2.2.1 v hv
    rw [pw32] at b1 n1 b2 n2
    have fv : cF R v := Or.inl hv
    refine ⟨_, H.f1, _, H.reg hv, _, H.q0 fv, ?_⟩
    rw [v1, sgI_eq0]
    refine ⟨fun c4 => ?_, fun c4 => ?_⟩
    · rw [if_neg c4]
      refine ⟨_, H.f1, _, H.reg hw, _, H.q0 fv, _, H.q2 fv, _, H.q1 fv, ?_⟩
      have hv0 : 0 < (A v).1.natAbs := by omega
      refine U4_multiply H hab hw (cK_F fv).2 (cK_F fv).1 (by omega) (by omega) w2 v3 w3 v2 d1 hv0 g1 (by rw [Nat.gcd_comm]; exact g2) (B8 hW n1) (B8 hW b2) (B8 hW b1) (B8 hW n2) (fun V' a' b' f' hab' hk h18 h19 H' => ?_)
      have ea : ((A w).1 * ((A v).2 : Int) * (A v).1.sign).natAbs = (A w).1.natAbs * (A v).2 := by rw [Int.natAbs_mul, Int.natAbs_sign_of_ne_zero c4, Nat.mul_one, abs_mulN]
      refine D4_fin (z := (A w).1 * ((A v).2 : Int) * (A v).1.sign) ok H' hab' hG (hT.keep hR hk _) (by rw [ea]; exact h18) (by rw [ea]; exact h19) ?_ (Nat.mul_pos d1 hv0) hy (fun g h => ⟨rfl, h⟩)
      rw [va_up_self, w1, v1, ← sgI_mul, sgI_mulN d2]
      congr 1
      rcases Int.lt_trichotomy (A v).1 0 with w | w | w
      · rw [Int.sign_eq_neg_one_of_neg w, sgI_neg w]; rfl
      · exact absurd w c4
      · rw [Int.sign_eq_one_of_pos w, sgI_pos w]; rfl
    · rw [if_pos c4]
      exact ⟨rfl, V, sg, a, b, u, l, ou, ol, g, o, x, H, hab, hG, hT⟩
  · rw [aDiv, if_neg (ite_z.mp c)]
    exact ⟨rfl, V, sg, a, b, u, l, ou, ol, g, o, x, H, hab, hG, hT⟩
end CP
