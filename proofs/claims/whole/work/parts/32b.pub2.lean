/-! The class's public methods: comparing, floors, continued fractions, limbs, signs, the best fraction. -/
section CPB
variable {E : cx} {ad : Nat → Nat} {R W : Nat} {f00 : hm} {A : regs} {cf : Int × Nat} {f : hm}
theorem isR_ix {y : Nat} (hy : y < R) (hR : R ≤ 8) : ix (nI y) = y := ix_nI (by omega)
theorem D4_cmp {y w : Int32} (ok : aOK R W A cf) (Q : cQ E ad R W f00 A cf f) : S_X4_cmp E (ad 0) y w f (fun r g => r = aCmp R A y w ∧ cQ E ad R W f00 A cf g) := by
  have Q0 := Q
  obtain ⟨V, sg, a, b, u, l, ou, ol, g, o, x, H, hab, hG, hT⟩ := Q
  have hR := ok.1.2
  have hW := ok.2.1.2
  refine T_X4_cmp ?_
  unfold X_X4_cmp_0
  refine U4_isRegister H ⟨fun c => ?_, fun c => U4_isRegister H ⟨fun c2 => ?_, fun c2 => ?_⟩⟩
  · rw [aCmp, if_neg (fun z => ite_z.mp c z.1)]
    exact ⟨rfl, Q0⟩
  · have c := ite_n c
    have c2 := ite_n c2
    rw [aCmp, if_pos ⟨c, c2⟩, cmpF]
    obtain ⟨y, hy, rfl⟩ := isR_of (by omega) c
    obtain ⟨w, hw, rfl⟩ := isR_of (by omega) c2
    rw [isR_ix hy hR, isR_ix hw hR]
    obtain ⟨y1, y2, y3⟩ := hT.1 y hy
    obtain ⟨w1, w2, w3⟩ := hT.1 w hw
    obtain ⟨d1, b1, n1, g1⟩ := ok.2.2.1 y hy
    obtain ⟨d2, b2, n2, g2⟩ := ok.2.2.1 w hw
    rw [pw32] at b1 n1 b2 n2
    have fy : cF R y := Or.inl hy
    have fw : cF R w := Or.inl hw
    have k30 : cK R 30 := cK_w (by decide) (by decide)
    have k32 : cK R 32 := cK_w (by decide) (by decide)
    refine ⟨_, H.f1, _, H.reg hy, _, H.f1, _, H.reg hw, _, H.q0 fy, _, H.q0 fw, ?_⟩
    rw [y1, w1]
    refine ⟨fun e => ?_, fun e => ⟨_, H.q0 fy, _, H.q0 fw, ?_⟩⟩
    · rw [if_pos e]
      refine ⟨_, H.f6, _, H.q1 fy, _, H.q2 fw, U1_becomeProduct H.ns k30 (cK_F fy).1 (cK_F fw).2 (by omega) (by omega) ?_ (fun f1 m1 => ?_)⟩
      · rw [y2, w3]; exact Nat.lt_of_lt_of_le (B816 (B8 hW n1) (B8 hW b2)) B16_18
      have H1 := H.op m1
      rw [y2, w3] at H1
      refine ⟨_, H1.f8, _, H1.q1 fw, _, H1.q2 fy, U1_becomeProduct H1.ns k32 (cK_F fw).1 (cK_F fy).2 (by omega) (by omega) ?_ (fun f2 m2 => ?_)⟩
      · rw [va_up_ne _ _ (by omega), va_up_ne _ _ (by omega), w2, y3]; exact Nat.lt_of_lt_of_le (B816 (B8 hW n2) (B8 hW b1)) B16_18
      have H2 := H1.op m2
      rw [va_up_ne _ _ (show 2 * w ≠ 30 by omega), va_up_ne _ _ (show 2 * y + 1 ≠ 30 by omega), w2, y3] at H2
      refine ⟨_, H2.q0 fy, _, H2.f6, _, H2.f8, U1_compareWith H2.ns k30 k32 ?_⟩
      rw [va_up_self, va_up_ne _ _ (show (30 : Nat) ≠ 32 by decide), va_up_self, y1]
      exact ⟨rfl, _, sg, a, b, u, l, ou, ol, g, o, x, H2, hab, hG, hT.keep' hR (fun k hk => by rw [va_up_ne _ _ (by omega), va_up_ne _ _ (by omega)])⟩
    · rw [if_neg e, y1, w1]
      refine ⟨fun q => ?_, fun q => ?_⟩
      · rw [if_neg (Int32.not_lt.mpr q)]; exact ⟨rfl, Q0⟩
      · rw [if_pos (Int32.not_le.mp q)]; exact ⟨rfl, Q0⟩
  · rw [aCmp, if_neg (fun z => ite_z.mp c2 z.2)]
    exact ⟨rfl, Q0⟩
theorem dn_in {r : Int64} {q : Int} (h : r.toInt = q ∨ (¬ inI r.toInt ∧ ¬ inI q)) : (inI r.toInt ↔ inI q) ∧ (inI q → r.toInt = q) := by
  rcases h with h | ⟨h1, h2⟩
  · rw [h]; exact ⟨Iff.rfl, fun _ => rfl⟩
  · exact ⟨⟨fun w => absurd w h1, fun w => absurd w h2⟩, fun w => absurd w h2⟩
theorem D4_fits {y : Int32} (ok : aOK R W A cf) (Q : cQ E ad R W f00 A cf f) : S_X4_fits E (ad 0) y f (fun r g => r = aFits R A y ∧ cQ E ad R W f00 A cf g) := by
  have Q0 := Q
  obtain ⟨V, sg, a, b, u, l, ou, ol, g, o, x, H, hab, hG, hT⟩ := Q
  have hR := ok.1.2
  have hW := ok.2.1.2
  refine T_X4_fits ?_
  unfold X_X4_fits_0
  refine U4_isRegister H ⟨fun c => ⟨nb0, ?_⟩, fun c => ?_⟩
  · rw [aFits, if_neg (fun z => ite_z.mp c z.1)]
    exact ⟨rfl, Q0⟩
  · have c := ite_n c
    obtain ⟨y, hy, rfl⟩ := isR_of (by omega) c
    obtain ⟨y1, y2, y3⟩ := hT.1 y hy
    obtain ⟨d1, b1, n1, g1⟩ := ok.2.2.1 y hy
    rw [pw32] at b1 n1
    have fy : cF R y := Or.inl hy
    rw [aFits, isR_ix hy hR]
    refine ⟨_, H.f1, _, H.reg hy, U4_down H fy y1 y2 y3 d1 (B8 hW n1) (fun r V' f' hr hk h37 H' => ?_)⟩
    have Q' : cQ E ad R W f00 A cf f' := ⟨V', sg, a, b, u, l, ou, ol, g, o, x, H', hab, hG, hT.keep' hR (fun k hk' => hk k (by omega))⟩
    obtain ⟨i1, i2⟩ := dn_in hr
    refine U4_isInt ⟨fun q => ⟨nb0, ?_⟩, fun q => ⟨nb1, ?_⟩⟩
    · rw [if_neg (fun z => ite_z.mp q (i1.mpr z.2))]; exact ⟨rfl, Q'⟩
    · rw [if_pos ⟨c, i1.mp (ite_n q)⟩]; exact ⟨rfl, Q'⟩
theorem D4_floorSmall {y : Int32} (ok : aOK R W A cf) (Q : cQ E ad R W f00 A cf f) : S_X4_floorSmall E (ad 0) y f (fun r g => r = aFloor R A y ∧ cQ E ad R W f00 A cf g) := by
  have Q0 := Q
  obtain ⟨V, sg, a, b, u, l, ou, ol, g, o, x, H, hab, hG, hT⟩ := Q
  have hR := ok.1.2
  have hW := ok.2.1.2
  refine T_X4_floorSmall ?_
  unfold X_X4_floorSmall_0
  refine U4_isRegister H ⟨fun c => ?_, fun c => ?_⟩
  · have c := ite_n c
    obtain ⟨y, hy, rfl⟩ := isR_of (by omega) c
    obtain ⟨y1, y2, y3⟩ := hT.1 y hy
    obtain ⟨d1, b1, n1, g1⟩ := ok.2.2.1 y hy
    rw [pw32] at b1 n1
    have fy : cF R y := Or.inl hy
    rw [aFloor, isR_ix hy hR]
    refine ⟨_, H.f1, _, H.reg hy, U4_down H fy y1 y2 y3 d1 (B8 hW n1) (fun r V' f' hr hk h37 H' => ?_)⟩
    have Q' : cQ E ad R W f00 A cf f' := ⟨V', sg, a, b, u, l, ou, ol, g, o, x, H', hab, hG, hT.keep' hR (fun k hk' => hk k (by omega))⟩
    obtain ⟨i1, i2⟩ := dn_in hr
    refine U4_isInt ⟨fun q => ?_, fun q => ?_⟩
    · rw [if_neg (fun z => ite_z.mp q (i1.mpr z.2))]; exact ⟨rfl, Q'⟩
    · have hin := i1.mp (ite_n q)
      rw [if_pos ⟨c, hin⟩]; exact ⟨to32 (i2 hin), Q'⟩
  · rw [aFloor, if_neg (fun z => ite_z.mp c z.1)]
    exact ⟨rfl, Q0⟩
theorem D4_cfStart {y : Int32} (ok : aOK R W A cf) (Q : cQ E ad R W f00 A cf f) : S_X4_cfStart E (ad 0) y f (fun r g => r = (aCfStart R A cf y).1 ∧ cQ E ad R W f00 A (aCfStart R A cf y).2 g) := by
  have Q0 := Q
  obtain ⟨V, sg, a, b, u, l, ou, ol, g, o, x, H, hab, hG, hT⟩ := Q
  have hR := ok.1.2
  refine T_X4_cfStart ?_
  unfold X_X4_cfStart_0
  refine U4_isRegister H ⟨fun c => ?_, fun c => ⟨nb0, ?_⟩⟩
  · have c := ite_n c
    obtain ⟨y, hy, rfl⟩ := isR_of (by omega) c
    obtain ⟨y1, y2, y3⟩ := hT.1 y hy
    rw [aCfStart, if_pos c, isR_ix hy hR]
    refine ⟨_, H.f2, _, H.f1, _, H.reg hy, U0_become H cF_8 (Or.inl hy) (by omega) (fun f' H' => ⟨nb1, rfl, ?_⟩)⟩
    refine ⟨_, _, a, b, u, l, ou, ol, g, o, x, H', hab, hG, fun r hr => ?_, ?_, fun _ => ?_⟩
    · rw [va_up_ne _ _ (by omega), va_up_ne _ _ (by omega), va_up_ne _ _ (by omega), va_up_ne _ _ (by omega), va_up_ne _ _ (by omega)]
      exact hT.1 r hr
    · rw [va_up_self]; exact y3
    · rw [va_up_ne _ _ (by omega), va_up_self, va_up_self]; exact ⟨y2, y1⟩
  · rw [aCfStart, if_neg (ite_z.mp c)]
    exact ⟨rfl, Q0⟩
theorem D4_cfDone (ok : aOK R W A cf) (Q : cQ E ad R W f00 A cf f) : S_X4_cfDone E (ad 0) f (fun r g => r = aCfDone cf ∧ cQ E ad R W f00 A cf g) := by
  have Q0 := Q
  obtain ⟨V, sg, a, b, u, l, ou, ol, g, o, x, H, hab, hG, hT⟩ := Q
  refine T_X4_cfDone ?_
  unfold X_X4_cfDone_0
  refine ⟨_, H.f2, _, H.q2 cF_8, U1_isZero H.ns (cK_w (by decide) (by decide)) ⟨?_, ?_, Q0⟩⟩
  · split
    · exact nb1
    · exact nb0
  · rw [aCfDone, hT.2.1]
theorem D4_cfNext (ok : aOK R W A cf) (Q : cQ E ad R W f00 A cf f) : S_X4_cfNext E (ad 0) f (fun r g => r = (aCfNext cf).1 ∧ cQ E ad R W f00 A (aCfNext cf).2 g) := by
  have Q0 := Q
  obtain ⟨V, sg, a, b, u, l, ou, ol, g, o, x, H, hab, hG, hT⟩ := Q
  have hR := ok.1.2
  have hW := ok.2.1.2
  refine T_X4_cfNext ?_
  unfold X_X4_cfNext_0
  have k16 : cK R (2 * 8) := cK_w (by decide) (by decide)
  have k17 : cK R (2 * 8 + 1) := cK_w (by decide) (by decide)
  have k37 : cK R 37 := cK_w (by decide) (by decide)
  refine ⟨_, H.f2, _, H.q2 cF_8, U1_isZero H.ns k17 ⟨fun c => ?_, fun c => ?_⟩⟩
  · have c := ite_z.mp c
    have h17 : V (2 * 8 + 1) = cf.2 := hT.2.1
    rw [h17] at c
    obtain ⟨h16, h8⟩ := hT.2.2 c
    rw [aCfNext, if_neg c]
    have n1 := ok.2.2.2.1
    rw [pw32] at n1
    refine ⟨_, H.f2, U4_down H cF_8 h8 h16 h17 (by omega) (B8 hW n1) (fun r V' f' hr hk h37 H' => ?_)⟩
    have Q' : cQ E ad R W f00 A cf f' := ⟨V', sg, a, b, u, l, ou, ol, g, o, x, H', hab, hG, hT.keep' hR (fun k hk' => hk k (by omega))⟩
    obtain ⟨i1, i2⟩ := dn_in hr
    refine U4_isInt ⟨fun q => ?_, fun q => ?_⟩
    · have hn : ¬ inI (cf.1 / (cf.2 : Int)) := fun z => ite_z.mp q (i1.mpr z)
      rw [if_neg (fun z => hn ⟨by omega, z.2⟩)]
      exact ⟨rfl, Q'⟩
    · have hin := i1.mp (ite_n q)
      have er := i2 hin
      rw [lgc_eq, er, show (-2147483648 : Int64).toInt = -2147483648 from rfl]
      refine ⟨fun q2 => ?_, fun q2 => ?_⟩
      · rw [if_pos ⟨by have := hin.1; omega, hin.2⟩]
        obtain ⟨f2, w2, H2⟩ := H'.wF cF_8 1
        refine ⟨_, H'.f2, f2, w2, _, H2.f2, _, H2.q1 cF_8, _, H2.f2, _, H2.q2 cF_8, U1_become H2.ns k16 k17 (by decide) (fun f3 m3 => ?_)⟩
        have H3 := H2.op m3
        refine ⟨_, H3.f2, _, H3.q2 cF_8, _, H3.f13, U1_become H3.ns k17 k37 (by decide) (fun f4 m4 => ?_)⟩
        have H4 := H3.op m4
        rw [hk (2 * 8 + 1) (by decide), h17, va_up_ne _ _ (show (37 : Nat) ≠ 2 * 8 by decide), h37] at H4
        refine ⟨to32 er, _, _, a, b, u, l, ou, ol, g, o, x, H4, hab, hG, fun r hr => ?_, ?_, fun _ => ?_⟩
        · rw [va_up_ne _ _ (by omega), va_up_ne _ _ (by omega), va_up_ne _ _ (by omega), va_up_ne _ _ (by omega), va_up_ne _ _ (by omega), hk _ (by omega), hk _ (by omega)]
          exact hT.1 r hr
        · exact va_up_self _ _ _
        · rw [va_up_self]
          refine ⟨?_, ?_⟩
          · show va_up (va_up V' (2 * 8) cf.2) (2 * 8 + 1) _ (2 * 8) = ((cf.2 : Int)).natAbs
            rw [va_up_ne _ _ (by decide), va_up_self, Int.natAbs_natCast]
          · show (1 : Int32) = sgI (cf.2 : Int)
            rw [sgI_pos (by omega)]
      · rw [if_neg (fun z => by omega)]
        exact ⟨rfl, Q'⟩
  · have c := ite_n c
    have h17 : V (2 * 8 + 1) = cf.2 := hT.2.1
    rw [h17] at c
    rw [aCfNext, if_pos c]
    exact ⟨rfl, Q0⟩
theorem limb32 {gr : Nat → Int32} {v : Nat} {y : Int32} (hg : dgs gr v) (hv : v < 4294967296 ^ 8) : (limbV gr y).toInt32 = limbOf v y := by
  unfold limbV limbOf
  by_cases h : y < 0
  · rw [if_pos h, if_pos h]; rfl
  · rw [if_neg h, if_neg h]
    obtain ⟨t, ht, rfl⟩ := nI_of h
    rw [ix_nI ht]
    by_cases h2 : (20 : Int32) ≤ nI t
    · rw [if_pos h2]
      rw [show (20 : Int32) = nI 20 from rfl, nI_leI (by decide) ht] at h2
      rw [dg_big (Nat.lt_of_lt_of_le hv (Nat.pow_le_pow_right (by decide) (by omega)))]
      rfl
    · rw [if_neg h2]
      rw [show (20 : Int32) = nI 20 from rfl, nI_leI (by decide) ht] at h2
      rw [hg t (by omega), lim_nI (dg_lt (by decide) _ _), lN_i]
theorem D4_numLimb {y i : Int32} (ok : aOK R W A cf) (Q : cQ E ad R W f00 A cf f) : S_X4_numLimb E (ad 0) y i f (fun r g => r = aNum R A y i ∧ cQ E ad R W f00 A cf g) := by
  have Q0 := Q
  obtain ⟨V, sg, a, b, u, l, ou, ol, g, o, x, H, hab, hG, hT⟩ := Q
  have hR := ok.1.2
  have hW := ok.2.1.2
  refine T_X4_numLimb ?_
  unfold X_X4_numLimb_0
  refine U4_isRegister H ⟨fun c => ?_, fun c => ?_⟩
  · rw [aNum, if_neg (ite_z.mp c)]
    exact ⟨rfl, Q0⟩
  · have c := ite_n c
    obtain ⟨y, hy, rfl⟩ := isR_of (by omega) c
    obtain ⟨y1, y2, y3⟩ := hT.1 y hy
    obtain ⟨d1, b1, n1, g1⟩ := ok.2.2.1 y hy
    rw [pw32] at b1 n1
    have fy : cF R y := Or.inl hy
    rw [aNum, if_pos c, isR_ix hy hR]
    obtain ⟨len, gr, r1, r2, r3, r4⟩ := H.ns.rawOf (cK_F fy).1
    rw [y2] at r4
    exact ⟨_, H.f1, _, H.reg hy, _, H.q1 fy, U1_limb r1 ⟨limb32 r4 (B8 hW n1), Q0⟩⟩
theorem D4_denLimb {y i : Int32} (ok : aOK R W A cf) (Q : cQ E ad R W f00 A cf f) : S_X4_denLimb E (ad 0) y i f (fun r g => r = aDen R A y i ∧ cQ E ad R W f00 A cf g) := by
  have Q0 := Q
  obtain ⟨V, sg, a, b, u, l, ou, ol, g, o, x, H, hab, hG, hT⟩ := Q
  have hR := ok.1.2
  have hW := ok.2.1.2
  refine T_X4_denLimb ?_
  unfold X_X4_denLimb_0
  refine U4_isRegister H ⟨fun c => ?_, fun c => ?_⟩
  · rw [aDen, if_neg (ite_z.mp c)]
    exact ⟨rfl, Q0⟩
  · have c := ite_n c
    obtain ⟨y, hy, rfl⟩ := isR_of (by omega) c
    obtain ⟨y1, y2, y3⟩ := hT.1 y hy
    obtain ⟨d1, b1, n1, g1⟩ := ok.2.2.1 y hy
    rw [pw32] at b1 n1
    have fy : cF R y := Or.inl hy
    rw [aDen, if_pos c, isR_ix hy hR]
    obtain ⟨len, gr, r1, r2, r3, r4⟩ := H.ns.rawOf (cK_F fy).2
    rw [y3] at r4
    exact ⟨_, H.f1, _, H.reg hy, _, H.q2 fy, U1_limb r1 ⟨limb32 r4 (B8 hW b1), Q0⟩⟩
theorem D4_sign {y : Int32} (ok : aOK R W A cf) (Q : cQ E ad R W f00 A cf f) : S_X4_sign E (ad 0) y f (fun r g => r = aSign R A y ∧ cQ E ad R W f00 A cf g) := by
  have Q0 := Q
  obtain ⟨V, sg, a, b, u, l, ou, ol, g, o, x, H, hab, hG, hT⟩ := Q
  have hR := ok.1.2
  refine T_X4_sign ?_
  unfold X_X4_sign_0
  refine U4_isRegister H ⟨fun c => ?_, fun c => ?_⟩
  · rw [aSign, if_neg (ite_z.mp c)]
    exact ⟨rfl, Q0⟩
  · have c := ite_n c
    obtain ⟨y, hy, rfl⟩ := isR_of (by omega) c
    obtain ⟨y1, y2, y3⟩ := hT.1 y hy
    rw [aSign, if_pos c, isR_ix hy hR]
    exact ⟨_, H.f1, _, H.reg hy, _, H.q0 (Or.inl hy), y1, Q0⟩
theorem D4_best {y most part : Int32} (ok : aOK R W A cf) (Q : cQ E ad R W f00 A cf f) : S_X4_best E (ad 0) y most part f (fun r g => aBest R A y most part r ∧ cQ E ad R W f00 A cf g) := by
  have Q0 := Q
  obtain ⟨V, sg, a, b, u, l, ou, ol, g, o, x, H, hab, hG, hT⟩ := Q
  have hR := ok.1.2
  have hW := ok.2.1.2
  refine T_X4_best ?_
  unfold X_X4_best_0
  have no : ∀ f', cQ E ad R W f00 A cf f' → ¬ bestOK R A y most part → aBest R A y most part (-9223372036854775808) ∧ cQ E ad R W f00 A cf f' := fun f' q h => ⟨⟨fun w => absurd w h, fun _ => rfl⟩, q⟩
  refine U4_isRegister H ⟨fun c => no f Q0 (fun z => ite_z.mp c z.1), fun c => ⟨fun c2 => no f Q0 (fun z => absurd z.2.1 (Int32.not_le.mpr c2)), fun c2 => ⟨fun c3 => ?_, fun c3 => no f Q0 (fun z => c3 z.2.2.1)⟩⟩⟩
  have c := ite_n c
  have c2 := Int32.not_lt.mp c2
  obtain ⟨mo, hmo, hmo2⟩ : ∃ mo : Nat, most = nI mo ∧ 1 ≤ mo ∧ mo ≤ 1000 := by
    have h0 : ¬ most < 0 := fun z => absurd (Int32.lt_of_lt_of_le z (show (0 : Int32) ≤ 1 by decide)) (Int32.not_lt.mpr c2)
    obtain ⟨t, ht, rfl⟩ := nI_of h0
    rw [show (1 : Int32) = nI 1 from rfl, nI_leI (by decide) ht] at c2
    rw [show (1000 : Int32) = nI 1000 from rfl, nI_leI ht (by decide)] at c3
    exact ⟨t, rfl, c2, c3⟩
  subst hmo
  obtain ⟨y, hy, rfl⟩ := isR_of (by omega) c
  obtain ⟨y1, y2, y3⟩ := hT.1 y hy
  obtain ⟨d1, b1, n1, g1⟩ := ok.2.2.1 y hy
  rw [pw32] at b1 n1
  have fy : cF R y := Or.inl hy
  have k37 : cK R 37 := cK_w (by decide) (by decide)
  have eix := isR_ix hy hR
  have emo : (nI mo).toInt = (mo : Int) := nI_toInt (by omega)
  have fin : ∀ (r : Int64) (V' : Nat → Nat) f', (part = 0 ∨ part = 1) → inI r.toInt → (r.toInt = (A y).1 / ((A y).2 : Int) ∨ (¬ inI r.toInt ∧ ¬ inI ((A y).1 / ((A y).2 : Int)))) → (∀ k, k < 36 → V' k = V k) → V' 37 = ((A y).1 % ((A y).2 : Int)).toNat → cS E ad R (nI W) f00 V' sg a b u l ou ol g o x f' → isO f' (ad 3) 2 ∧ S_X2_seek E (ad 3) r (cn ad 37) (cn ad (2 * y + 1)) (nI mo) f' (fun (f22 : hm) => ((¬ part = 0 → (∃ v24 : Nat, rdV f22 (ad 0) 4 5 = some (.ref v24) ∧ (∃ v25 : Int64, rdV f22 v24 2 1 = some (.long v25) ∧ (aBest R A (nI y) (nI mo) part v25 ∧ cQ E ad R W f00 A cf f22)))) ∧ (part = 0 → (∃ v26 : Nat, rdV f22 (ad 0) 4 5 = some (.ref v26) ∧ (∃ v27 : Int64, rdV f22 v26 2 0 = some (.long v27) ∧ (aBest R A (nI y) (nI mo) part v27 ∧ cQ E ad R W f00 A cf f22)))))) := by
    intro r V' f' hp hin hr hk h37 H'
    obtain ⟨i1, i2⟩ := dn_in hr
    have hz := i1.mp hin
    refine U2_seek (z := (A y).1) (d := (A y).2) H' hG k37 (cK_F fy).2 (by omega) (by omega) (i2 hz) h37 (by rw [hk _ (by omega), y3]) d1 (B8 hW b1) hz hmo2.1 hmo2.2 (fun V2 P Q ou' ol' g' o' x' f2 hG2 hb k2 H2 => ?_)
    have bo : bestOK R A (nI y) (nI mo) part := ⟨c, c2, c3, hp, by rw [eix]; exact hz⟩
    have Q2 : cQ E ad R W f00 A cf f2 := ⟨V2, sg, a, b, _, _, ou', ol', g', o', x', H2, hab, hG2, hT.keep' hR (fun k hk' => by rw [k2 k (by omega), hk k (by omega)])⟩
    have hb' : isBest (A (ix (nI y))).1 (A (ix (nI y))).2 (nI mo).toInt P Q := by rw [eix, emo]; exact hb
    refine ⟨fun p0 => ⟨_, H2.f5, _, H2.n1, ⟨fun _ => ⟨P, Q, hb', ?_⟩, fun w => absurd bo w⟩, Q2⟩, fun p0 => ⟨_, H2.f5, _, H2.n0, ⟨fun _ => ⟨P, Q, hb', ?_⟩, fun w => absurd bo w⟩, Q2⟩⟩
    · rw [if_neg p0, lN_ofInt]
    · rw [if_pos p0]
  have notin : ∀ (r : Int64), ¬ inI r.toInt → (r.toInt = (A y).1 / ((A y).2 : Int) ∨ (¬ inI r.toInt ∧ ¬ inI ((A y).1 / ((A y).2 : Int)))) → ¬ bestOK R A (nI y) (nI mo) part := by
    intro r hn hr z
    have := z.2.2.2.2
    rw [eix] at this
    exact hn ((dn_in hr).1.mpr this)
  have Q' : ∀ (V' : Nat → Nat) f', (∀ k, k < 36 → V' k = V k) → cS E ad R (nI W) f00 V' sg a b u l ou ol g o x f' → cQ E ad R W f00 A cf f' := fun V' f' hk H' => ⟨V', sg, a, b, u, l, ou, ol, g, o, x, H', hab, hG, hT.keep' hR (fun k hk' => hk k (by omega))⟩
  refine ⟨fun p0 => ?_, fun p0 => ⟨fun p1 => ?_, fun p1 => no f Q0 (fun z => by rcases z.2.2.2.1 with w | w <;> contradiction)⟩⟩
  · refine ⟨_, H.f1, _, H.reg hy, U4_down H fy y1 y2 y3 d1 (B8 hW n1) (fun r V' f' hr hk h37 H' => U4_isInt ⟨fun q => ?_, fun q => ?_⟩)⟩
    · exact ⟨_, H'.f5, _, H'.f13, _, H'.f1, _, H'.reg hy, _, H'.q2 fy, fin r V' f' (Or.inl p0) (ite_n q) hr hk h37 H'⟩
    · exact no f' (Q' V' f' hk H') (notin r (ite_z.mp q) hr)
  · refine ⟨_, H.f1, _, H.reg hy, U4_down H fy y1 y2 y3 d1 (B8 hW n1) (fun r V' f' hr hk h37 H' => U4_isInt ⟨fun q => ?_, fun q => ?_⟩)⟩
    · exact ⟨_, H'.f5, _, H'.f13, _, H'.f1, _, H'.reg hy, _, H'.q2 fy, fin r V' f' (Or.inr p1) (ite_n q) hr hk h37 H'⟩
    · exact no f' (Q' V' f' hk H') (notin r (ite_z.mp q) hr)
end CPB
