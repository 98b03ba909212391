/-! The class: the search of the nearest fraction. -/
def cG (g o x : Nat) : Prop := (23 ≤ g ∧ g ≤ 25) ∧ (23 ≤ o ∧ o ≤ 25) ∧ (23 ≤ x ∧ x ≤ 25) ∧ g ≠ o ∧ g ≠ x ∧ o ≠ x
theorem lN_ofInt (n : Nat) : lN n = Int64.ofInt (n : Int) := by
  apply Int64.toBitVec_inj.mp
  apply BitVec.eq_of_toNat_eq
  show (BitVec.ofNat 64 n).toNat = (BitVec.ofInt 64 (n : Int)).toNat
  rw [BitVec.ofInt_natCast]
theorem ofI_ma (P Q : Int) (t : Nat) : Int64.ofInt P + lN t * Int64.ofInt Q = Int64.ofInt (P + t * Q) := by
  rw [lN_ofInt, ← Int64.ofInt_mul, ← Int64.ofInt_add]
section CK
variable {E : cx} {ad : Nat → Nat} {R : Nat} {W : Int32} {f00 : hm} {V : Nat → Nat} {sg : Nat → Int32} {a b : Nat} {u l ou ol : Int64} {g o x i j k : Nat} {f f' : hm}
theorem U2_moveOn {C : Int32 → hm → Prop} {P oP : Int} {Q oQ mo t : Nat} (H : cS E ad R W f00 V sg a b (Int64.ofInt P) (lN Q) (Int64.ofInt oP) (lN oQ) g o x f) (hG : cG g o x) (hmo : mo ≤ 1000) (hQ : 1 ≤ Q) (hQm : Q ≤ mo) (hoQ : oQ ≤ mo) (hb : V o < 4294967296 ^ 19) (ht : V o / V g = t)
    (c1 : ∀ (V' : Nat → Nat) f', oQ + t * Q ≤ mo → (∀ k, k ≠ x → k ≠ 26 → V' k = V k) → V' x = V o % V g → cS E ad R W f00 V' sg a b (Int64.ofInt (oP + t * P)) (lN (oQ + t * Q)) (Int64.ofInt P) (lN Q) x g o f' → C 1 f')
    (c0 : ∀ (V' : Nat → Nat) f', mo < oQ + t * Q → (∀ k, k ≠ x → k ≠ 26 → V' k = V k) → cS E ad R W f00 V' sg a b (Int64.ofInt P) (lN Q) (Int64.ofInt oP) (lN oQ) g o x f' → C 0 f') : isO f (ad 3) 2 ∧ S_X2_moveOn E (ad 3) (nI mo) f C := by
  refine ⟨H.o3, T_X2_moveOn ?_⟩
  unfold X_X2_moveOn_0
  obtain ⟨⟨g1, g2⟩, ⟨o1, o2⟩, ⟨x1, x2⟩, n1, n2, n3⟩ := hG
  have kg : cK R g := cK_w (by omega) (by omega)
  have ko : cK R o := cK_w (by omega) (by omega)
  have kx : cK R x := cK_w (by omega) (by omega)
  have k26 : cK R 26 := cK_w (by decide) (by decide)
  refine ⟨_, H.n6, _, H.n5, U1_become H.ns kx ko (by omega) (fun f1 m1 => ?_)⟩
  have H1 := H.op m1
  refine ⟨_, H1.n6, _, H1.n4, _, H1.n7, U1_divide H1.ns kx kg k26 (by omega) (by omega) (by omega) (by rw [va_up_self]; exact hb) (fun f2 m2 => ?_)⟩
  have H2 := H1.op m2
  rw [va_up_self, va_up_ne _ _ n2, ht] at H2
  have keep : ∀ k, k ≠ x → k ≠ 26 → va_up (va_up (va_up V x (V o)) 26 t) x (V o % V g) k = V k := fun k h1 h2 => by rw [va_up_ne _ _ h1, va_up_ne _ _ h2, va_up_ne _ _ h1]
  refine ⟨_, H2.n7, U1_capped H2.ns k26 ?_⟩
  rw [va_up_ne _ _ (show (26 : Nat) ≠ x by omega), va_up_self]
  obtain ⟨cp, hcp⟩ : ∃ cp, (if t < 4294967296 then t else 4294967296) = cp := ⟨_, rfl⟩
  have hcl : cp ≤ 4294967296 := by rw [← hcp]; split <;> omega
  have hm : cp * Q ≤ 4294967296 * 1000 := Nat.mul_le_mul hcl (by omega)
  rw [hcp]
  refine ⟨_, H2.n3, _, H2.n1, ?_⟩
  rintro y rfl
  rw [lN_mul, lN_add, lgc_le, nI_l (by omega), pk_lT (by omega), pk_lT (by omega)]
  have e1 : cp * Q ≤ mo → cp = t := by
    intro w
    rw [← hcp]
    split
    · rfl
    · rename_i z
      rw [if_neg z] at hcp
      have : 4294967296 * 1 ≤ cp * Q := by rw [← hcp]; exact Nat.mul_le_mul_left _ hQ
      omega
  refine ⟨fun w => ?_, fun w => ⟨nb0, ?_⟩⟩
  · have e2 := e1 (by omega)
    subst e2
    refine ⟨_, H2.n2, _, H2.n0, ?_⟩
    rintro y rfl
    rw [ofI_ma]
    obtain ⟨f3, w3, H3⟩ := H2.wn5 g
    obtain ⟨f4, w4, H4⟩ := H3.wn4 x
    obtain ⟨f5, w5, H5⟩ := H4.wn6 o
    obtain ⟨f6, w6, H6⟩ := H5.wn2 (Int64.ofInt P)
    obtain ⟨f7, w7, H7⟩ := H6.wn3 (lN Q)
    obtain ⟨f8, w8, H8⟩ := H7.wn0 (Int64.ofInt (oP + cp * P))
    obtain ⟨f9, w9, H9⟩ := H8.wn1 (lN (oQ + cp * Q))
    refine ⟨_, H2.n5, _, H2.n4, f3, w3, _, H3.n6, f4, w4, f5, w5, _, H5.n0, f6, w6, _, H6.n1, f7, w7, f8, w8, f9, w9, nb1, ?_⟩
    exact c1 _ f9 (by omega) keep (va_up_self _ _ _) H9
  · refine c0 _ f2 ?_ keep H2
    rcases Nat.lt_or_ge mo (oQ + t * Q) with w2 | w2
    · exact w2
    · exfalso
      have : cp ≤ t := by rw [← hcp]; split <;> omega
      have := Nat.mul_le_mul_right Q this
      omega
theorem U2_isBetter {C : Int32 → hm → Prop} {P P2 : Int} {Q Q2 : Nat} (H : cS E ad R W f00 V sg a b (Int64.ofInt P) (lN Q) ou ol g o x f) (hG : cG g o x) (hQ : Q < 4294967296) (hQ2 : Q2 < 4294967296) (hP : (Int64.ofInt P).toInt = P) (hP2 : (Int64.ofInt P2).toInt = P2) (hx : V x < 4294967296 ^ 17) (hg : V g < 4294967296 ^ 17)
    (c : ∀ (V' : Nat → Nat) f', (∀ k, k < 27 → V' k = V k) → (∀ k, 30 ≤ k → V' k = V k) → cS E ad R W f00 V' sg a b (Int64.ofInt P) (lN Q) ou ol g o x f' → C (if V x * Q < V g * Q2 ∨ (V x * Q = V g * Q2 ∧ (Q2 < Q ∨ (Q2 = Q ∧ P2 < P))) then 1 else 0) f') : isO f (ad 3) 2 ∧ S_X2_isBetter E (ad 3) (Int64.ofInt P2) (lN Q2) f C := by
  refine ⟨H.o3, T_X2_isBetter ?_⟩
  unfold X_X2_isBetter_0
  obtain ⟨⟨g1, g2⟩, ⟨o1, o2⟩, ⟨x1, x2⟩, n1, n2, n3⟩ := hG
  have kg : cK R g := cK_w (by omega) (by omega)
  have kx : cK R x := cK_w (by omega) (by omega)
  have k27 : cK R 27 := cK_w (by decide) (by decide)
  have k28 : cK R 28 := cK_w (by decide) (by decide)
  have k29 : cK R 29 := cK_w (by decide) (by decide)
  have big : ∀ m n : Nat, m < 4294967296 ^ 17 → n < 4294967296 → m * n < 4294967296 ^ 18 := fun m n h1 h2 => by
    rw [Nat.pow_succ]
    exact Nat.mul_lt_mul'' h1 h2
  refine ⟨_, H.n8, _, H.n1, U1_becomeL H.ns k27 hQ (fun f1 m1 => ?_)⟩
  have H1 := H.op m1
  refine ⟨_, H1.n9, _, H1.n6, _, H1.n8, U1_becomeProduct H1.ns k28 kx k27 (by omega) (by decide) (by rw [va_up_self, va_up_ne _ _ (by omega)]; exact big _ _ hx hQ) (fun f2 m2 => ?_)⟩
  have H2 := H1.op m2
  rw [va_up_self, va_up_ne _ _ (show x ≠ 27 by omega)] at H2
  refine ⟨_, H2.n8, U1_becomeL H2.ns k27 hQ2 (fun f3 m3 => ?_)⟩
  have H3 := H2.op m3
  refine ⟨_, H3.n10, _, H3.n4, _, H3.n8, U1_becomeProduct H3.ns k29 kg k27 (by omega) (by decide) (by rw [va_up_self, va_up_ne _ _ (by omega), va_up_ne _ _ (by omega), va_up_ne _ _ (by omega)]; exact big _ _ hg hQ2) (fun f4 m4 => ?_)⟩
  have H4 := H3.op m4
  rw [va_up_self, va_up_ne _ _ (show g ≠ 27 by omega), va_up_ne _ _ (show g ≠ 28 by omega), va_up_ne _ _ (show g ≠ 27 by omega)] at H4
  refine ⟨_, H4.n9, _, H4.n10, U1_compareWith H4.ns k28 k29 ?_⟩
  rw [va_up_ne _ _ (show (28 : Nat) ≠ 29 by decide), va_up_ne _ _ (show (28 : Nat) ≠ 27 by decide), va_up_self, va_up_self]
  have fin := c _ f4 (fun k hk => by rw [va_up_ne _ _ (by omega), va_up_ne _ _ (by omega), va_up_ne _ _ (by omega), va_up_ne _ _ (by omega)]) (fun k hk => by rw [va_up_ne _ _ (by omega), va_up_ne _ _ (by omega), va_up_ne _ _ (by omega), va_up_ne _ _ (by omega)]) H4
  obtain ⟨A, hA⟩ : ∃ A, V x * Q = A := ⟨_, rfl⟩
  obtain ⟨B, hB⟩ : ∃ B, V g * Q2 = B := ⟨_, rfl⟩
  rw [hA, hB] at fin ⊢
  have o0 : ord3 A B = 0 ↔ A = B := by
    unfold ord3
    split
    · rename_i h; exact ⟨fun q => absurd q (by decide), fun q => by omega⟩
    · split
      · rename_i h; exact ⟨fun _ => h, fun _ => rfl⟩
      · rename_i h; exact ⟨fun q => absurd q (by decide), fun q => absurd q h⟩
  have op : 0 ≤ ord3 A B ↔ ¬ A < B := by rw [← Int32.not_lt, ord3_lt]
  rw [o0, op]
  refine ⟨fun w => ⟨_, H4.n1, ?_⟩, fun w => ?_⟩
  · rw [lgc_eq, pk_lT (show Q2 < 2 ^ 63 by omega), pk_lT (show Q < 2 ^ 63 by omega)]
    refine ⟨fun w2 => ⟨_, H4.n0, ?_⟩, fun w2 => ⟨_, H4.n1, ?_⟩⟩
    · rw [lgc_ge, hP, hP2]
      refine ⟨fun w3 => ⟨nb0, ?_⟩, fun w3 => ⟨nb1, ?_⟩⟩
      · rw [if_neg (by omega)] at fin; exact fin
      · rw [if_pos (by omega)] at fin; exact fin
    · rw [lgc_ge, pk_lT (show Q2 < 2 ^ 63 by omega), pk_lT (show Q < 2 ^ 63 by omega)]
      refine ⟨fun w3 => ⟨nb0, ?_⟩, fun w3 => ⟨nb1, ?_⟩⟩
      · rw [if_neg (by omega)] at fin; exact fin
      · rw [if_pos (by omega)] at fin; exact fin
  · refine ⟨fun w3 => ⟨nb0, ?_⟩, fun w3 => ⟨nb1, ?_⟩⟩
    · rw [if_neg (by omega)] at fin; exact fin
    · rw [if_pos (by omega)] at fin; exact fin
end CK
