/-! The class: fractions copied, brought to lowest terms. -/
def cP (a b : Nat) : Prop := (a = 20 ∧ b = 21) ∨ (a = 21 ∧ b = 20)
section CR
variable {E : cx} {ad : Nat → Nat} {R : Nat} {W : Int32} {f00 : hm} {V : Nat → Nat} {sg : Nat → Int32} {a b : Nat} {u l ou ol : Int64} {g o x i j k : Nat} {f f' : hm}
theorem U0_become {C : hm → Prop} (H : cS E ad R W f00 V sg a b u l ou ol g o x f) (hk : cF R k) (hj : cF R j) (hkj : k ≠ j) (c : ∀ f', cS E ad R W f00 (va_up (va_up V (2 * k) (V (2 * j))) (2 * k + 1) (V (2 * j + 1))) (va_up sg k (sg j)) a b u l ou ol g o x f' → C f') : isO f (ad (4 + k)) 0 ∧ S_X0_become E (ad (4 + k)) (ad (4 + j)) f C := by
  refine ⟨H.oF hk, T_X0_become ?_⟩
  unfold X_X0_become_0
  obtain ⟨f1, hw, H1⟩ := H.wF hk (sg j)
  refine ⟨_, H.q0 hj, f1, hw, _, H1.q1 hk, _, H1.q1 hj, ?_⟩
  refine U1_become H1.ns (cK_F hk).1 (cK_F hj).1 (by omega) (fun f2 h2 => ?_)
  have H2 := H1.op h2
  refine ⟨_, H2.q2 hk, _, H2.q2 hj, ?_⟩
  refine U1_become H2.ns (cK_F hk).2 (cK_F hj).2 (by omega) (fun f3 h3 => ?_)
  have H3 := H2.op h3
  rw [va_up_ne _ _ (show 2 * j + 1 ≠ 2 * k by omega)] at H3
  exact c f3 H3
/-- what reduce leaves of the Naturals -/
def rdc (V : Nat → Nat) (i j a : Nat) (V' : Nat → Nat) : Prop := V' i = V i / Nat.gcd (V i) (V j) ∧ V' j = V j / Nat.gcd (V i) (V j) ∧ V' a = Nat.gcd (V i) (V j) ∧ ∀ k, k ≠ i → k ≠ j → k ≠ 20 → k ≠ 21 → k ≠ 22 → V' k = V k
theorem reduce_end {C : hm → Prop} {V' : Nat → Nat} (H : cS E ad R W f00 V' sg a b u l ou ol g o x f) (hab : cP a b) (hi : cK R i) (hj : cK R j) (hij : i ≠ j) (hi2 : i ≠ 20 ∧ i ≠ 21 ∧ i ≠ 22) (hj2 : j ≠ 20 ∧ j ≠ 21 ∧ j ≠ 22) (bi : V i < 4294967296 ^ 19) (bj : V j < 4294967296 ^ 19)
    (hg : V' a = Nat.gcd (V i) (V j)) (hk : ∀ k, k ≠ 20 → k ≠ 21 → k ≠ 22 → V' k = V k) (c : ∀ (V' : Nat → Nat) (a b : Nat) f', cP a b → rdc V i j a V' → cS E ad R W f00 V' sg a b u l ou ol g o x f' → C f') :
    (∃ v2 : Nat, rdV f (ad 2) 3 0 = some (.ref v2) ∧ (isO f v2 1 ∧ S_X1_isOne E v2 f (fun (r5 : Int32) (f4 : hm) => ((¬ r5 = 0 → C f4) ∧ (r5 = 0 → (∃ v7 : Nat, rdV f4 (ad 2) 3 0 = some (.ref v7) ∧ (∃ v8 : Nat, rdV f4 (ad 2) 3 2 = some (.ref v8) ∧ (isO f4 (cn ad i) 1 ∧ S_X1_divide E (cn ad i) v7 v8 f4 (fun (f10 : hm) => (∃ v11 : Nat, rdV f10 (ad 2) 3 2 = some (.ref v11) ∧ (isO f10 (cn ad i) 1 ∧ S_X1_become_ E (cn ad i) v11 f10 (fun (f13 : hm) => (∃ v14 : Nat, rdV f13 (ad 2) 3 0 = some (.ref v14) ∧ (∃ v15 : Nat, rdV f13 (ad 2) 3 2 = some (.ref v15) ∧ (isO f13 (cn ad j) 1 ∧ S_X1_divide E (cn ad j) v14 v15 f13 (fun (f17 : hm) => (∃ v18 : Nat, rdV f17 (ad 2) 3 2 = some (.ref v18) ∧ (isO f17 (cn ad j) 1 ∧ S_X1_become_ E (cn ad j) v18 f17 (fun (f20 : hm) => C f20))))))))))))))))))) := by
  have ha : cK R a := cK_w (by unfold cP at hab; omega) (by unfold cP at hab; omega)
  have h22 : cK R 22 := cK_w (by decide) (by decide)
  have ea : a = 20 ∨ a = 21 := by unfold cP at hab; omega
  have hVi : V' i = V i := hk i hi2.1 hi2.2.1 hi2.2.2
  have hVj : V' j = V j := hk j hj2.1 hj2.2.1 hj2.2.2
  refine ⟨_, H.d0, U1_isOne H.ns ha ⟨fun w => ?_, fun w => ?_⟩⟩
  · have h1 : V' a = 1 := by
      by_cases q : V' a = 1
      · exact q
      · rw [if_neg q] at w; exact absurd rfl w
    have hg1 : Nat.gcd (V i) (V j) = 1 := by rw [← hg, h1]
    refine c V' a b f hab ⟨?_, ?_, hg, fun k _ _ h3 h4 h5 => hk k h3 h4 h5⟩ H
    · rw [hg1, Nat.div_one, hVi]
    · rw [hg1, Nat.div_one, hVj]
  · refine ⟨_, H.d0, _, H.d2, ?_⟩
    refine U1_divide H.ns hi ha h22 (by omega) (by omega) (by omega) (by rw [hVi]; exact bi) (fun f1 h1 => ?_)
    have H1 := H.op h1
    refine ⟨_, H1.d2, ?_⟩
    refine U1_become H1.ns hi h22 (by omega) (fun f2 h2 => ?_)
    have H2 := H1.op h2
    refine ⟨_, H2.d0, _, H2.d2, ?_⟩
    have e1 : va_up (va_up (va_up V' 22 (V' i / V' a)) i (V' i % V' a)) i (va_up (va_up V' 22 (V' i / V' a)) i (V' i % V' a) 22) j = V j := by
      rw [va_up_ne _ _ (Ne.symm hij), va_up_ne _ _ (Ne.symm hij), va_up_ne _ _ hj2.2.2, hVj]
    have e2 : va_up (va_up (va_up V' 22 (V' i / V' a)) i (V' i % V' a)) i (va_up (va_up V' 22 (V' i / V' a)) i (V' i % V' a) 22) a = V' a := by
      rw [va_up_ne _ _ (by omega), va_up_ne _ _ (by omega), va_up_ne _ _ (by omega)]
    have e3 : va_up (va_up V' 22 (V' i / V' a)) i (V' i % V' a) 22 = V i / V' a := by
      rw [va_up_ne _ _ (by omega), va_up_self, hVi]
    refine U1_divide H2.ns hj ha h22 (by omega) (by omega) (by omega) (by rw [e1]; exact bj) (fun f3 h3 => ?_)
    rw [e1, e2, e3] at h3
    have H3 := H2.op h3
    refine ⟨_, H3.d2, ?_⟩
    refine U1_become H3.ns hj h22 (by omega) (fun f4 h4 => ?_)
    have H4 := H3.op h4
    refine c _ a b f4 hab ⟨?_, ?_, ?_, fun k k1 k2 k3 k4 k5 => ?_⟩ H4
    · rw [va_up_ne _ _ hij, va_up_ne _ _ hij, va_up_ne _ _ hi2.2.2, va_up_self, hg]
    · rw [va_up_self, va_up_ne _ _ (by omega), va_up_self, hg]
    · rw [va_up_ne _ _ (by omega), va_up_ne _ _ (by omega), va_up_ne _ _ (by omega), va_up_ne _ _ (by omega), va_up_ne _ _ (by omega), va_up_ne _ _ (by omega), hg]
    · rw [va_up_ne _ _ k2, va_up_ne _ _ k2, va_up_ne _ _ k5, va_up_ne _ _ k1, va_up_ne _ _ k1, va_up_ne _ _ k5, hk k k3 k4 k5]
theorem U3_reduce {C : hm → Prop} (H : cS E ad R W f00 V sg a b u l ou ol g o x f) (hab : cP a b) (hi : cK R i) (hj : cK R j) (hij : i ≠ j) (hi2 : i ≠ 20 ∧ i ≠ 21 ∧ i ≠ 22) (hj2 : j ≠ 20 ∧ j ≠ 21 ∧ j ≠ 22) (bi : V i < 4294967296 ^ 19) (bj : V j < 4294967296 ^ 19)
    (c : ∀ (V' : Nat → Nat) (a b : Nat) f', cP a b → rdc V i j a V' → cS E ad R W f00 V' sg a b u l ou ol g o x f' → C f') : isO f (ad 2) 3 ∧ S_X3_reduce E (ad 2) (cn ad i) (cn ad j) f C := by
  refine ⟨H.o2, ?_⟩
  have h22 : cK R 22 := cK_w (by decide) (by decide)
  have hgcd : eucl 100000 (V i) (V j) = (Nat.gcd (V i) (V j), 0) := eucl_ok 608 100000 _ _ (Nat.lt_of_lt_of_le bj (by decide +kernel)) (by decide)
  refine T_X3_reduce (fun t a0 a1 a2 x3 f' => ∃ (st a b : Nat) (V' : Nat → Nat), t = 100000 - st ∧ st ≤ 100000 ∧ a0 = ad 2 ∧ a1 = cn ad i ∧ a2 = cn ad j ∧ x3 = nI st ∧ cP a b ∧ cS E ad R W f00 V' sg a b u l ou ol g o x f' ∧ eucl (100000 - st) (V' a) (V' b) = (Nat.gcd (V i) (V j), 0) ∧ V' a < 4294967296 ^ 19 ∧ V' b < 4294967296 ^ 19 ∧ ∀ k, k ≠ 20 → k ≠ 21 → k ≠ 22 → V' k = V k) ?_ ?_
  · unfold X_X3_reduce_0
    have ha : cK R a := cK_w (by unfold cP at hab; omega) (by unfold cP at hab; omega)
    have hb : cK R b := cK_w (by unfold cP at hab; omega) (by unfold cP at hab; omega)
    have hab' : (a = 20 ∨ a = 21) ∧ (b = 20 ∨ b = 21) ∧ a ≠ b := by unfold cP at hab; omega
    refine ⟨_, H.d0, U1_become H.ns ha hi (by omega) (fun f1 h1 => ?_)⟩
    have H1 := H.op h1
    refine ⟨_, H1.d1, U1_become H1.ns hb hj (by omega) (fun f2 h2 => ?_)⟩
    have H2 := H1.op h2
    rw [va_up_ne _ _ (show j ≠ a by omega)] at H2
    refine ⟨_, 0, a, b, _, rfl, by omega, rfl, rfl, rfl, rfl, hab, H2, ?_, ?_, ?_, fun k k1 k2 k3 => ?_⟩
    · rw [va_up_ne _ _ hab'.2.2, va_up_self, va_up_self]; exact hgcd
    · rw [va_up_ne _ _ hab'.2.2, va_up_self]; exact bi
    · rw [va_up_self]; exact bj
    · rw [va_up_ne _ _ (by omega), va_up_ne _ _ (by omega)]
  · rintro t a0 a1 a2 x3 f' ⟨st, a, b, V', rfl, hst, rfl, rfl, rfl, rfl, hab, H, he, ba, bb, hk⟩
    unfold X_X3_reduce_18
    have hab' : (a = 20 ∨ a = 21) ∧ (b = 20 ∨ b = 21) ∧ a ≠ b := by unfold cP at hab; omega
    have ha : cK R a := cK_w (by omega) (by omega)
    have hb : cK R b := cK_w (by omega) (by omega)
    rw [show (100000 : Int32) = nI 100000 from rfl, nI_leI (by decide) (by omega)]
    refine ⟨fun w => ?_, fun w => ⟨_, H.d1, U1_isZero H.ns hb ⟨fun w2 => ?_, fun w2 => ?_⟩⟩⟩
    · have e0 : 100000 - st = 0 := by omega
      rw [e0] at he
      exact reduce_end (V := V) H hab hi hj hij hi2 hj2 bi bj (congrArg Prod.fst he) hk c
    · have hz : V' b = 0 := by
        by_cases q : V' b = 0
        · exact q
        · rw [if_neg q] at w2; exact absurd rfl w2
      rw [hz, eucl_z] at he
      exact reduce_end (V := V) H hab hi hj hij hi2 hj2 bi bj (congrArg Prod.fst he) hk c
    · have hz : ¬ V' b = 0 := by
        intro q
        rw [if_pos q] at w2; exact absurd w2 (by decide)
      refine ⟨_, H.d0, _, H.d1, _, H.d2, U1_divide H.ns ha hb h22 (by omega) (by omega) (by omega) ba (fun f1 h1 => ?_)⟩
      have H1 := H.op h1
      obtain ⟨f2, w3, H2⟩ := H1.wd0 b
      obtain ⟨f3, w4, H3⟩ := H2.wd1 a
      refine ⟨_, H1.d0, _, H1.d1, f2, w3, f3, w4, ?_⟩
      rintro y rfl
      have ea : va_up (va_up V' 22 (V' a / V' b)) a (V' a % V' b) a = V' a % V' b := va_up_self _ _ _
      have eb : va_up (va_up V' 22 (V' a / V' b)) a (V' a % V' b) b = V' b := by rw [va_up_ne _ _ (Ne.symm hab'.2.2), va_up_ne _ _ (by omega)]
      refine ⟨100000 - (st + 1), by omega, st + 1, b, a, _, rfl, by omega, rfl, rfl, rfl, nI_1 st, ?_, H3, ?_, ?_, ?_, fun k k1 k2 k3 => ?_⟩
      · unfold cP at hab ⊢; omega
      · rw [ea, eb]
        rw [show 100000 - st = 100000 - (st + 1) + 1 by omega] at he
        obtain ⟨w', hw'⟩ : ∃ w', V' b = w' + 1 := ⟨V' b - 1, by omega⟩
        rw [hw'] at he ⊢
        exact he
      · rw [eb]; exact bb
      · rw [ea]; exact Nat.lt_of_le_of_lt (Nat.mod_le _ _) ba
      · rw [va_up_ne _ _ (by omega), va_up_ne _ _ (by omega), hk k k1 k2 k3]
end CR
