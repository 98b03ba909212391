/-! What class and reference are both held against: registers as whole numbers over lower numbers, in lowest terms; the continued fraction's rest (its lower number 0 when nothing is left). -/
def sgI (z : Int) : Int32 := if z < 0 then -1 else if z = 0 then 0 else 1
theorem sgI_neg {z : Int} (h : z < 0) : sgI z = -1 := by rw [sgI, if_pos h]
theorem sgI_zero : sgI 0 = 0 := rfl
theorem sgI_pos {z : Int} (h : 0 < z) : sgI z = 1 := by rw [sgI, if_neg (by omega), if_neg (by omega)]
theorem sgI_eq0 {z : Int} : sgI z = 0 ↔ z = 0 := by
  rcases Int.lt_trichotomy z 0 with h | h | h
  · rw [sgI_neg h]; exact ⟨fun q => absurd q (by decide), fun q => by omega⟩
  · subst h; exact ⟨fun _ => rfl, fun _ => rfl⟩
  · rw [sgI_pos h]; exact ⟨fun q => absurd q (by decide), fun q => by omega⟩
theorem sgI_cases (z : Int) : (z < 0 ∧ sgI z = -1) ∨ (z = 0 ∧ sgI z = 0) ∨ (0 < z ∧ sgI z = 1) := by
  rcases Int.lt_trichotomy z 0 with h | h | h
  · exact Or.inl ⟨h, sgI_neg h⟩
  · exact Or.inr (Or.inl ⟨h, by rw [h]; rfl⟩)
  · exact Or.inr (Or.inr ⟨h, sgI_pos h⟩)
theorem sgI_mul (a b : Int) : sgI a * sgI b = sgI (a * b) := by
  rcases sgI_cases a with ⟨h1, e1⟩ | ⟨h1, e1⟩ | ⟨h1, e1⟩ <;> rcases sgI_cases b with ⟨h2, e2⟩ | ⟨h2, e2⟩ | ⟨h2, e2⟩ <;> rw [e1, e2]
  · rw [sgI_pos (Int.mul_pos_of_neg_of_neg h1 h2)]; rfl
  · rw [h2, Int.mul_zero]; rfl
  · rw [sgI_neg (Int.mul_neg_of_neg_of_pos h1 h2)]; rfl
  · rw [h1, Int.zero_mul]; rfl
  · rw [h1, Int.zero_mul]; rfl
  · rw [h1, Int.zero_mul]; rfl
  · rw [sgI_neg (Int.mul_neg_of_pos_of_neg h1 h2)]; rfl
  · rw [h2, Int.mul_zero]; rfl
  · rw [sgI_pos (Int.mul_pos h1 h2)]; rfl
theorem sgI_neg' (z : Int) : sgI (-z) = -sgI z := by
  rcases sgI_cases z with ⟨h1, e1⟩ | ⟨h1, e1⟩ | ⟨h1, e1⟩ <;> rw [e1]
  · rw [sgI_pos (by omega)]; rfl
  · rw [h1]; rfl
  · rw [sgI_neg (by omega)]
/-- z over D, in lowest terms -/
def redz (z : Int) (D : Nat) : Int × Nat := (z.sign * (rN z.natAbs D : Int), rD z.natAbs D)
theorem redz_abs (z : Int) (D : Nat) : (redz z D).1.natAbs = rN z.natAbs D := by
  show (z.sign * (rN z.natAbs D : Int)).natAbs = _
  rcases Int.lt_trichotomy z 0 with h | h | h
  · rw [Int.sign_eq_neg_one_of_neg h]; omega
  · subst h; simp [rN]
  · rw [Int.sign_eq_one_of_pos h]; omega
theorem redz_sg {z : Int} {D : Nat} (hD : 0 < D) : sgI (redz z D).1 = sgI z := by
  show sgI (z.sign * (rN z.natAbs D : Int)) = _
  rcases Int.lt_trichotomy z 0 with h | h | h
  · have : 0 < rN z.natAbs D := rN_pos (by omega)
    rw [Int.sign_eq_neg_one_of_neg h, sgI_neg h, sgI_neg (by omega)]
  · subst h; simp
  · have : 0 < rN z.natAbs D := rN_pos (by omega)
    rw [Int.sign_eq_one_of_pos h, sgI_pos h, sgI_pos (by omega)]
abbrev regs : Type := Nat → Int × Nat
/-- there is room for z over D -/
abbrev room (W : Nat) (z : Int) (D : Nat) : Prop := rN z.natAbs D < 2 ^ (32 * W) ∧ rD z.natAbs D < 2 ^ (32 * W)
abbrev isR (R : Nat) (x : Int32) : Prop := 0 ≤ x ∧ x < nI R
theorem isR_of {R : Nat} {x : Int32} (hR : R < 2 ^ 31) (h : isR R x) : ∃ j : Nat, j < R ∧ x = nI j := by
  rcases pk_ix x hR with q | q | q
  · exact absurd h.1 (Int32.not_le.mpr q)
  · exact absurd h.2 (Int32.not_lt.mpr q)
  · exact q
theorem isR_nI {R j : Nat} (hj : j < R) (hR : R < 2 ^ 31) : isR R (nI j) := ⟨nI_pos' (by omega), nI_lt hj hR⟩
abbrev ix (x : Int32) : Nat := x.toNatClampNeg
theorem ix_nI {j : Nat} (hj : j < 2 ^ 31) : ix (nI j) = j := nI_clamp hj
/-- a result z over D goes to register d, if there is room -/
def opR (W : Nat) (a : regs) (d : Nat) (z : Int) (D : Nat) : Int32 × regs := if room W z D then (0, va_up a d (redz z D)) else (1, a)
def aSet (R W : Nat) (a : regs) (x p q : Int32) : Int32 × regs := if isR R x then (if q = 0 then (2, a) else opR W a (ix x) (p.toInt * q.toInt.sign) q.toInt.natAbs) else (3, a)
def aAdd (R W : Nat) (a : regs) (x y w : Int32) : Int32 × regs := if isR R x ∧ isR R y ∧ isR R w then opR W a (ix x) ((a (ix y)).1 * (a (ix w)).2 + (a (ix w)).1 * (a (ix y)).2) ((a (ix y)).2 * (a (ix w)).2) else (3, a)
def aSub (R W : Nat) (a : regs) (x y w : Int32) : Int32 × regs := if isR R x ∧ isR R y ∧ isR R w then opR W a (ix x) ((a (ix y)).1 * (a (ix w)).2 - (a (ix w)).1 * (a (ix y)).2) ((a (ix y)).2 * (a (ix w)).2) else (3, a)
def aMul (R W : Nat) (a : regs) (x y w : Int32) : Int32 × regs := if isR R x ∧ isR R y ∧ isR R w then opR W a (ix x) ((a (ix y)).1 * (a (ix w)).1) ((a (ix y)).2 * (a (ix w)).2) else (3, a)
def aDiv (R W : Nat) (a : regs) (x y w : Int32) : Int32 × regs := if isR R x ∧ isR R y ∧ isR R w then (if (a (ix w)).1 = 0 then (2, a) else opR W a (ix x) ((a (ix y)).1 * (a (ix w)).2 * (a (ix w)).1.sign) ((a (ix y)).2 * (a (ix w)).1.natAbs)) else (3, a)
def cmpF (z1 : Int) (d1 : Nat) (z2 : Int) (d2 : Nat) : Int32 := if sgI z1 = sgI z2 then sgI z1 * ord3 (z1.natAbs * d2) (z2.natAbs * d1) else if sgI z1 < sgI z2 then -1 else 1
def aCmp (R : Nat) (a : regs) (x y : Int32) : Int32 := if isR R x ∧ isR R y then cmpF (a (ix x)).1 (a (ix x)).2 (a (ix y)).1 (a (ix y)).2 else 2
abbrev inI (v : Int) : Prop := -2147483648 ≤ v ∧ v ≤ 2147483647
def aFits (R : Nat) (a : regs) (x : Int32) : Int32 := if isR R x ∧ inI ((a (ix x)).1 / ((a (ix x)).2 : Int)) then 1 else 0
def aFloor (R : Nat) (a : regs) (x : Int32) : Int32 := if isR R x ∧ inI ((a (ix x)).1 / ((a (ix x)).2 : Int)) then Int32.ofInt ((a (ix x)).1 / ((a (ix x)).2 : Int)) else 0
def aCfStart (R : Nat) (a : regs) (cf : Int × Nat) (x : Int32) : Int32 × (Int × Nat) := if isR R x then (1, a (ix x)) else (0, cf)
def aCfNext (cf : Int × Nat) : Int32 × (Int × Nat) := if cf.2 = 0 then (-2147483648, cf) else if -2147483648 < cf.1 / (cf.2 : Int) ∧ cf.1 / (cf.2 : Int) ≤ 2147483647 then (Int32.ofInt (cf.1 / (cf.2 : Int)), ((cf.2 : Int), (cf.1 % (cf.2 : Int)).toNat)) else (-2147483648, cf)
def aCfDone (cf : Int × Nat) : Int32 := if cf.2 = 0 then 1 else 0
def limbOf (n : Nat) (i : Int32) : Int32 := if i < 0 then 0 else nI (dg 4294967296 n (ix i))
def aNum (R : Nat) (a : regs) (x i : Int32) : Int32 := if isR R x then limbOf (a (ix x)).1.natAbs i else 0
def aDen (R : Nat) (a : regs) (x i : Int32) : Int32 := if isR R x then limbOf (a (ix x)).2 i else 0
def aSign (R : Nat) (a : regs) (x : Int32) : Int32 := if isR R x then sgI (a (ix x)).1 else 0
abbrev bestOK (R : Nat) (a : regs) (x most part : Int32) : Prop := isR R x ∧ 1 ≤ most ∧ most ≤ 1000 ∧ (part = 0 ∨ part = 1) ∧ inI ((a (ix x)).1 / ((a (ix x)).2 : Int))
def aBest (R : Nat) (a : regs) (x most part : Int32) (r : Int64) : Prop := (bestOK R a x most part → ∃ p q : Int, isBest (a (ix x)).1 (a (ix x)).2 most.toInt p q ∧ r = Int64.ofInt (if part = 0 then p else q)) ∧ (¬ bestOK R a x most part → r = -9223372036854775808)
theorem aBest_uni {R : Nat} {a : regs} {x most part : Int32} {r s : Int64} (h : aBest R a x most part r) (h' : aBest R a x most part s) : r = s := by
  by_cases hc : bestOK R a x most part
  · obtain ⟨p, q, h1, h2⟩ := h.1 hc
    obtain ⟨p', q', h3, h4⟩ := h'.1 hc
    obtain ⟨e1, e2⟩ := isBest_uni h1 h3
    rw [h2, h4, e1, e2]
  · rw [h.2 hc, h'.2 hc]
/-- what every state keeps to -/
def aOK (R W : Nat) (a : regs) (cf : Int × Nat) : Prop := (1 ≤ R ∧ R ≤ 8) ∧ (1 ≤ W ∧ W ≤ 8) ∧ (∀ r, r < R → 0 < (a r).2 ∧ (a r).2 < 2 ^ (32 * W) ∧ (a r).1.natAbs < 2 ^ (32 * W) ∧ Nat.gcd (a r).1.natAbs (a r).2 = 1) ∧ cf.1.natAbs < 2 ^ (32 * W) ∧ cf.2 < 2 ^ (32 * W)
theorem aOK.op {R W d D : Nat} {a : regs} {cf : Int × Nat} {z : Int} (h : aOK R W a cf) (hD : 0 < D) : aOK R W (opR W a d z D).2 cf := by
  unfold opR
  split
  · rename_i hr
    refine ⟨h.1, h.2.1, fun r hrR => ?_, h.2.2.2⟩
    by_cases hrd : r = d
    · subst hrd
      dsimp only
      rw [va_up_self, redz_abs]
      exact ⟨rD_pos hD, hr.2, hr.1, r_co hD⟩
    · dsimp only
      rw [va_up_ne _ _ hrd]
      exact h.2.2.1 r hrR
  · exact h
theorem aOK.reg {R W : Nat} {a : regs} {cf : Int × Nat} (h : aOK R W a cf) {x : Int32} (hx : isR R x) : ix x < R ∧ x = nI (ix x) := by
  obtain ⟨j, hj, rfl⟩ := isR_of (by have := h.1.2; omega) hx
  have := h.1.2
  rw [ix_nI (by omega)]
  exact ⟨hj, rfl⟩
theorem aOK.at' {R W : Nat} {a : regs} {cf : Int × Nat} (h : aOK R W a cf) {x : Int32} (hx : isR R x) : 0 < (a (ix x)).2 ∧ (a (ix x)).2 < 2 ^ (32 * W) ∧ (a (ix x)).1.natAbs < 2 ^ (32 * W) ∧ Nat.gcd (a (ix x)).1.natAbs (a (ix x)).2 = 1 := h.2.2.1 _ (h.reg hx).1
theorem aOK.lt256 {W n : Nat} (hW : W ≤ 8) (h : n < 2 ^ (32 * W)) : n < 2 ^ 256 := Nat.lt_of_lt_of_le h (Nat.pow_le_pow_right (by decide) (by omega))
theorem aOK.aset {R W : Nat} {a : regs} {cf : Int × Nat} {x p q : Int32} (h : aOK R W a cf) : aOK R W (aSet R W a x p q).2 cf := by
  unfold aSet
  split
  · split
    · exact h
    · rename_i hq
      refine h.op ?_
      have : q.toInt ≠ 0 := fun z => hq (Int32.toInt_inj.mp z)
      omega
  · exact h
theorem aOK.aadd {R W : Nat} {a : regs} {cf : Int × Nat} {x y w : Int32} (h : aOK R W a cf) : aOK R W (aAdd R W a x y w).2 cf := by
  unfold aAdd
  split
  · rename_i hq
    exact h.op (Nat.mul_pos (h.at' hq.2.1).1 (h.at' hq.2.2).1)
  · exact h
theorem aOK.asub {R W : Nat} {a : regs} {cf : Int × Nat} {x y w : Int32} (h : aOK R W a cf) : aOK R W (aSub R W a x y w).2 cf := by
  unfold aSub
  split
  · rename_i hq
    exact h.op (Nat.mul_pos (h.at' hq.2.1).1 (h.at' hq.2.2).1)
  · exact h
theorem aOK.amul {R W : Nat} {a : regs} {cf : Int × Nat} {x y w : Int32} (h : aOK R W a cf) : aOK R W (aMul R W a x y w).2 cf := by
  unfold aMul
  split
  · rename_i hq
    exact h.op (Nat.mul_pos (h.at' hq.2.1).1 (h.at' hq.2.2).1)
  · exact h
theorem aOK.adiv {R W : Nat} {a : regs} {cf : Int × Nat} {x y w : Int32} (h : aOK R W a cf) : aOK R W (aDiv R W a x y w).2 cf := by
  unfold aDiv
  split
  · rename_i hq
    split
    · exact h
    · rename_i hz
      exact h.op (Nat.mul_pos (h.at' hq.2.1).1 (by omega))
  · exact h
theorem aOK.acfs {R W : Nat} {a : regs} {cf : Int × Nat} {x : Int32} (h : aOK R W a cf) : aOK R W a (aCfStart R a cf x).2 := by
  unfold aCfStart
  split
  · rename_i hq
    have := h.at' hq
    exact ⟨h.1, h.2.1, h.2.2.1, this.2.2.1, this.2.1⟩
  · exact h
theorem aOK.acfn {R W : Nat} {a : regs} {cf : Int × Nat} (h : aOK R W a cf) : aOK R W a (aCfNext cf).2 := by
  unfold aCfNext
  split
  · exact h
  · rename_i h0
    split
    · have h1 := Int.emod_nonneg cf.1 (b := (cf.2 : Int)) (by omega)
      have h2 := Int.emod_lt_of_pos cf.1 (b := (cf.2 : Int)) (by omega)
      have h3 := h.2.2.2.2
      refine ⟨h.1, h.2.1, h.2.2.1, ?_, ?_⟩
      · show ((cf.2 : Int)).natAbs < _
        omega
      · show (cf.1 % (cf.2 : Int)).toNat < _
        omega
    · exact h
