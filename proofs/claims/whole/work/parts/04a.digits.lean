/-! Digits of a number to a base B: all of it pure. -/
def dg (B n i : Nat) : Nat := n / B ^ i % B
theorem dg_lt {B : Nat} (hB : 0 < B) (n i : Nat) : dg B n i < B := Nat.mod_lt _ hB
theorem dg_split (B n i : Nat) : n % B ^ (i + 1) = n % B ^ i + B ^ i * dg B n i := Nat.mod_pow_succ
theorem dg_zero (B i : Nat) : dg B 0 i = 0 := by simp [dg]
theorem dg_big {B n i : Nat} (h : n < B ^ i) : dg B n i = 0 := by
  unfold dg
  rw [Nat.div_eq_of_lt h, Nat.zero_mod]
theorem dg_at0 (B n : Nat) : dg B n 0 = n % B := by simp [dg]
theorem dg_shift (B S p j : Nat) : dg B (S / B ^ p) j = dg B S (p + j) := by
  unfold dg
  rw [Nat.div_div_eq_div_mul, ← Nat.pow_add]
theorem dg_succ (B n i : Nat) : dg B n (i + 1) = dg B (n / B) i := by
  unfold dg
  rw [Nat.div_div_eq_div_mul, Nat.pow_succ, Nat.mul_comm]
/-- the number above place i: its lowest digit, and what is above -/
theorem dg_top {B : Nat} (n i : Nat) : n / B ^ i = B * (n / B ^ (i + 1)) + dg B n i := by
  unfold dg
  rw [Nat.pow_succ, ← Nat.div_div_eq_div_mul, Nat.div_add_mod]
theorem dg_modk {B : Nat} (n m : Nat) : ∀ k, (∀ i, i < k → dg B n i = dg B m i) → n % B ^ k = m % B ^ k
  | 0, _ => by simp [Nat.mod_one]
  | k + 1, h => by
    rw [dg_split, dg_split, dg_modk n m k (fun i hi => h i (Nat.lt_succ_of_lt hi)), h k (Nat.lt_succ_self k)]
theorem dg_ext {B n m k : Nat} (hn : n < B ^ k) (hm : m < B ^ k) (h : ∀ i, i < k → dg B n i = dg B m i) : n = m := by
  have := dg_modk n m k h
  rwa [Nat.mod_eq_of_lt hn, Nat.mod_eq_of_lt hm] at this
theorem dg_mod {B n k i : Nat} (h : i < k) : dg B (n % B ^ k) i = dg B n i := by
  unfold dg
  have e : B ^ k = B ^ i * B ^ (k - i) := by rw [← Nat.pow_add]; congr 1; omega
  rw [e, Nat.mod_mul_right_div_self]
  have e2 : B ^ (k - i) = B * B ^ (k - i - 1) := by rw [← Nat.pow_succ']; congr 1; omega
  rw [e2, Nat.mod_mul_right_mod]
/-- a low part and a high part -/
theorem dg_joinlo {B x y p i : Nat} (h : i < p) : dg B (x + B ^ p * y) i = dg B x i := by
  rw [← dg_mod (k := p) (n := x + B ^ p * y) h, Nat.add_mul_mod_self_left, dg_mod h]
theorem dg_joinhi {B x y p j : Nat} (hB : 0 < B) (h : x < B ^ p) : dg B (x + B ^ p * y) (p + j) = dg B y j := by
  rw [← dg_shift, Nat.add_mul_div_left _ _ (Nat.pow_pos hB), Nat.div_eq_of_lt h, Nat.zero_add]
/-- the carry of T + f * n into place j -/
def mc (B T n f j : Nat) : Nat := (T % B ^ j + f * (n % B ^ j)) / B ^ j
theorem mc_0 (B T n f : Nat) : mc B T n f 0 = 0 := by simp [mc, Nat.mod_one]
theorem mc_le {B : Nat} (hB : 0 < B) (T n f j : Nat) : mc B T n f j ≤ f := by
  unfold mc
  have hp : 0 < B ^ j := Nat.pow_pos hB
  have h1 := Nat.mod_lt T hp
  have h2 := Nat.mod_lt n hp
  generalize B ^ j = P at *
  generalize T % P = a at *
  generalize n % P = b at *
  apply Nat.le_of_lt_succ
  rw [Nat.div_lt_iff_lt_mul hp]
  have h3 : f * b ≤ f * P := Nat.mul_le_mul_left f (Nat.le_of_lt h2)
  rw [Nat.succ_mul]
  omega
theorem mc_quot {B : Nat} (hB : 0 < B) (T n f j : Nat) : (T + f * n) / B ^ j = T / B ^ j + f * (n / B ^ j) + mc B T n f j := by
  unfold mc
  have hp : 0 < B ^ j := Nat.pow_pos hB
  have h1 := Nat.div_add_mod T (B ^ j)
  have h2 := Nat.div_add_mod n (B ^ j)
  generalize B ^ j = P at *
  have e : T + f * n = P * (T / P + f * (n / P)) + (T % P + f * (n % P)) := by
    have : f * n = f * (P * (n / P) + n % P) := by rw [h2]
    rw [this]
    rw [Nat.mul_add, Nat.mul_add, Nat.mul_left_comm P f]
    omega
  rw [e, Nat.mul_add_div hp]
theorem mc_step {B : Nat} (hB : 0 < B) (T n f j : Nat) : f * dg B n j + dg B T j + mc B T n f j = dg B (T + f * n) j + B * mc B T n f (j + 1) := by
  have hp : 0 < B ^ j := Nat.pow_pos hB
  have e1 : mc B T n f (j + 1) = (mc B T n f j + (dg B T j + f * dg B n j)) / B := by
    have : T % B ^ (j + 1) + f * (n % B ^ (j + 1)) = (T % B ^ j + f * (n % B ^ j)) + B ^ j * (dg B T j + f * dg B n j) := by
      rw [dg_split, dg_split, Nat.mul_add, Nat.mul_add, Nat.mul_left_comm f]
      omega
    unfold mc
    rw [this, Nat.pow_succ, ← Nat.div_div_eq_div_mul, Nat.add_mul_div_left _ _ hp]
  have e2 : dg B (T + f * n) j = (mc B T n f j + (dg B T j + f * dg B n j)) % B := by
    unfold dg
    rw [mc_quot hB]
    have a1 := Nat.div_add_mod (T / B ^ j) B
    have a2 := Nat.div_add_mod (n / B ^ j) B
    generalize T / B ^ j = t at *
    generalize n / B ^ j = u at *
    have : t + f * u + mc B T n f j = (mc B T n f j + (t % B + f * (u % B))) + B * (t / B + f * (u / B)) := by
      have : f * u = f * (B * (u / B) + u % B) := by rw [a2]
      rw [this, Nat.mul_add, Nat.mul_add, Nat.mul_left_comm B f]
      omega
    rw [this, Nat.add_mul_mod_self_left]
  rw [e1, e2]
  have := Nat.mod_add_div (mc B T n f j + (dg B T j + f * dg B n j)) B
  omega
/-- the carry at the end, where both lie below B ^ k -/
theorem mc_end {B T n f k : Nat} (hT : T < B ^ k) (hn : n < B ^ k) : mc B T n f k = (T + f * n) / B ^ k := by
  unfold mc
  rw [Nat.mod_eq_of_lt hT, Nat.mod_eq_of_lt hn]
/-- a + b -/
theorem add_step {B : Nat} (hB : 0 < B) (a b j : Nat) : dg B a j + dg B b j + mc B a b 1 j = dg B (a + b) j + B * mc B a b 1 (j + 1) := by
  have := mc_step hB a b 1 j
  rw [Nat.one_mul, Nat.one_mul] at this
  omega
/-- r is t less q, up to multiples of B ^ k: the borrows are the carries of q + r -/
theorem sub_step {B : Nat} (hB : 0 < B) {q r t k j x : Nat} (h : q + r = t + B ^ k * x) (hj : j < k) : dg B q j + dg B r j + mc B q r 1 j = dg B t j + B * mc B q r 1 (j + 1) := by
  have := add_step hB q r j
  rw [h, dg_joinlo hj] at this
  exact this
theorem mc1_le {B : Nat} (hB : 0 < B) (a b j : Nat) : mc B a b 1 j ≤ 1 := mc_le hB a b 1 j
/-- comparing from the top -/
theorem top_lt {B a b i : Nat} (h : a / B ^ (i + 1) = b / B ^ (i + 1)) (hd : dg B a i < dg B b i) : a < b := by
  have h1 := dg_top (B := B) a i
  have h2 := dg_top (B := B) b i
  rw [h] at h1
  rcases Nat.lt_or_ge a b with q | q
  · exact q
  · have := Nat.div_le_div_right (c := B ^ i) q
    omega
theorem top_eq {B a b i : Nat} (h : a / B ^ (i + 1) = b / B ^ (i + 1)) (hd : dg B a i = dg B b i) : a / B ^ i = b / B ^ i := by
  rw [dg_top a i, dg_top b i, h, hd]
theorem top_start {B a b k : Nat} (ha : a < B ^ k) (hb : b < B ^ k) : a / B ^ k = b / B ^ k := by
  rw [Nat.div_eq_of_lt ha, Nat.div_eq_of_lt hb]
theorem top_end {B a b : Nat} (h : a / B ^ 0 = b / B ^ 0) : a = b := by
  simpa using h
/-- how many digits: n < B ^ k, and no fewer will do -/
def lenIs (B n k : Nat) : Prop := n < B ^ k ∧ (k = 0 ∨ B ^ (k - 1) ≤ n)
theorem lenIs_0 {B n : Nat} (h : lenIs B n 0) : n = 0 := by
  have := h.1
  simp at this
  exact this
theorem lenIs_le {B n k j : Nat} (hB : 1 < B) (h : lenIs B n k) (hj : n < B ^ j) : k ≤ j := by
  rcases h.2 with h0 | h0
  · omega
  · rcases Nat.lt_or_ge j k with q | q
    · have : B ^ j ≤ B ^ (k - 1) := Nat.pow_le_pow_right (by omega) (by omega)
      omega
    · exact q
theorem lenIs_uni {B n k j : Nat} (hB : 1 < B) (h : lenIs B n k) (h2 : lenIs B n j) : k = j :=
  Nat.le_antisymm (lenIs_le hB h h2.1) (lenIs_le hB h2 h.1)
theorem lenIs_zero {B k : Nat} (hB : 1 < B) (h : lenIs B 0 k) : k = 0 := lenIs_uni hB h ⟨by simp, Or.inl rfl⟩
/-- the topmost digit isn't 0 -/
theorem lenIs_top {B n k : Nat} (hB : 1 < B) (h : lenIs B n (k + 1)) : 0 < dg B n k := by
  rcases h.2 with h0 | h0
  · omega
  · have h1 : B ^ k ≤ n := by simpa using h0
    have h2 := h.1
    unfold dg
    have hp : 0 < B ^ k := Nat.pow_pos (by omega)
    have : n / B ^ k < B := by rw [Nat.div_lt_iff_lt_mul hp, Nat.mul_comm, ← Nat.pow_succ]; exact h2
    rw [Nat.mod_eq_of_lt this]
    exact Nat.div_pos h1 hp
/-- trimming: a digit 0 at the top goes; one that isn't ends it -/
theorem trim_go {B n k : Nat} (h : n < B ^ (k + 1)) (hd : dg B n k = 0) : n < B ^ k := by
  have h1 := dg_split B n k
  rw [Nat.mod_eq_of_lt h, hd, Nat.mul_zero, Nat.add_zero] at h1
  rcases Nat.eq_zero_or_pos (B ^ k) with q | q
  · rw [Nat.pow_succ, q] at h; omega
  · rw [h1]; exact Nat.mod_lt _ q
theorem trim_end {B n k : Nat} (h : n < B ^ (k + 1)) (hd : dg B n k ≠ 0) : lenIs B n (k + 1) := by
  refine ⟨h, Or.inr ?_⟩
  show B ^ k ≤ n
  rcases Nat.lt_or_ge n (B ^ k) with q | q
  · exact absurd (dg_big q) hd
  · exact q
theorem lenIs_lt {B n m k j : Nat} (hB : 1 < B) (h : lenIs B n k) (h2 : lenIs B m j) (hkj : k < j) : n < m := by
  rcases h2.2 with q | q
  · omega
  · have : B ^ k ≤ B ^ (j - 1) := Nat.pow_le_pow_right (by omega) (by omega)
    have := h.1
    omega
