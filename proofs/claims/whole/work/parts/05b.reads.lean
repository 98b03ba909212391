/-! Reads and writes where it is known what lies there; numbers as Int32 and Int64. -/
theorem rdV_of {f : hm} {a ci k : Nat} {fs : List Value} (h : f a = some (.inr (ci, fs))) : rdV f a ci k = fs[k]? := by simp [rdV, h]
theorem wrV_of {f : hm} {a ci k : Nat} {fs : List Value} {v : Value} (h : f a = some (.inr (ci, fs))) (hk : k < fs.length) : wrV f a ci k v = some (hp f a (.inr (ci, fs.set k v))) := by simp [wrV, h, hk]
theorem rdA_of {cA : ClassId} {f : hm} {a n j : Nat} {g : Nat → Int32} (h : f a = some (.inl (cA, n, .inl g))) (hj : j < n) (hn : n < 2 ^ 31) : rdA cA f a (nI j) = some (g j) := by
  have h1 : ¬ (nI j < 0 ∨ n ≤ (nI j).toNatClampNeg) := nI_in hj hn
  have h2 := nI_clamp (n := j) (by omega)
  simp only [rdA, h]
  rw [if_pos ⟨trivial, h1⟩, h2]
theorem wrA_of {cA : ClassId} {f : hm} {a n j : Nat} {g : Nat → Int32} {x : Int32} (h : f a = some (.inl (cA, n, .inl g))) (hj : j < n) (hn : n < 2 ^ 31) : wrA cA f a (nI j) x = some (hp f a (.inl (cA, n, .inl (upd g j x)))) := by
  have h1 : ¬ (nI j < 0 ∨ n ≤ (nI j).toNatClampNeg) := nI_in hj hn
  have h2 := nI_clamp (n := j) (by omega)
  simp only [wrA, h]
  rw [if_pos ⟨trivial, h1⟩, h2]
theorem rdQ_of {cA : ClassId} {f : hm} {a n j : Nat} {g : Nat → Option Nat} (h : f a = some (.inl (cA, n, .inr (.inr (.inr (.inr g)))))) (hj : j < n) (hn : n < 2 ^ 31) : rdQ cA f a (nI j) = some (g j) := by
  have h1 : ¬ (nI j < 0 ∨ n ≤ (nI j).toNatClampNeg) := nI_in hj hn
  have h2 := nI_clamp (n := j) (by omega)
  simp only [rdQ, h]
  rw [if_pos ⟨trivial, h1⟩, h2]
theorem rdN_of {cA : ClassId} {f : hm} {a n : Nat} {g : _} (h : f a = some (.inl (cA, n, g))) : rdN cA f a = some n := by simp [rdN, h]
theorem nb0 : narrow .boolean (.int (0 : Int32)) = .int (0 : Int32) := by decide
theorem nb1 : narrow .boolean (.int (1 : Int32)) = .int (1 : Int32) := by decide
theorem fb0 : fits .boolean (.int (0 : Int32)) = true := by decide
theorem fb1 : fits .boolean (.int (1 : Int32)) = true := by decide
/-! the cells of the reference -/
def rB (E : cx) (h ab as : Nat) (R w : Int32) (f0 : hm) (b sn : Nat → Int32) (sg go gs : Int32) (f : hm) : Prop :=
  h ≠ ab ∧ h ≠ as ∧ ab ≠ as ∧ (∀ q : Nat, q ≠ h → q ≠ ab → q ≠ as → f q = f0 q) ∧ f h = some (.inr (5, [.int R, .int w, .ref ab, .ref as, .int sg, .int go, .int gs])) ∧ f ab = some (.inl (eI E, 972, .inl b)) ∧ f as = some (.inl (eI E, 8, .inl sn))
section RB
variable {E : cx} {h ab as : Nat} {R w : Int32} {f0 : hm} {b sn : Nat → Int32} {sg go gs : Int32} {f : hm}
theorem rB.o (H : rB E h ab as R w f0 b sn sg go gs f) : isO f h 5 := ⟨_, H.2.2.2.2.1⟩
theorem rB.r0 (H : rB E h ab as R w f0 b sn sg go gs f) : rdV f h 5 0 = some (.int R) := by rw [rdV_of H.2.2.2.2.1]; rfl
theorem rB.r1 (H : rB E h ab as R w f0 b sn sg go gs f) : rdV f h 5 1 = some (.int w) := by rw [rdV_of H.2.2.2.2.1]; rfl
theorem rB.r2 (H : rB E h ab as R w f0 b sn sg go gs f) : rdV f h 5 2 = some (.ref ab) := by rw [rdV_of H.2.2.2.2.1]; rfl
theorem rB.r3 (H : rB E h ab as R w f0 b sn sg go gs f) : rdV f h 5 3 = some (.ref as) := by rw [rdV_of H.2.2.2.2.1]; rfl
theorem rB.r4 (H : rB E h ab as R w f0 b sn sg go gs f) : rdV f h 5 4 = some (.int sg) := by rw [rdV_of H.2.2.2.2.1]; rfl
theorem rB.r5 (H : rB E h ab as R w f0 b sn sg go gs f) : rdV f h 5 5 = some (.int go) := by rw [rdV_of H.2.2.2.2.1]; rfl
theorem rB.r6 (H : rB E h ab as R w f0 b sn sg go gs f) : rdV f h 5 6 = some (.int gs) := by rw [rdV_of H.2.2.2.2.1]; rfl
theorem rB.rd (H : rB E h ab as R w f0 b sn sg go gs f) {j : Nat} (hj : j < 972) : rdA (eI E) f ab (nI j) = some (b j) := rdA_of H.2.2.2.2.2.1 hj (by decide)
theorem rB.rs (H : rB E h ab as R w f0 b sn sg go gs f) {j : Nat} (hj : j < 8) : rdA (eI E) f as (nI j) = some (sn j) := rdA_of H.2.2.2.2.2.2 hj (by decide)
theorem rB.wr (H : rB E h ab as R w f0 b sn sg go gs f) {j : Nat} (hj : j < 972) (x : Int32) : ∃ f' : hm, wrA (eI E) f ab (nI j) x = some f' ∧ rB E h ab as R w f0 (upd b j x) sn sg go gs f' := by
  obtain ⟨h1, h2, h3, h4, h5, h6, h7⟩ := H
  refine ⟨_, wrA_of h6 hj (by decide), h1, h2, h3, fun q a1 a2 a3 => ?_, ?_, ?_, ?_⟩
  · rw [hp_ne _ _ a2]; exact h4 q a1 a2 a3
  · rw [hp_ne _ _ h1]; exact h5
  · rw [hp_self]
  · rw [hp_ne _ _ (Ne.symm h3)]; exact h7
theorem rB.ws (H : rB E h ab as R w f0 b sn sg go gs f) {j : Nat} (hj : j < 8) (x : Int32) : ∃ f' : hm, wrA (eI E) f as (nI j) x = some f' ∧ rB E h ab as R w f0 b (upd sn j x) sg go gs f' := by
  obtain ⟨h1, h2, h3, h4, h5, h6, h7⟩ := H
  refine ⟨_, wrA_of h7 hj (by decide), h1, h2, h3, fun q a1 a2 a3 => ?_, ?_, ?_, ?_⟩
  · rw [hp_ne _ _ a3]; exact h4 q a1 a2 a3
  · rw [hp_ne _ _ h2]; exact h5
  · rw [hp_ne _ _ h3]; exact h6
  · rw [hp_self]
theorem rB.w4 (H : rB E h ab as R w f0 b sn sg go gs f) (x : Int32) : ∃ f' : hm, wrV f h 5 4 (.int x) = some f' ∧ rB E h ab as R w f0 b sn x go gs f' := by
  obtain ⟨h1, h2, h3, h4, h5, h6, h7⟩ := H
  refine ⟨_, wrV_of h5 (by simp), h1, h2, h3, fun q a1 a2 a3 => ?_, ?_, ?_, ?_⟩
  · rw [hp_ne _ _ a1]; exact h4 q a1 a2 a3
  · rw [hp_self]; rfl
  · rw [hp_ne _ _ (Ne.symm h1)]; exact h6
  · rw [hp_ne _ _ (Ne.symm h2)]; exact h7
theorem rB.w5 (H : rB E h ab as R w f0 b sn sg go gs f) (x : Int32) : ∃ f' : hm, wrV f h 5 5 (.int x) = some f' ∧ rB E h ab as R w f0 b sn sg x gs f' := by
  obtain ⟨h1, h2, h3, h4, h5, h6, h7⟩ := H
  refine ⟨_, wrV_of h5 (by simp), h1, h2, h3, fun q a1 a2 a3 => ?_, ?_, ?_, ?_⟩
  · rw [hp_ne _ _ a1]; exact h4 q a1 a2 a3
  · rw [hp_self]; rfl
  · rw [hp_ne _ _ (Ne.symm h1)]; exact h6
  · rw [hp_ne _ _ (Ne.symm h2)]; exact h7
theorem rB.w6 (H : rB E h ab as R w f0 b sn sg go gs f) (x : Int32) : ∃ f' : hm, wrV f h 5 6 (.int x) = some f' ∧ rB E h ab as R w f0 b sn sg go x f' := by
  obtain ⟨h1, h2, h3, h4, h5, h6, h7⟩ := H
  refine ⟨_, wrV_of h5 (by simp), h1, h2, h3, fun q a1 a2 a3 => ?_, ?_, ?_, ?_⟩
  · rw [hp_ne _ _ a1]; exact h4 q a1 a2 a3
  · rw [hp_self]; rfl
  · rw [hp_ne _ _ (Ne.symm h1)]; exact h6
  · rw [hp_ne _ _ (Ne.symm h2)]; exact h7
end RB
/-! the 27 numbers of 36 digits to the base 65536 -/
def dN (b : Nat → Int32) (G : Nat → Nat → Nat) : Prop := ∀ m, m < 27 → ∀ j, j < 36 → b (36 * m + j) = nI (G m j)
def bigN (b : Nat → Int32) (N : Nat → Nat) : Prop := dN b (fun m j => dg 65536 (N m) j) ∧ ∀ m, m < 27 → N m < 65536 ^ 36
theorem dN.congr {b : Nat → Int32} {G G' : Nat → Nat → Nat} (h : dN b G) (hg : ∀ m, m < 27 → ∀ j, j < 36 → G m j = G' m j) : dN b G' := fun m hm j hj => by rw [h m hm j hj, hg m hm j hj]
theorem upd_ix (b : Nat → Int32) {n k m j : Nat} (x : Int32) (hk : k < 36) (hj : j < 36) : upd b (36 * n + k) x (36 * m + j) = if m = n ∧ j = k then x else b (36 * m + j) := by
  by_cases h : m = n ∧ j = k
  · rw [if_pos h]
    obtain ⟨rfl, rfl⟩ := h
    exact pk_us
  · rw [if_neg h]
    exact pk_un (by omega)
/-- digit k of number n is written; those below it were -/
theorem dN.step {b : Nat → Int32} {G : Nat → Nat → Nat} {A : Nat → Nat} {n k : Nat} {x : Int32} (h : dN b (fun m j => if m = n ∧ j < k then A j else G m j)) (hk : k < 36) (hx : x = nI (A k)) : dN (upd b (36 * n + k) x) (fun m j => if m = n ∧ j < k + 1 then A j else G m j) := by
  intro m hm j hj
  rw [upd_ix b _ hk hj]
  have h1 := h m hm j hj
  dsimp only at h1 ⊢
  by_cases h2 : m = n ∧ j = k
  · rw [if_pos h2, if_pos ⟨h2.1, by omega⟩, h2.2]
    exact hx
  · rw [if_neg h2, h1]
    by_cases h3 : m = n ∧ j < k
    · rw [if_pos h3, if_pos ⟨h3.1, by omega⟩]
    · rw [if_neg h3, if_neg (by omega)]
theorem dN.begin {b : Nat → Int32} {G : Nat → Nat → Nat} {A : Nat → Nat} {n : Nat} (h : dN b G) : dN b (fun m j => if m = n ∧ j < 0 then A j else G m j) := h.congr (fun m _ j _ => by simp)
theorem dN.read {b : Nat → Int32} {G : Nat → Nat → Nat} {A : Nat → Nat} {n k m j : Nat} (h : dN b (fun m j => if m = n ∧ j < k then A j else G m j)) (hm : m < 27) (hj : j < 36) (hne : ¬ (m = n ∧ j < k)) : b (36 * m + j) = nI (G m j) := by
  have h1 := h m hm j hj
  dsimp only at h1
  rw [h1, if_neg hne]
theorem dN.read' {b : Nat → Int32} {G : Nat → Nat → Nat} {A : Nat → Nat} {n k j : Nat} (h : dN b (fun m j => if m = n ∧ j < k then A j else G m j)) (hm : n < 27) (hj : j < 36) (hlt : j < k) : b (36 * n + j) = nI (A j) := by
  have h1 := h n hm j hj
  dsimp only at h1
  rw [h1, if_pos ⟨rfl, hlt⟩]
/-- all 36 digits of number n are those of v -/
theorem bigN.finish {b : Nat → Int32} {N : Nat → Nat} {A : Nat → Nat} {n v : Nat} (h : dN b (fun m j => if m = n ∧ j < 36 then A j else dg 65536 (N m) j)) (hN : ∀ m, m < 27 → N m < 65536 ^ 36) (hv : v < 65536 ^ 36) (hA : ∀ j, j < 36 → A j = dg 65536 v j) : bigN b (va_up N n v) := by
  refine ⟨h.congr (fun m hm j hj => ?_), fun m hm => ?_⟩
  · by_cases hmn : m = n
    · subst hmn
      rw [if_pos ⟨rfl, hj⟩, va_up_self, hA j hj]
    · rw [if_neg (fun q => hmn q.1), va_up_ne _ _ hmn]
  · by_cases hmn : m = n
    · subst hmn; rw [va_up_self]; exact hv
    · rw [va_up_ne _ _ hmn]; exact hN m hm
theorem ix36 (n k : Nat) : (36 : Int32) * nI n + nI k = nI (36 * n + k) := by
  rw [show (36 : Int32) = nI 36 from rfl, pk_mul, nI_add]
