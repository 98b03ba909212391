/-! The class's objects: where they lie, what they hold. Fractions 0 to 7 are registers, 8 the rest, 9 the result; fraction k has the Naturals 2k and 2k + 1. -/
def cF (R k : Nat) : Prop := k < R ∨ k = 8 ∨ k = 9
def cK (R k : Nat) : Prop := cF R (k / 2) ∨ (20 ≤ k ∧ k < 38)
/-- the cells that there are -/
def cA (R c : Nat) : Prop := c < 4 ∨ (4 ≤ c ∧ cF R (c - 4)) ∨ (14 ≤ c ∧ cK R ((c - 14) / 2))
abbrev cn (ad : Nat → Nat) (k : Nat) : Nat := ad (14 + 2 * k)
abbrev cm (ad : Nat → Nat) (k : Nat) : Nat := ad (15 + 2 * k)
def cN (E : cx) (ad : Nat → Nat) (R : Nat) (f00 : hm) (V : Nat → Nat) (f : hm) : Prop := R ≤ 8 ∧ (∀ c d, cA R c → cA R d → ad c = ad d → c = d) ∧ nS E (cn ad) (cm ad) (cK R) f V f ∧ ∀ q, (∀ c, cA R c → q ≠ ad c) → f q = f00 q
def cM (ad : Nat → Nat) (W : Int32) : List Value := [.int W, .ref (ad 1), .ref (ad 12), .ref (ad 13), .ref (ad 2), .ref (ad 3), .ref (cn ad 30), .ref (cn ad 31), .ref (cn ad 32), .ref (cn ad 33), .ref (cn ad 34), .ref (cn ad 35), .ref (cn ad 36), .ref (cn ad 37)]
def cR (ad : Nat → Nat) (a b : Nat) : List Value := [.ref (cn ad a), .ref (cn ad b), .ref (cn ad 22)]
def cB (ad : Nat → Nat) (u l ou ol : Int64) (g o x : Nat) : List Value := [.long u, .long l, .long ou, .long ol, .ref (cn ad g), .ref (cn ad o), .ref (cn ad x), .ref (cn ad 26), .ref (cn ad 27), .ref (cn ad 28), .ref (cn ad 29)]
def cS (E : cx) (ad : Nat → Nat) (R : Nat) (W : Int32) (f00 : hm) (V : Nat → Nat) (sg : Nat → Int32) (a b : Nat) (u l ou ol : Int64) (g o x : Nat) (f : hm) : Prop :=
  cN E ad R f00 V f ∧ f (ad 0) = some (.inr (4, cM ad W)) ∧ (∃ gr : Nat → Option Nat, f (ad 1) = some (.inl (eF E, R, .inr (.inr (.inr (.inr gr))))) ∧ ∀ j, j < R → gr j = some (ad (4 + j))) ∧ (∀ k, cF R k → f (ad (4 + k)) = some (.inr (0, [.int (sg k), .ref (cn ad (2 * k)), .ref (cn ad (2 * k + 1))]))) ∧ f (ad 2) = some (.inr (3, cR ad a b)) ∧ f (ad 3) = some (.inr (2, cB ad u l ou ol g o x))
section CS
variable {E : cx} {ad : Nat → Nat} {R : Nat} {W : Int32} {f00 : hm} {V : Nat → Nat} {sg : Nat → Int32} {a b : Nat} {u l ou ol : Int64} {g o x k : Nat} {f f' : hm}
theorem cA_F (h : cF R k) : cA R (4 + k) := Or.inr (Or.inl ⟨by omega, by rw [Nat.add_sub_cancel_left]; exact h⟩)
theorem cA_n (h : cK R k) : cA R (14 + 2 * k) := Or.inr (Or.inr ⟨by omega, by rw [show (14 + 2 * k - 14) / 2 = k by omega]; exact h⟩)
theorem cA_m (h : cK R k) : cA R (15 + 2 * k) := Or.inr (Or.inr ⟨by omega, by rw [show (15 + 2 * k - 14) / 2 = k by omega]; exact h⟩)
theorem cA_s (h : k < 4) : cA R k := Or.inl h
theorem cF_lt (hR : R ≤ 8) (h : cF R k) : k < 10 := by unfold cF at h; omega
theorem cF_8 : cF R 8 := Or.inr (Or.inl rfl)
theorem cF_9 : cF R 9 := Or.inr (Or.inr rfl)
theorem cK_F (h : cF R k) : cK R (2 * k) ∧ cK R (2 * k + 1) := ⟨Or.inl (by rw [show 2 * k / 2 = k by omega]; exact h), Or.inl (by rw [show (2 * k + 1) / 2 = k by omega]; exact h)⟩
theorem cK_w (h : 16 ≤ k) (h2 : k < 38) : cK R k := by unfold cK cF; omega
theorem cN.poke {c : Nat} {e : va_E} (H : cN E ad R f00 V f) (hc : cA R c) (hlt : c < 14) : cN E ad R f00 V (hp f (ad c) e) := by
  obtain ⟨h1, h2, h3, h4⟩ := H
  refine ⟨h1, h2, ⟨h3.1, fun k hk => ?_, fun _ _ => rfl⟩, fun q hq => ?_⟩
  · refine (h3.2.1 k hk).kept (hp_ne _ _ ?_) (hp_ne _ _ ?_)
    · intro w; have := h2 _ _ (cA_n hk) hc w; omega
    · intro w; have := h2 _ _ (cA_m hk) hc w; omega
  · rw [hp_ne _ _ (hq c hc), h4 q hq]
theorem cN.ne {c d : Nat} (H : cN E ad R f00 V f) (hc : cA R c) (hd : cA R d) (h : c ≠ d) : ad c ≠ ad d := fun w => h (H.2.1 c d hc hd w)
/-- the Naturals have changed -/
theorem cN.op {V' : Nat → Nat} (H : cN E ad R f00 V f) (h : nS E (cn ad) (cm ad) (cK R) f V' f') : cN E ad R f00 V' f' := by
  refine ⟨H.1, H.2.1, ⟨h.1, h.2.1, fun _ _ => rfl⟩, fun q hq => ?_⟩
  rw [h.2.2 q (fun k hk => ⟨hq _ (cA_n hk), hq _ (cA_m hk)⟩), H.2.2.2 q hq]
theorem cN.same {V' : Nat → Nat} {c : Nat} (H : cN E ad R f00 V f) (h : nS E (cn ad) (cm ad) (cK R) f V' f') (hc : cA R c) (hlt : c < 14) : f' (ad c) = f (ad c) :=
  h.2.2 _ (fun k hk => ⟨H.ne hc (cA_n hk) (by omega), H.ne hc (cA_m hk) (by omega)⟩)
theorem cS.ns (H : cS E ad R W f00 V sg a b u l ou ol g o x f) : nS E (cn ad) (cm ad) (cK R) f V f := H.1.2.2.1
theorem cS.R8 (H : cS E ad R W f00 V sg a b u l ou ol g o x f) : R ≤ 8 := H.1.1
theorem cS.op {V' : Nat → Nat} (H : cS E ad R W f00 V sg a b u l ou ol g o x f) (h : nS E (cn ad) (cm ad) (cK R) f V' f') : cS E ad R W f00 V' sg a b u l ou ol g o x f' := by
  obtain ⟨h0, h1, ⟨gr, h2, h2'⟩, h3, h4, h5⟩ := H
  refine ⟨h0.op h, ?_, ⟨gr, ?_, h2'⟩, fun k hk => ?_, ?_, ?_⟩
  · rw [h0.same (c := 0) h (cA_s (by decide)) (by decide), h1]
  · rw [h0.same (c := 1) h (cA_s (by decide)) (by decide), h2]
  · rw [h0.same h (cA_F hk) (by have := cF_lt h0.1 hk; omega), h3 k hk]
  · rw [h0.same (c := 2) h (cA_s (by decide)) (by decide), h4]
  · rw [h0.same (c := 3) h (cA_s (by decide)) (by decide), h5]
theorem cS.wF (H : cS E ad R W f00 V sg a b u l ou ol g o x f) (hk : cF R k) (y : Int32) : ∃ f' : hm, wrV f (ad (4 + k)) 0 0 (.int y) = some f' ∧ cS E ad R W f00 V (va_up sg k y) a b u l ou ol g o x f' := by
  obtain ⟨h0, h1, ⟨gr, h2, h2'⟩, h3, h4, h5⟩ := H
  have hlt : 4 + k < 14 := by have := cF_lt h0.1 hk; omega
  have ne : ∀ c, cA R c → c ≠ 4 + k → ad c ≠ ad (4 + k) := fun c hc h => h0.ne hc (cA_F hk) h
  refine ⟨_, wrV_of (h3 k hk) (by simp), h0.poke (cA_F hk) hlt, ?_, ⟨gr, ?_, h2'⟩, fun j hj => ?_, ?_, ?_⟩
  · rw [hp_ne _ _ (ne 0 (cA_s (by decide)) (by omega)), h1]
  · rw [hp_ne _ _ (ne 1 (cA_s (by decide)) (by omega)), h2]
  · by_cases hjk : j = k
    · subst hjk; rw [hp_self, va_up_self]; rfl
    · rw [hp_ne _ _ (ne _ (cA_F hj) (by omega)), va_up_ne _ _ hjk, h3 j hj]
  · rw [hp_ne _ _ (ne 2 (cA_s (by decide)) (by omega)), h4]
  · rw [hp_ne _ _ (ne 3 (cA_s (by decide)) (by omega)), h5]
theorem cS.p2 (H : cS E ad R W f00 V sg a b u l ou ol g o x f) {a' b' : Nat} : cS E ad R W f00 V sg a' b' u l ou ol g o x (hp f (ad 2) (.inr (3, cR ad a' b'))) := by
  obtain ⟨h0, h1, ⟨gr, h2, h2'⟩, h3, h4, h5⟩ := H
  have ne : ∀ c, cA R c → c ≠ 2 → ad c ≠ ad 2 := fun c hc h => h0.ne hc (cA_s (by decide)) h
  refine ⟨h0.poke (cA_s (by decide)) (by decide), ?_, ⟨gr, ?_, h2'⟩, fun j hj => ?_, hp_self _ _ _, ?_⟩
  · rw [hp_ne _ _ (ne 0 (cA_s (by decide)) (by omega)), h1]
  · rw [hp_ne _ _ (ne 1 (cA_s (by decide)) (by omega)), h2]
  · rw [hp_ne _ _ (ne _ (cA_F hj) (by omega)), h3 j hj]
  · rw [hp_ne _ _ (ne 3 (cA_s (by decide)) (by omega)), h5]
theorem cS.p3 (H : cS E ad R W f00 V sg a b u l ou ol g o x f) {u' l' ou' ol' : Int64} {g' o' x' : Nat} : cS E ad R W f00 V sg a b u' l' ou' ol' g' o' x' (hp f (ad 3) (.inr (2, cB ad u' l' ou' ol' g' o' x'))) := by
  obtain ⟨h0, h1, ⟨gr, h2, h2'⟩, h3, h4, h5⟩ := H
  have ne : ∀ c, cA R c → c ≠ 3 → ad c ≠ ad 3 := fun c hc h => h0.ne hc (cA_s (by decide)) h
  refine ⟨h0.poke (cA_s (by decide)) (by decide), ?_, ⟨gr, ?_, h2'⟩, fun j hj => ?_, ?_, hp_self _ _ _⟩
  · rw [hp_ne _ _ (ne 0 (cA_s (by decide)) (by omega)), h1]
  · rw [hp_ne _ _ (ne 1 (cA_s (by decide)) (by omega)), h2]
  · rw [hp_ne _ _ (ne _ (cA_F hj) (by omega)), h3 j hj]
  · rw [hp_ne _ _ (ne 2 (cA_s (by decide)) (by omega)), h4]
theorem cS.wd0 (H : cS E ad R W f00 V sg a b u l ou ol g o x f) (y : Nat) : ∃ f' : hm, wrV f (ad 2) 3 0 (.ref (cn ad y)) = some f' ∧ cS E ad R W f00 V sg y b u l ou ol g o x f' := ⟨_, wrV_of H.2.2.2.2.1 (by simp [cR]), H.p2⟩
theorem cS.wd1 (H : cS E ad R W f00 V sg a b u l ou ol g o x f) (y : Nat) : ∃ f' : hm, wrV f (ad 2) 3 1 (.ref (cn ad y)) = some f' ∧ cS E ad R W f00 V sg a y u l ou ol g o x f' := ⟨_, wrV_of H.2.2.2.2.1 (by simp [cR]), H.p2⟩
theorem cS.wn0 (H : cS E ad R W f00 V sg a b u l ou ol g o x f) (y : Int64) : ∃ f' : hm, wrV f (ad 3) 2 0 (.long y) = some f' ∧ cS E ad R W f00 V sg a b y l ou ol g o x f' := ⟨_, wrV_of H.2.2.2.2.2 (by simp [cB]), H.p3⟩
theorem cS.wn1 (H : cS E ad R W f00 V sg a b u l ou ol g o x f) (y : Int64) : ∃ f' : hm, wrV f (ad 3) 2 1 (.long y) = some f' ∧ cS E ad R W f00 V sg a b u y ou ol g o x f' := ⟨_, wrV_of H.2.2.2.2.2 (by simp [cB]), H.p3⟩
theorem cS.wn2 (H : cS E ad R W f00 V sg a b u l ou ol g o x f) (y : Int64) : ∃ f' : hm, wrV f (ad 3) 2 2 (.long y) = some f' ∧ cS E ad R W f00 V sg a b u l y ol g o x f' := ⟨_, wrV_of H.2.2.2.2.2 (by simp [cB]), H.p3⟩
theorem cS.wn3 (H : cS E ad R W f00 V sg a b u l ou ol g o x f) (y : Int64) : ∃ f' : hm, wrV f (ad 3) 2 3 (.long y) = some f' ∧ cS E ad R W f00 V sg a b u l ou y g o x f' := ⟨_, wrV_of H.2.2.2.2.2 (by simp [cB]), H.p3⟩
theorem cS.wn4 (H : cS E ad R W f00 V sg a b u l ou ol g o x f) (y : Nat) : ∃ f' : hm, wrV f (ad 3) 2 4 (.ref (cn ad y)) = some f' ∧ cS E ad R W f00 V sg a b u l ou ol y o x f' := ⟨_, wrV_of H.2.2.2.2.2 (by simp [cB]), H.p3⟩
theorem cS.wn5 (H : cS E ad R W f00 V sg a b u l ou ol g o x f) (y : Nat) : ∃ f' : hm, wrV f (ad 3) 2 5 (.ref (cn ad y)) = some f' ∧ cS E ad R W f00 V sg a b u l ou ol g y x f' := ⟨_, wrV_of H.2.2.2.2.2 (by simp [cB]), H.p3⟩
theorem cS.wn6 (H : cS E ad R W f00 V sg a b u l ou ol g o x f) (y : Nat) : ∃ f' : hm, wrV f (ad 3) 2 6 (.ref (cn ad y)) = some f' ∧ cS E ad R W f00 V sg a b u l ou ol g o y f' := ⟨_, wrV_of H.2.2.2.2.2 (by simp [cB]), H.p3⟩
theorem cS.o0 (H : cS E ad R W f00 V sg a b u l ou ol g o x f) : isO f (ad 0) 4 := ⟨_, H.2.1⟩
theorem cS.o2 (H : cS E ad R W f00 V sg a b u l ou ol g o x f) : isO f (ad 2) 3 := ⟨_, H.2.2.2.2.1⟩
theorem cS.o3 (H : cS E ad R W f00 V sg a b u l ou ol g o x f) : isO f (ad 3) 2 := ⟨_, H.2.2.2.2.2⟩
theorem cS.oF (H : cS E ad R W f00 V sg a b u l ou ol g o x f) (hk : cF R k) : isO f (ad (4 + k)) 0 := ⟨_, H.2.2.2.1 k hk⟩
theorem cS.len (H : cS E ad R W f00 V sg a b u l ou ol g o x f) : rdN (eF E) f (ad 1) = some R := by
  obtain ⟨gr, h, -⟩ := H.2.2.1
  exact rdN_of h
theorem cS.reg {j : Nat} (H : cS E ad R W f00 V sg a b u l ou ol g o x f) (hj : j < R) : rdQ (eF E) f (ad 1) (nI j) = some (some (ad (4 + j))) := by
  obtain ⟨gr, h, h'⟩ := H.2.2.1
  have := H.R8
  rw [rdQ_of h hj (by omega), h' j hj]
theorem cS.q0 (H : cS E ad R W f00 V sg a b u l ou ol g o x f) (hk : cF R k) : rdV f (ad (4 + k)) 0 0 = some (.int (sg k)) := by rw [rdV_of (H.2.2.2.1 k hk)]; rfl
theorem cS.q1 (H : cS E ad R W f00 V sg a b u l ou ol g o x f) (hk : cF R k) : rdV f (ad (4 + k)) 0 1 = some (.ref (cn ad (2 * k))) := by rw [rdV_of (H.2.2.2.1 k hk)]; rfl
theorem cS.q2 (H : cS E ad R W f00 V sg a b u l ou ol g o x f) (hk : cF R k) : rdV f (ad (4 + k)) 0 2 = some (.ref (cn ad (2 * k + 1))) := by rw [rdV_of (H.2.2.2.1 k hk)]; rfl
theorem cS.f0 (H : cS E ad R W f00 V sg a b u l ou ol g o x f) : rdV f (ad 0) 4 0 = some (.int W) := by rw [rdV_of H.2.1]; rfl
theorem cS.f1 (H : cS E ad R W f00 V sg a b u l ou ol g o x f) : rdV f (ad 0) 4 1 = some (.ref (ad 1)) := by rw [rdV_of H.2.1]; rfl
theorem cS.f2 (H : cS E ad R W f00 V sg a b u l ou ol g o x f) : rdV f (ad 0) 4 2 = some (.ref (ad (4 + 8))) := by rw [rdV_of H.2.1]; rfl
theorem cS.f3 (H : cS E ad R W f00 V sg a b u l ou ol g o x f) : rdV f (ad 0) 4 3 = some (.ref (ad (4 + 9))) := by rw [rdV_of H.2.1]; rfl
theorem cS.f4 (H : cS E ad R W f00 V sg a b u l ou ol g o x f) : rdV f (ad 0) 4 4 = some (.ref (ad 2)) := by rw [rdV_of H.2.1]; rfl
theorem cS.f5 (H : cS E ad R W f00 V sg a b u l ou ol g o x f) : rdV f (ad 0) 4 5 = some (.ref (ad 3)) := by rw [rdV_of H.2.1]; rfl
theorem cS.f6 (H : cS E ad R W f00 V sg a b u l ou ol g o x f) : rdV f (ad 0) 4 6 = some (.ref (cn ad 30)) := by rw [rdV_of H.2.1]; rfl
theorem cS.f7 (H : cS E ad R W f00 V sg a b u l ou ol g o x f) : rdV f (ad 0) 4 7 = some (.ref (cn ad 31)) := by rw [rdV_of H.2.1]; rfl
theorem cS.f8 (H : cS E ad R W f00 V sg a b u l ou ol g o x f) : rdV f (ad 0) 4 8 = some (.ref (cn ad 32)) := by rw [rdV_of H.2.1]; rfl
theorem cS.f9 (H : cS E ad R W f00 V sg a b u l ou ol g o x f) : rdV f (ad 0) 4 9 = some (.ref (cn ad 33)) := by rw [rdV_of H.2.1]; rfl
theorem cS.f10 (H : cS E ad R W f00 V sg a b u l ou ol g o x f) : rdV f (ad 0) 4 10 = some (.ref (cn ad 34)) := by rw [rdV_of H.2.1]; rfl
theorem cS.f11 (H : cS E ad R W f00 V sg a b u l ou ol g o x f) : rdV f (ad 0) 4 11 = some (.ref (cn ad 35)) := by rw [rdV_of H.2.1]; rfl
theorem cS.f12 (H : cS E ad R W f00 V sg a b u l ou ol g o x f) : rdV f (ad 0) 4 12 = some (.ref (cn ad 36)) := by rw [rdV_of H.2.1]; rfl
theorem cS.f13 (H : cS E ad R W f00 V sg a b u l ou ol g o x f) : rdV f (ad 0) 4 13 = some (.ref (cn ad 37)) := by rw [rdV_of H.2.1]; rfl
theorem cS.d0 (H : cS E ad R W f00 V sg a b u l ou ol g o x f) : rdV f (ad 2) 3 0 = some (.ref (cn ad a)) := by rw [rdV_of H.2.2.2.2.1]; rfl
theorem cS.d1 (H : cS E ad R W f00 V sg a b u l ou ol g o x f) : rdV f (ad 2) 3 1 = some (.ref (cn ad b)) := by rw [rdV_of H.2.2.2.2.1]; rfl
theorem cS.d2 (H : cS E ad R W f00 V sg a b u l ou ol g o x f) : rdV f (ad 2) 3 2 = some (.ref (cn ad 22)) := by rw [rdV_of H.2.2.2.2.1]; rfl
theorem cS.n0 (H : cS E ad R W f00 V sg a b u l ou ol g o x f) : rdV f (ad 3) 2 0 = some (.long u) := by rw [rdV_of H.2.2.2.2.2]; rfl
theorem cS.n1 (H : cS E ad R W f00 V sg a b u l ou ol g o x f) : rdV f (ad 3) 2 1 = some (.long l) := by rw [rdV_of H.2.2.2.2.2]; rfl
theorem cS.n2 (H : cS E ad R W f00 V sg a b u l ou ol g o x f) : rdV f (ad 3) 2 2 = some (.long ou) := by rw [rdV_of H.2.2.2.2.2]; rfl
theorem cS.n3 (H : cS E ad R W f00 V sg a b u l ou ol g o x f) : rdV f (ad 3) 2 3 = some (.long ol) := by rw [rdV_of H.2.2.2.2.2]; rfl
theorem cS.n4 (H : cS E ad R W f00 V sg a b u l ou ol g o x f) : rdV f (ad 3) 2 4 = some (.ref (cn ad g)) := by rw [rdV_of H.2.2.2.2.2]; rfl
theorem cS.n5 (H : cS E ad R W f00 V sg a b u l ou ol g o x f) : rdV f (ad 3) 2 5 = some (.ref (cn ad o)) := by rw [rdV_of H.2.2.2.2.2]; rfl
theorem cS.n6 (H : cS E ad R W f00 V sg a b u l ou ol g o x f) : rdV f (ad 3) 2 6 = some (.ref (cn ad x)) := by rw [rdV_of H.2.2.2.2.2]; rfl
theorem cS.n7 (H : cS E ad R W f00 V sg a b u l ou ol g o x f) : rdV f (ad 3) 2 7 = some (.ref (cn ad 26)) := by rw [rdV_of H.2.2.2.2.2]; rfl
theorem cS.n8 (H : cS E ad R W f00 V sg a b u l ou ol g o x f) : rdV f (ad 3) 2 8 = some (.ref (cn ad 27)) := by rw [rdV_of H.2.2.2.2.2]; rfl
theorem cS.n9 (H : cS E ad R W f00 V sg a b u l ou ol g o x f) : rdV f (ad 3) 2 9 = some (.ref (cn ad 28)) := by rw [rdV_of H.2.2.2.2.2]; rfl
theorem cS.n10 (H : cS E ad R W f00 V sg a b u l ou ol g o x f) : rdV f (ad 3) 2 10 = some (.ref (cn ad 29)) := by rw [rdV_of H.2.2.2.2.2]; rfl
end CS
