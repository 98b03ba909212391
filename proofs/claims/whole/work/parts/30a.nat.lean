/-! The class's Naturals: what their cells hold. -/
theorem lim_and (x : Int32) : x.toInt64 &&& (4294967295 : Int64) = lN x.toBitVec.toNat := by
  apply Int64.toBitVec_inj.mp
  rw [Int64.toBitVec_and, Int32.toBitVec_toInt64]
  apply BitVec.eq_of_toNat_eq
  rw [wb_tn (Nat.lt_trans x.toBitVec.isLt (by decide)), BitVec.toNat_and, BitVec.toNat_signExtend]
  have e : (4294967295 : Int64).toBitVec.toNat = 2 ^ 32 - 1 := by decide
  rw [e, Nat.and_two_pow_sub_one_eq_mod]
  have h := x.toBitVec.isLt
  have e2 : (x.toBitVec.setWidth 64).toNat = x.toBitVec.toNat := by
    rw [BitVec.toNat_setWidth, Nat.mod_eq_of_lt]
    omega
  rw [e2]
  split <;> omega
theorem lim_nI {d : Nat} (h : d < 4294967296) : (nI d).toInt64 &&& (4294967295 : Int64) = lN d := by
  rw [lim_and, pk_tn h]
def raw (E : cx) (f : hm) (n m : Nat) (l : Int32) (g : Nat → Int32) : Prop := f n = some (.inr (1, [.ref m, .int l])) ∧ f m = some (.inl (eI E, 20, .inl g))
def dgs (g : Nat → Int32) (v : Nat) : Prop := ∀ i, i < 20 → g i = nI (dg 4294967296 v i)
def nat1 (E : cx) (f : hm) (n m v : Nat) : Prop := ∃ (len : Nat) (g : Nat → Int32), raw E f n m (nI len) g ∧ lenIs 4294967296 v len ∧ len ≤ 20 ∧ dgs g v
/-- the Naturals lie apart: number k at no k, its limbs at na k -/
def aD (no na : Nat → Nat) (K : Nat → Prop) : Prop := (∀ i j, K i → K j → no i ≠ na j) ∧ (∀ i j, K i → K j → no i = no j → i = j) ∧ (∀ i j, K i → K j → na i = na j → i = j)
/-- K Naturals with the values V; all else as in f0 -/
def nS (E : cx) (no na : Nat → Nat) (K : Nat → Prop) (f0 : hm) (V : Nat → Nat) (f : hm) : Prop := aD no na K ∧ (∀ k, K k → nat1 E f (no k) (na k) (V k)) ∧ ∀ q : Nat, (∀ k, K k → q ≠ no k ∧ q ≠ na k) → f q = f0 q
/-- the same, but Natural i is being written -/
def nL (E : cx) (no na : Nat → Nat) (K : Nat → Prop) (f0 : hm) (V : Nat → Nat) (i : Nat) (l : Int32) (g : Nat → Int32) (f : hm) : Prop := aD no na K ∧ K i ∧ (∀ k, K k → k ≠ i → nat1 E f (no k) (na k) (V k)) ∧ raw E f (no i) (na i) l g ∧ ∀ q : Nat, (∀ k, K k → q ≠ no k ∧ q ≠ na k) → f q = f0 q
section NAT
variable {E : cx} {no na : Nat → Nat} {K : Nat → Prop} {f0 : hm} {V : Nat → Nat} {i j k : Nat} {l : Int32} {g : Nat → Int32} {f : hm} {n m v : Nat}
theorem raw.o (H : raw E f n m l g) : isO f n 1 := ⟨_, H.1⟩
theorem raw.r0 (H : raw E f n m l g) : rdV f n 1 0 = some (.ref m) := by rw [rdV_of H.1]; rfl
theorem raw.r1 (H : raw E f n m l g) : rdV f n 1 1 = some (.int l) := by rw [rdV_of H.1]; rfl
theorem raw.rd (H : raw E f n m l g) {t : Nat} (ht : t < 20) : rdA (eI E) f m (nI t) = some (g t) := rdA_of H.2 ht (by decide)
theorem nat1.lt (H : nat1 E f n m v) : v < 4294967296 ^ 20 := by
  obtain ⟨len, g, h1, h2, h3, h4⟩ := H
  exact Nat.lt_of_lt_of_le h2.1 (Nat.pow_le_pow_right (by decide) h3)
theorem nat1.kept {f' : hm} (H : nat1 E f n m v) (h1 : f' n = f n) (h2 : f' m = f m) : nat1 E f' n m v := by
  obtain ⟨len, g, k1, k2⟩ := H
  exact ⟨len, g, ⟨by rw [h1]; exact k1.1, by rw [h2]; exact k1.2⟩, k2⟩
theorem nS.lt (H : nS E no na K f0 V f) (hk : K k) : V k < 4294967296 ^ 20 := (H.2.1 k hk).lt
theorem nS.rawOf (H : nS E no na K f0 V f) (hk : K k) : ∃ (len : Nat) (g : Nat → Int32), raw E f (no k) (na k) (nI len) g ∧ lenIs 4294967296 (V k) len ∧ len ≤ 20 ∧ dgs g (V k) := H.2.1 k hk
theorem nS.opn (H : nS E no na K f0 V f) (hi : K i) : ∃ (len : Nat) (g : Nat → Int32), nL E no na K f0 V i (nI len) g f ∧ lenIs 4294967296 (V i) len ∧ len ≤ 20 ∧ dgs g (V i) := by
  obtain ⟨len, g, h1, h2⟩ := H.2.1 i hi
  exact ⟨len, g, ⟨H.1, hi, fun k hk _ => H.2.1 k hk, h1, H.2.2⟩, h2⟩
theorem nL.close {len : Nat} (H : nL E no na K f0 V i (nI len) g f) (h1 : lenIs 4294967296 v len) (h2 : len ≤ 20) (h3 : dgs g v) : nS E no na K f0 (va_up V i v) f := by
  refine ⟨H.1, fun k hk => ?_, H.2.2.2.2⟩
  by_cases hki : k = i
  · subst hki
    rw [va_up_self]
    exact ⟨len, g, H.2.2.2.1, h1, h2, h3⟩
  · rw [va_up_ne _ _ hki]
    exact H.2.2.1 k hk hki
theorem nL.wr (H : nL E no na K f0 V i l g f) {t : Nat} (ht : t < 20) (x : Int32) : ∃ f' : hm, wrA (eI E) f (na i) (nI t) x = some f' ∧ nL E no na K f0 V i l (upd g t x) f' := by
  obtain ⟨hA, hi, h1, h2, h3⟩ := H
  refine ⟨_, wrA_of h2.2 ht (by decide), hA, hi, fun k hk hki => ?_, ⟨?_, hp_self _ _ _⟩, fun q hq => ?_⟩
  · exact (h1 k hk hki).kept (hp_ne _ _ (hA.1 k i hk hi)) (hp_ne _ _ (fun z => hki (hA.2.2 k i hk hi z)))
  · rw [hp_ne _ _ (hA.1 i i hi hi)]; exact h2.1
  · rw [hp_ne _ _ (hq i hi).2]; exact h3 q hq
theorem nL.wl (H : nL E no na K f0 V i l g f) (l' : Int32) : ∃ f' : hm, wrV f (no i) 1 1 (.int l') = some f' ∧ nL E no na K f0 V i l' g f' := by
  obtain ⟨hA, hi, h1, h2, h3⟩ := H
  refine ⟨_, wrV_of h2.1 (by simp), hA, hi, fun k hk hki => ?_, ⟨?_, ?_⟩, fun q hq => ?_⟩
  · exact (h1 k hk hki).kept (hp_ne _ _ (fun z => hki (hA.2.1 k i hk hi z))) (hp_ne _ _ (Ne.symm (hA.1 i k hi hk)))
  · rw [hp_self]; rfl
  · rw [hp_ne _ _ (Ne.symm (hA.1 i i hi hi))]; exact h2.2
  · rw [hp_ne _ _ (hq i hi).1]; exact h3 q hq
theorem nL.rawI (H : nL E no na K f0 V i l g f) : raw E f (no i) (na i) l g := H.2.2.2.1
theorem nL.rawOf (H : nL E no na K f0 V i l g f) (hk : K k) (hki : k ≠ i) : ∃ (len : Nat) (g : Nat → Int32), raw E f (no k) (na k) (nI len) g ∧ lenIs 4294967296 (V k) len ∧ len ≤ 20 ∧ dgs g (V k) := H.2.2.1 k hk hki
/-- a limb, as it is read -/
def limbV (g : Nat → Int32) (x : Int32) : Int64 := if x < 0 then 0 else if (20 : Int32) ≤ x then 0 else (g (ix x)).toInt64 &&& 4294967295
theorem limbV_at {t d : Nat} (ht : t < 20) (hd : d < 4294967296) (hg : g t = nI d) : limbV g (nI t) = lN d := by
  rw [limbV, if_neg (nI_pos (by omega)), if_neg (show ¬ (20 : Int32) ≤ nI t from nI_ge ht (by decide)), ix_nI (by omega), hg, lim_nI hd]
theorem limbV_d {t : Nat} (hg : dgs g v) (ht : t < 20) : limbV g (nI t) = lN (dg 4294967296 v t) := limbV_at ht (dg_lt (by decide) _ _) (hg t ht)
theorem U1_limb {C : Int64 → hm → Prop} {x : Int32} (H : raw E f n m l g) (k : C (limbV g x) f) : isO f n 1 ∧ S_X1_limb E n x f C := by
  refine ⟨H.o, T_X1_limb ?_⟩
  unfold X_X1_limb_0
  rw [limbV] at k
  refine ⟨fun c => by rw [if_pos c] at k; exact k, fun c => ⟨fun c2 => by rw [if_neg c, if_pos c2] at k; exact k, fun c2 => ?_⟩⟩
  rw [if_neg c, if_neg c2] at k
  obtain ⟨j, hj, rfl⟩ := nI_of c
  have hj' : j < 20 := by
    rcases Nat.lt_or_ge j 20 with q | q
    · exact q
    · exact absurd (nI_le (a := 20) q hj) c2
  rw [ix_nI hj] at k
  exact ⟨m, H.r0, _, H.rd hj', k⟩
theorem U1_isZero {C : Int32 → hm → Prop} (H : nS E no na K f0 V f) (hk : K k) (c : C (if V k = 0 then 1 else 0) f) : isO f (no k) 1 ∧ S_X1_isZero E (no k) f C := by
  obtain ⟨len, g, h1, h2, h3, h4⟩ := H.rawOf hk
  refine ⟨h1.o, T_X1_isZero ?_⟩
  unfold X_X1_isZero_0
  have e : nI len = 0 ↔ V k = 0 := by
    rw [← nI_0, nI_eq (by omega) (by decide)]
    constructor
    · intro q; rw [q] at h2; exact lenIs_0 h2
    · intro q; rw [q] at h2; exact lenIs_zero (by decide) h2
  refine ⟨_, h1.r1, fun q => ⟨nb0, ?_⟩, fun q => ⟨nb1, ?_⟩⟩
  · rw [if_neg (fun z => q (e.mpr z))] at c; exact c
  · rw [if_pos (e.mp q)] at c; exact c
theorem len_one {len : Nat} (h : lenIs 4294967296 v len) (hl : len ≤ 1) : v < 4294967296 := Nat.lt_of_lt_of_le h.1 (Nat.le_trans (Nat.pow_le_pow_right (by decide) hl) (by decide))
theorem U1_isOne {C : Int32 → hm → Prop} (H : nS E no na K f0 V f) (hk : K k) (c : C (if V k = 1 then 1 else 0) f) : isO f (no k) 1 ∧ S_X1_isOne E (no k) f C := by
  obtain ⟨len, g, h1, h2, h3, h4⟩ := H.rawOf hk
  refine ⟨h1.o, T_X1_isOne ?_⟩
  unfold X_X1_isOne_0
  have e1 : V k = 1 → len = 1 := fun q => lenIs_uni (by decide) h2 (by rw [q]; exact ⟨by decide, Or.inr (by decide)⟩)
  refine ⟨_, h1.r1, fun q => ⟨nb0, ?_⟩, fun q => ⟨_, h1.r0, _, h1.rd (t := 0) (by decide), ?_⟩⟩
  · rw [if_neg (fun z => q (by rw [e1 z]; rfl))] at c; exact c
  · have q : len = 1 := by
      rw [show (1 : Int32) = nI 1 from rfl, nI_eq (by omega) (by decide)] at q
      exact q
    have hlt := len_one h2 (by omega)
    have e0 : g 0 = nI (V k) := by rw [h4 0 (by decide), dg_at0, Nat.mod_eq_of_lt hlt]
    have e2 : g 0 = 1 ↔ V k = 1 := by
      rw [e0]
      constructor
      · intro z
        have := congrArg (fun x : Int32 => x.toBitVec.toNat) z
        rw [pk_tn hlt] at this
        exact this
      · intro z; rw [z]; rfl
    refine ⟨fun z => ⟨nb0, ?_⟩, fun z => ⟨nb1, ?_⟩⟩
    · rw [if_neg (fun w => z (e2.mpr w))] at c; exact c
    · rw [if_pos (e2.mp z)] at c; exact c
theorem U1_capped {C : Int64 → hm → Prop} (H : nS E no na K f0 V f) (hk : K k) (c : C (lN (if V k < 4294967296 then V k else 4294967296)) f) : isO f (no k) 1 ∧ S_X1_capped E (no k) f C := by
  obtain ⟨len, g, h1, h2, h3, h4⟩ := H.rawOf hk
  refine ⟨h1.o, T_X1_capped ?_⟩
  unfold X_X1_capped_0
  refine ⟨_, h1.r1, fun q => ?_, fun q => ?_⟩
  · rw [show (1 : Int32) = nI 1 from rfl, nI_leI (by omega) (by decide)] at q
    have hlt := len_one h2 q
    rw [if_pos hlt] at c
    refine U1_limb h1 ?_
    rw [show (0 : Int32) = nI 0 from rfl, limbV_d h4 (by decide), dg_at0, Nat.mod_eq_of_lt hlt]
    exact c
  · rw [show (1 : Int32) = nI 1 from rfl, nI_leI (by omega) (by decide)] at q
    have : 4294967296 ≤ V k := by
      rcases h2.2 with w | w
      · omega
      · exact Nat.le_trans (Nat.le_trans (by decide) (Nat.pow_le_pow_right (n := 4294967296) (i := 1) (by decide) (show 1 ≤ len - 1 by omega))) w
    rw [if_neg (by omega)] at c
    exact c
theorem C1_trimFrom {t : Nat} (H : nL E no na K f0 V i l g f) (ht : t ≤ 20) (hg : dgs g v) (hv : v < 4294967296 ^ t) : S_X1_trimFrom E (no i) (nI t) f (fun f' => nS E no na K f0 (va_up V i v) f') := by
  refine T_X1_trimFrom (fun c a x1 x2 f' => c ≤ 20 ∧ a = no i ∧ x2 = nI c ∧ f' = f ∧ v < 4294967296 ^ c) ?_ ?_
  · exact ⟨t, ht, rfl, rfl, rfl, hv⟩
  · rintro c a x1 x2 f' ⟨hc, rfl, rfl, rfl, hv⟩
    unfold X_X1_trimFrom_2
    refine ⟨fun q => ?_, fun q => ?_⟩
    · have c0 : c = 0 := by
        rcases Nat.eq_zero_or_pos c with w | w
        · exact w
        · exact absurd q (nI_nle w (by omega))
      subst c0
      obtain ⟨f2, hw, H2⟩ := H.wl (nI 0)
      exact ⟨f2, hw, H2.close ⟨hv, Or.inl rfl⟩ (by omega) hg⟩
    · obtain ⟨c, rfl⟩ : ∃ c', c = c' + 1 := ⟨c - 1, by
        rcases Nat.eq_zero_or_pos c with w | w
        · subst w; exact absurd (by decide) q
        · omega⟩
      rw [nI_pred]
      have dl := dg_lt (B := 4294967296) (by decide) v c
      have e0 : g c = 0 ↔ dg 4294967296 v c = 0 := by
        rw [hg c (by omega)]
        constructor
        · intro z
          have := congrArg (fun x : Int32 => x.toBitVec.toNat) z
          rw [pk_tn dl] at this
          exact this
        · intro z; rw [z]; rfl
      refine ⟨_, H.rawI.r0, _, H.rawI.rd (by omega), fun z => ?_, fun z => ?_⟩
      · obtain ⟨f2, hw, H2⟩ := H.wl (nI (c + 1))
        exact ⟨f2, hw, H2.close (trim_end hv (fun w => z (e0.mpr w))) hc hg⟩
      · rintro x rfl
        exact ⟨c, by omega, by omega, rfl, nI_m1 c, rfl, trim_go hv (e0.mp z)⟩
theorem U1_trimFrom {C : hm → Prop} {x : Int32} {t : Nat} (hx : x = nI t) (H : nL E no na K f0 V i l g f) (ht : t ≤ 20) (hg : dgs g v) (hv : v < 4294967296 ^ t) (c : ∀ f', nS E no na K f0 (va_up V i v) f' → C f') : isO f (no i) 1 ∧ S_X1_trimFrom E (no i) x f C := by
  subst hx
  exact ⟨H.rawI.o, MV.mono (C1_trimFrom H ht hg hv) c⟩
theorem U1_clear {C : hm → Prop} (H : nS E no na K f0 V f) (hi : K i) (c : ∀ f', nS E no na K f0 (va_up V i 0) f' → C f') : isO f (no i) 1 ∧ S_X1_clear E (no i) f C := by
  obtain ⟨len, g, h1, h2, h3, h4⟩ := H.opn hi
  refine ⟨h1.rawI.o, MV.mono (K := fun f' => nS E no na K f0 (va_up V i 0) f') ?_ c⟩
  refine T_X1_clear (fun t a x1 f' => ∃ (u : Nat) (g' : Nat → Int32), u ≤ len ∧ t = len - u ∧ a = no i ∧ x1 = nI u ∧ nL E no na K f0 V i (nI len) g' f' ∧ ∀ s, s < 20 → g' s = if s < u then 0 else g s) ?_ ?_
  · exact ⟨_, 0, g, by omega, rfl, rfl, rfl, h1, fun s _ => by simp⟩
  · rintro t a x1 f' ⟨u, g', hu, rfl, rfl, rfl, H', hg⟩
    unfold X_X1_clear_2
    refine ⟨_, H'.rawI.r1, fun q => ?_, fun q => ?_⟩
    · rw [nI_leI (by omega) (by omega)] at q
      have : u = len := by omega
      subst this
      obtain ⟨f2, hw, H2⟩ := H'.wl (nI 0)
      refine ⟨f2, hw, H2.close ⟨by decide, Or.inl rfl⟩ (by omega) (fun s hs => ?_)⟩
      rw [hg s hs, dg_zero]
      split
      · rfl
      · rename_i w
        rw [h4 s hs, dg_big]
        exact Nat.lt_of_lt_of_le h2.1 (Nat.pow_le_pow_right (by decide) (by omega))
    · rw [nI_leI (by omega) (by omega)] at q
      obtain ⟨f2, hw, H2⟩ := H'.wr (t := u) (by omega) 0
      refine ⟨_, H'.rawI.r0, f2, hw, ?_⟩
      rintro x rfl
      refine ⟨len - (u + 1), by omega, u + 1, _, by omega, rfl, rfl, nI_1 u, H2, fun s hs => ?_⟩
      by_cases hsu : s = u
      · subst hsu; rw [pk_us, if_pos (by omega)]
      · rw [pk_un hsu, hg s hs]
        by_cases w : s < u
        · rw [if_pos w, if_pos (by omega)]
        · rw [if_neg w, if_neg (by omega)]
theorem U1_becomeL {C : hm → Prop} (H : nS E no na K f0 V f) (hi : K i) (hv : v < 4294967296) (c : ∀ f', nS E no na K f0 (va_up V i v) f' → C f') : isO f (no i) 1 ∧ S_X1_become E (no i) (lN v) f C := by
  obtain ⟨len, g, h1, -⟩ := H.opn hi
  refine ⟨h1.rawI.o, MV.mono (K := fun f' => nS E no na K f0 (va_up V i v) f') ?_ c⟩
  refine T_X1_become ?_
  unfold X_X1_become_0
  refine U1_clear H hi (fun f' H => ?_)
  obtain ⟨len, g, h1, h2, h3, h4⟩ := H.opn hi
  rw [va_up_self] at h2 h4
  obtain ⟨f2, hw, H2⟩ := h1.wr (t := 0) (by decide) (nI v)
  refine ⟨_, h1.rawI.r0, f2, by rw [lN_i]; exact hw, ?_⟩
  refine U1_trimFrom (t := 1) rfl H2 (by decide) (v := v) (fun s hs => ?_) (by simpa using hv) (fun f' H => ?_)
  · by_cases hs0 : s = 0
    · subst hs0; rw [pk_us, dg_at0, Nat.mod_eq_of_lt hv]
    · rw [pk_un hs0, h4 s hs, dg_zero, dg_big]
      exact Nat.lt_of_lt_of_le hv (Nat.pow_le_pow_right (n := 4294967296) (i := 1) (by decide) (by omega))
  · refine ⟨H.1, fun k hk => ?_, H.2.2⟩
    have := H.2.1 k hk
    by_cases hki : k = i
    · subst hki; rw [va_up_self] at this ⊢; exact this
    · rw [va_up_ne _ _ hki, va_up_ne _ _ hki] at this; rw [va_up_ne _ _ hki]; exact this
end NAT
