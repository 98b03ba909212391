/-! The class's Naturals: multiples added and taken away, products. -/
theorem top19 {p len : Nat} (h : p + len ≤ 19) : (if (19 : Int32) < nI p + nI len then (19 : Int32) else nI p + nI len) = nI (p + len) := by
  rw [nI_add, if_neg]
  exact nI_nlt h (by decide)
section NAT3
variable {E : cx} {no na : Nat → Nat} {K : Nat → Prop} {f0 : hm} {V : Nat → Nat} {i j k : Nat} {l : Int32} {g : Nat → Int32} {f : hm} {n m v : Nat}
theorem C1_addMul {S p fac len : Nat} (H : nL E no na K f0 V i l g f) (hg : dgs g S) (hk : K k) (hki : k ≠ i) (hl : lenIs 4294967296 (V k) len) (hp : p + len ≤ 19) (hf : fac < 4294967296) :
    S_X1_addMultipleAt E (no i) (nI p) (no k) (lN fac) f (fun f' => ∃ g' : Nat → Int32, nL E no na K f0 V i l g' f' ∧ ∀ s, s < 20 → g' s = nI (if p ≤ s ∧ s < p + (len + 1) then dg 4294967296 (S / 4294967296 ^ p + fac * V k) (s - p) else dg 4294967296 S s)) := by
  refine T_X1_addMultipleAt (fun t a x1 b x3 x5 x7 x8 f' => ∃ (u : Nat) (g' : Nat → Int32), u ≤ len + 1 ∧ t = 30 - u ∧ a = no i ∧ x1 = nI p ∧ b = no k ∧ x3 = lN fac ∧ x5 = lN (mc 4294967296 (S / 4294967296 ^ p) (V k) fac u) ∧ x7 = nI (p + len) ∧ x8 = nI (p + u) ∧ nL E no na K f0 V i l g' f' ∧ ∀ s, s < 20 → g' s = nI (if p ≤ s ∧ s < p + u then dg 4294967296 (S / 4294967296 ^ p + fac * V k) (s - p) else dg 4294967296 S s)) ?_ ?_
  · unfold X_X1_addMultipleAt_0
    obtain ⟨lk, gk, s1, s2, s3, s4⟩ := H.rawOf hk hki
    obtain rfl := lenIs_uni (by decide) s2 hl
    refine ⟨_, s1.r1, ?_⟩
    rintro x rfl
    exact ⟨_, 0, g, by omega, rfl, rfl, rfl, rfl, rfl, by rw [mc_0]; rfl, top19 hp, rfl, H, fun s hs => by rw [if_neg (by omega)]; exact hg s hs⟩
  · rintro t a x1 b x3 x5 x7 x8 f' ⟨u, g', hu, rfl, rfl, rfl, rfl, rfl, rfl, rfl, rfl, H', hg'⟩
    unfold X_X1_addMultipleAt_19
    refine ⟨fun q => ?_, fun q => ?_⟩
    · rw [nI_ltI (by omega) (by omega)] at q
      have : u = len + 1 := by omega
      subst this
      exact ⟨g', H', hg'⟩
    · rw [nI_ltI (by omega) (by omega)] at q
      obtain ⟨lk, gk, s1, s2, s3, s4⟩ := H'.rawOf hk hki
      rw [pk_sub (by omega), Nat.add_sub_cancel_left]
      refine U1_limb s1 (U1_limb H'.rawI ?_)
      have d1 := dg_lt (B := 4294967296) (by decide) (V k) u
      have d2 := dg_lt (B := 4294967296) (by decide) S (p + u)
      have d3 := dg_lt (B := 4294967296) (by decide) (S / 4294967296 ^ p + fac * V k) u
      have m1 := mc_le (B := 4294967296) (by decide) (S / 4294967296 ^ p) (V k) fac u
      have st := mc_step (B := 4294967296) (by decide) (S / 4294967296 ^ p) (V k) fac u
      rw [dg_shift] at st
      have bd : fac * dg 4294967296 (V k) u ≤ 4294967295 * 4294967295 := Nat.mul_le_mul (by omega) (by omega)
      have eg : g' (p + u) = nI (dg 4294967296 S (p + u)) := by rw [hg' _ (by omega), if_neg (by omega)]
      rw [limbV_d s4 (by omega), limbV_at (by omega) d2 eg, lN_mul, lN_add, lN_add]
      rintro x rfl
      rw [lN_i, lush32 (by omega), st, nI_md, show (dg 4294967296 (S / 4294967296 ^ p + fac * V k) u + 4294967296 * mc 4294967296 (S / 4294967296 ^ p) (V k) fac (u + 1)) / 4294967296 = mc 4294967296 (S / 4294967296 ^ p) (V k) fac (u + 1) by omega]
      obtain ⟨f2, hw, H2⟩ := H'.wr (t := p + u) (by omega) (nI (dg 4294967296 (S / 4294967296 ^ p + fac * V k) u))
      refine ⟨_, H'.rawI.r0, f2, hw, ?_⟩
      rintro x rfl y rfl
      refine ⟨30 - (u + 1), by omega, u + 1, _, by omega, rfl, rfl, rfl, rfl, rfl, rfl, rfl, nI_1 _, H2, fun s hs => ?_⟩
      by_cases hsu : s = p + u
      · subst hsu
        rw [pk_us, if_pos (by omega), Nat.add_sub_cancel_left]
      · rw [pk_un hsu, hg' s hs]
        by_cases w : p ≤ s ∧ s < p + u
        · rw [if_pos w, if_pos (by omega)]
        · rw [if_neg w, if_neg (by omega)]
theorem C1_takeAt {S p fac len : Nat} (H : nL E no na K f0 V i l g f) (hg : dgs g S) (hk : K k) (hki : k ≠ i) (hl : lenIs 4294967296 (V k) len) (hp : p + len ≤ 19) (hf : fac < 4294967296) {T R : Nat} (hT : S / 4294967296 ^ p % 4294967296 ^ (len + 1) = T) (hR : R = T + (if T < fac * V k then 4294967296 ^ (len + 1) else 0) - fac * V k) :
    S_X1_takeAwayAt E (no i) (nI p) (no k) (lN fac) f (fun r f' => r = (if T < fac * V k then 1 else 0) ∧ ∃ g' : Nat → Int32, nL E no na K f0 V i l g' f' ∧ ∀ s, s < 20 → g' s = nI (if p ≤ s ∧ s < p + (len + 1) then dg 4294967296 R (s - p) else dg 4294967296 S s)) := by
  have hw0 : 0 < 4294967296 ^ (len + 1) := Nat.pow_pos (by decide)
  have hP : fac * V k < 4294967296 ^ (len + 1) := by
    have h1 := hl.1
    have : fac * V k ≤ 4294967295 * V k := Nat.mul_le_mul_right _ (by omega)
    rw [Nat.pow_succ]
    omega
  have hTlt : T < 4294967296 ^ (len + 1) := by rw [← hT]; exact Nat.mod_lt _ hw0
  have hRlt : R < 4294967296 ^ (len + 1) := by
    rw [hR]; split <;> omega
  have hsum : fac * V k + R = T + 4294967296 ^ (len + 1) * (if T < fac * V k then 1 else 0) := by
    rw [hR]; split <;> omega
  refine T_X1_takeAwayAt (fun t a x1 b x3 x5 x7 x9 x10 f' => ∃ (u : Nat) (g' : Nat → Int32), u ≤ len + 1 ∧ t = 30 - u ∧ a = no i ∧ x1 = nI p ∧ b = no k ∧ x3 = lN fac ∧ x5 = lN (mc 4294967296 0 (V k) fac u) ∧ x7 = lN (mc 4294967296 (fac * V k) R 1 u) ∧ x9 = nI (p + len) ∧ x10 = nI (p + u) ∧ nL E no na K f0 V i l g' f' ∧ ∀ s, s < 20 → g' s = nI (if p ≤ s ∧ s < p + u then dg 4294967296 R (s - p) else dg 4294967296 S s)) ?_ ?_
  · unfold X_X1_takeAwayAt_0
    obtain ⟨lk, gk, s1, s2, s3, s4⟩ := H.rawOf hk hki
    obtain rfl := lenIs_uni (by decide) s2 hl
    refine ⟨_, s1.r1, ?_⟩
    rintro x rfl
    exact ⟨_, 0, g, by omega, rfl, rfl, rfl, rfl, rfl, by rw [mc_0]; rfl, by rw [mc_0]; rfl, top19 hp, rfl, H, fun s hs => by rw [if_neg (by omega)]; exact hg s hs⟩
  · rintro t a x1 b x3 x5 x7 x9 x10 f' ⟨u, g', hu, rfl, rfl, rfl, rfl, rfl, rfl, rfl, rfl, rfl, H', hg'⟩
    unfold X_X1_takeAwayAt_22
    refine ⟨fun q => ?_, fun q => ?_⟩
    · rw [nI_ltI (by omega) (by omega)] at q
      have : u = len + 1 := by omega
      subst this
      have e1 : mc 4294967296 (fac * V k) R 1 (len + 1) = if T < fac * V k then 1 else 0 := by
        rw [mc_end hP hRlt, Nat.one_mul, hsum, Nat.add_mul_div_left _ _ hw0, Nat.div_eq_of_lt hTlt, Nat.zero_add]
      rw [e1]
      by_cases hc : T < fac * V k
      · rw [if_pos hc]
        refine ⟨fun z => absurd z (by decide), fun _ => ⟨nb1, ?_, g', H', hg'⟩⟩
        rw [if_pos hc]
      · rw [if_neg hc]
        refine ⟨fun _ => ⟨nb0, ?_, g', H', hg'⟩, fun z => absurd (by decide) z⟩
        rw [if_neg hc]
    · rw [nI_ltI (by omega) (by omega)] at q
      obtain ⟨lk, gk, s1, s2, s3, s4⟩ := H'.rawOf hk hki
      rw [pk_sub (by omega), Nat.add_sub_cancel_left]
      refine U1_limb s1 ?_
      have d1 := dg_lt (B := 4294967296) (by decide) (V k) u
      have d2 := dg_lt (B := 4294967296) (by decide) S (p + u)
      have d3 := dg_lt (B := 4294967296) (by decide) (fac * V k) u
      have d4 := dg_lt (B := 4294967296) (by decide) R u
      have m1 := mc_le (B := 4294967296) (by decide) 0 (V k) fac u
      have st := mc_step (B := 4294967296) (by decide) 0 (V k) fac u
      rw [dg_zero, Nat.zero_add, Nat.add_zero] at st
      have n1 := mc1_le (B := 4294967296) (by decide) (fac * V k) R u
      have n2 := mc1_le (B := 4294967296) (by decide) (fac * V k) R (u + 1)
      have sb := sub_step (B := 4294967296) (by decide) hsum (show u < len + 1 by omega)
      rw [← hT, dg_mod (show u < len + 1 by omega), dg_shift] at sb
      have bd : fac * dg 4294967296 (V k) u ≤ 4294967295 * 4294967295 := Nat.mul_le_mul (by omega) (by omega)
      have eg : g' (p + u) = nI (dg 4294967296 S (p + u)) := by rw [hg' _ (by omega), if_neg (by omega)]
      rw [limbV_d s4 (by omega), lN_mul, lN_add]
      rintro x rfl
      refine U1_limb H'.rawI ?_
      rw [limbV_at (by omega) d2 eg, show (4294967295 : Int64) = lN (2 ^ 32 - 1) from rfl, wb_mask (by omega) (by decide), lush32 (by omega), show (2 : Nat) ^ 32 = 4294967296 from rfl, st, show (dg 4294967296 (fac * V k) u + 4294967296 * mc 4294967296 0 (V k) fac (u + 1)) % 4294967296 = dg 4294967296 (fac * V k) u by omega, show (dg 4294967296 (fac * V k) u + 4294967296 * mc 4294967296 0 (V k) fac (u + 1)) / 4294967296 = mc 4294967296 0 (V k) fac (u + 1) by omega]
      rintro x rfl
      obtain ⟨w1, w2⟩ := sub64 d2 d3 n1 d4 n2 sb
      rw [w1, w2]
      obtain ⟨f2, hw, H2⟩ := H'.wr (t := p + u) (by omega) (nI (dg 4294967296 R u))
      refine ⟨_, H'.rawI.r0, f2, hw, ?_⟩
      rintro x rfl
      have fin : ∀ s, s < 20 → upd g' (p + u) (nI (dg 4294967296 R u)) s = nI (if p ≤ s ∧ s < p + (u + 1) then dg 4294967296 R (s - p) else dg 4294967296 S s) := by
        intro s hs
        by_cases hsu : s = p + u
        · subst hsu
          rw [pk_us, if_pos (by omega), Nat.add_sub_cancel_left]
        · rw [pk_un hsu, hg' s hs]
          by_cases w : p ≤ s ∧ s < p + u
          · rw [if_pos w, if_pos (by omega)]
          · rw [if_neg w, if_neg (by omega)]
      refine ⟨fun z => ?_, fun z => ?_⟩
      · rintro x rfl
        exact ⟨30 - (u + 1), by omega, u + 1, _, by omega, rfl, rfl, rfl, rfl, rfl, rfl, by rw [z]; rfl, rfl, nI_1 _, H2, fin⟩
      · rintro x rfl
        exact ⟨30 - (u + 1), by omega, u + 1, _, by omega, rfl, rfl, rfl, rfl, rfl, rfl, by rw [show mc 4294967296 (fac * V k) R 1 (u + 1) = 1 by omega]; rfl, rfl, nI_1 _, H2, fin⟩
theorem lens_le {x y a b c : Nat} (hx : lenIs 4294967296 x a) (hy : lenIs 4294967296 y b) (ha : 0 < a) (hb : 0 < b) (h : x * y < 4294967296 ^ c) : a + b ≤ c + 1 := by
  have h1 : 4294967296 ^ (a - 1) ≤ x := by rcases hx.2 with q | q <;> omega
  have h2 : 4294967296 ^ (b - 1) ≤ y := by rcases hy.2 with q | q <;> omega
  have h3 : 4294967296 ^ (a - 1) * 4294967296 ^ (b - 1) ≤ x * y := Nat.mul_le_mul h1 h2
  rw [← Nat.pow_add] at h3
  have h4 : 4294967296 ^ (a - 1 + (b - 1)) < 4294967296 ^ c := Nat.lt_of_le_of_lt h3 h
  have := (Nat.pow_lt_pow_iff_right (show 1 < 4294967296 by decide)).mp h4
  omega
theorem U1_becomeProduct {C : hm → Prop} (H : nS E no na K f0 V f) (hi : K i) (hj : K j) (hk : K k) (hij : i ≠ j) (hik : i ≠ k) (hlt : V j * V k < 4294967296 ^ 18) (c : ∀ f', nS E no na K f0 (va_up V i (V j * V k)) f' → C f') : isO f (no i) 1 ∧ S_X1_becomeProduct E (no i) (no j) (no k) f C := by
  obtain ⟨li0, gi0, hh, -⟩ := H.opn hi
  refine ⟨hh.rawI.o, MV.mono (K := fun f' => nS E no na K f0 (va_up V i (V j * V k)) f') ?_ c⟩
  obtain ⟨lj, gj, j1, j2, j3, j4⟩ := H.rawOf hj
  obtain ⟨lk, gk, k1, k2, k3, k4⟩ := H.rawOf hk
  have hw : ∀ t, t < lj → t + lk ≤ 19 := by
    intro t ht
    rcases Nat.eq_zero_or_pos lk with q | q
    · omega
    · have := lens_le j2 k2 (by omega) q hlt
      omega
  have h18 : (4294967296 : Nat) ^ 18 ≤ 4294967296 ^ 20 := Nat.pow_le_pow_right (by decide) (by decide)
  have hnext : ∀ t, V j % 4294967296 ^ (t + 1) * V k = V j % 4294967296 ^ t * V k + 4294967296 ^ t * (dg 4294967296 (V j) t * V k) := by
    intro t
    rw [dg_split, Nat.add_mul, Nat.mul_assoc]
  have hVj : nS E no na K f0 V f := H
  refine T_X1_becomeProduct (fun t a b d x3 f' => ∃ (u : Nat) (g' : Nat → Int32) (li : Nat), u ≤ lj ∧ t = 30 - u ∧ a = no i ∧ b = no j ∧ d = no k ∧ x3 = nI u ∧ nL E no na K f0 V i (nI li) g' f' ∧ dgs g' (V j % 4294967296 ^ u * V k)) ?_ ?_
  · unfold X_X1_becomeProduct_0
    refine U1_clear H hi (fun f' H => ?_)
    obtain ⟨li, gi, h1, h2, h3, h4⟩ := H.opn hi
    rw [va_up_self] at h4
    refine ⟨_, 0, gi, li, by omega, rfl, rfl, rfl, rfl, rfl, ⟨h1.1, h1.2.1, fun m hm hmi => ?_, h1.2.2.2⟩, by simpa [Nat.mod_one] using h4⟩
    have := h1.2.2.1 m hm hmi
    rwa [va_up_ne _ _ hmi] at this
  · rintro t a b d x3 f' ⟨u, g', li, hu, rfl, rfl, rfl, rfl, rfl, H', hg'⟩
    unfold X_X1_becomeProduct_6
    obtain ⟨lj', gj', r1, r2, r3, r4⟩ := H'.rawOf hj (Ne.symm hij)
    obtain rfl := lenIs_uni (by decide) r2 j2
    refine ⟨_, r1.r1, fun q => ?_, fun q => ?_⟩
    · rw [nI_leI (by omega) (by omega)] at q
      have : u = lj' := by omega
      subst this
      rw [Nat.mod_eq_of_lt r2.1] at hg'
      exact U1_trimFrom (t := 20) rfl H' (by omega) hg' (by omega) (fun f' H => H)
    · rw [nI_leI (by omega) (by omega)] at q
      refine U1_limb r1 ?_
      rw [limbV_d r4 (by omega)]
      have hwu := hw u (by omega)
      refine ⟨H'.rawI.o, MV.mono (C1_addMul H' hg' hk (Ne.symm hik) k2 hwu (dg_lt (by decide) _ _)) (fun f2 ⟨g2, H2, hg2⟩ => ?_)⟩
      rintro x rfl
      refine ⟨30 - (u + 1), by omega, u + 1, g2, li, by omega, rfl, rfl, rfl, rfl, nI_1 u, H2, fun s hs => ?_⟩
      rw [hg2 s hs]
      congr 1
      have hlt1 : V j % 4294967296 ^ (u + 1) * V k < 4294967296 ^ (u + 1 + lk) := by
        rw [Nat.pow_add 4294967296 (u + 1) lk]
        exact Nat.mul_lt_mul'' (Nat.mod_lt (V j) (Nat.pow_pos (show 0 < 4294967296 by decide))) k2.1
      have hlt0 : V j % 4294967296 ^ u * V k ≤ V j % 4294967296 ^ (u + 1) * V k := by rw [hnext]; exact Nat.le_add_right _ _
      by_cases w : u ≤ s ∧ s < u + (lk + 1)
      · rw [if_pos w]
        obtain ⟨r, rfl⟩ : ∃ r, s = u + r := ⟨s - u, by omega⟩
        rw [Nat.add_sub_cancel_left, ← dg_shift, hnext, Nat.add_mul_div_left _ _ (Nat.pow_pos (by decide))]
      · rw [if_neg w]
        rcases Nat.lt_or_ge s u with z | z
        · rw [hnext, dg_joinlo z]
        · have hp : 4294967296 ^ (u + 1 + lk) ≤ 4294967296 ^ s := Nat.pow_le_pow_right (by decide) (by omega)
          rw [dg_big (by omega), dg_big (by omega)]
/-- number times a factor is taken away; where a borrow passes beyond the limbs that are looked at, it is lost -/
theorem U1_takeAway {C : hm → Prop} {fac len : Nat} (H : nS E no na K f0 V f) (hi : K i) (hk : K k) (hki : k ≠ i) (hl : lenIs 4294967296 (V k) len) (hl19 : len ≤ 19) (hf : fac < 4294967296) (hle : fac * V k ≤ V i) (c : ∀ f', nS E no na K f0 (va_up V i (V i - fac * V k + (if V i % 4294967296 ^ (len + 1) < fac * V k then 4294967296 ^ (len + 1) else 0))) f' → C f') : isO f (no i) 1 ∧ S_X1_takeAway E (no i) (no k) (lN fac) f C := by
  obtain ⟨li, gi, h1, h2, h3, h4⟩ := H.opn hi
  refine ⟨h1.rawI.o, T_X1_takeAway ?_⟩
  unfold X_X1_takeAway_0
  obtain ⟨T, hT⟩ : ∃ T, V i / 4294967296 ^ 0 % 4294967296 ^ (len + 1) = T := ⟨_, rfl⟩
  obtain ⟨R, hR⟩ : ∃ R, R = T + (if T < fac * V k then 4294967296 ^ (len + 1) else 0) - fac * V k := ⟨_, rfl⟩
  have hT' : V i % 4294967296 ^ (len + 1) = T := by rw [← hT]; simp
  have hdm := Nat.div_add_mod (V i) (4294967296 ^ (len + 1))
  have hw0 : 0 < 4294967296 ^ (len + 1) := Nat.pow_pos (by decide)
  have hTlt : T < 4294967296 ^ (len + 1) := by rw [← hT']; exact Nat.mod_lt _ hw0
  have hP : fac * V k < 4294967296 ^ (len + 1) := by
    have h1 := hl.1
    have : fac * V k ≤ 4294967295 * V k := Nat.mul_le_mul_right _ (by omega)
    rw [Nat.pow_succ]
    omega
  refine ⟨h1.rawI.o, MI.mono (C1_takeAt (p := 0) h1 h4 hk hki hl (by omega) hf hT hR) (fun r f2 ⟨_, g2, H2, hg2⟩ => ⟨_, H2.rawI.r1, ?_⟩)⟩
  rw [hT'] at hdm c
  have eS : V i - fac * V k + (if T < fac * V k then 4294967296 ^ (len + 1) else 0) = R + 4294967296 ^ (len + 1) * (V i / 4294967296 ^ (len + 1)) := by
    rw [hR]
    by_cases w : T < fac * V k
    · rw [if_pos w]; omega
    · rw [if_neg w]; omega
  have hRlt : R < 4294967296 ^ (len + 1) := by
    rw [hR]; split <;> omega
  rw [eS] at c
  refine U1_trimFrom (t := li) rfl H2 h3 (v := R + 4294967296 ^ (len + 1) * (V i / 4294967296 ^ (len + 1))) (fun s hs => ?_) ?_ c
  · rw [hg2 s hs]
    congr 1
    by_cases w : 0 ≤ s ∧ s < 0 + (len + 1)
    · rw [if_pos w, dg_joinlo (by omega), Nat.sub_zero]
    · rw [if_neg w]
      obtain ⟨r, rfl⟩ : ∃ r, s = len + 1 + r := ⟨s - (len + 1), by omega⟩
      rw [dg_joinhi (by decide) hRlt, dg_shift]
  · by_cases w : T < fac * V k
    · have hge : 4294967296 ^ (len + 1) ≤ V i := by
        rcases Nat.lt_or_ge (V i) (4294967296 ^ (len + 1)) with z | z
        · rw [Nat.mod_eq_of_lt z] at hT'; omega
        · exact z
      have hli : len + 1 ≤ li := by
        rcases Nat.lt_or_ge li (len + 1) with z | z
        · have := Nat.pow_le_pow_right (n := 4294967296) (by decide) (Nat.le_of_lt z)
          have := h2.1
          omega
        · exact z
      have e : 4294967296 ^ li = 4294967296 ^ (len + 1) * 4294967296 ^ (li - (len + 1)) := by rw [← Nat.pow_add]; congr 1; omega
      have hq : V i / 4294967296 ^ (len + 1) + 1 ≤ 4294967296 ^ (li - (len + 1)) := by
        rw [Nat.add_one_le_iff, Nat.div_lt_iff_lt_mul hw0, Nat.mul_comm, ← e]
        exact h2.1
      have := Nat.mul_le_mul_left (4294967296 ^ (len + 1)) hq
      rw [← e, Nat.mul_add, Nat.mul_one] at this
      omega
    · have := h2.1
      rw [hR, if_neg w]
      omega
end NAT3
