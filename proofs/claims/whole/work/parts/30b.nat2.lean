/-! The class's Naturals: copying, comparing, sums, differences. -/
theorem nI_md (a b : Nat) : nI (a + 4294967296 * b) = nI a := by
  apply Int32.toBitVec_inj.mp
  show BitVec.ofNat 32 _ = BitVec.ofNat 32 _
  apply BitVec.eq_of_toNat_eq
  rw [BitVec.toNat_ofNat, BitVec.toNat_ofNat, show (2 : Nat) ^ 32 = 4294967296 from rfl, Nat.add_mul_mod_self_left]
theorem nI_inj {a b : Nat} (ha : a < 4294967296) (hb : b < 4294967296) : nI a = nI b ↔ a = b := by
  constructor
  · intro h
    have := congrArg (fun x : Int32 => x.toBitVec.toNat) h
    rwa [pk_tn ha, pk_tn hb] at this
  · intro h; rw [h]
theorem lush {n k : Nat} (hn : n < 2 ^ 64) (hk : k < 64) : j_lushr (lN n) (nI k) = lN (n / 2 ^ k) := wb_shr hn hk
theorem lush32 {n : Nat} (hn : n < 2 ^ 64) : j_lushr (lN n) (32 : Int32) = lN (n / 4294967296) := lush (k := 32) hn (by decide)
/-- a difference's limb, and its borrow -/
theorem sub64 {s d c r c' : Nat} (hs : s < 4294967296) (hd : d < 4294967296) (hc : c ≤ 1) (hr : r < 4294967296) (hc' : c' ≤ 1) (e : d + r + c = s + 4294967296 * c') : (lN s - lN d - lN c).toInt32 = nI r ∧ (0 ≤ lg_cmp (lN s - lN d - lN c) 0 ↔ c' = 0) := by
  have eT : (lN s - lN d - lN c).toInt = (s : Int) - d - c := by
    rw [Int64.toInt_sub, Int64.toInt_sub, pf_lI (by omega), pf_lI (by omega), pf_lI (by omega), Int.bmod_eq_of_le (n := (s : Int) - d) (by omega) (by omega), Int.bmod_eq_of_le (by omega) (by omega)]
  refine ⟨?_, ?_⟩
  · apply Int32.toInt_inj.mp
    rw [Int64.toInt_toInt32, eT]
    have e2 : (nI r).toInt = (r : Int).bmod (2 ^ 32) := Int32.toInt_ofNat'
    rw [e2, show (s : Int) - d - c = (r : Int) + (2 ^ 32 : Nat) * (-(c' : Int)) by omega, Int.add_mul_bmod_self_left]
  · rw [lgc_ge, eT]
    show (0 : Int) ≤ _ ↔ _
    omega
section NAT2
variable {E : cx} {no na : Nat → Nat} {K : Nat → Prop} {f0 : hm} {V : Nat → Nat} {i j k : Nat} {l : Int32} {g : Nat → Int32} {f : hm} {n m v : Nat}
theorem k20 {t : Nat} (ht : t ≤ 20) (c : (20 : Int32) ≤ nI t) : t = 20 := by
  rcases Nat.lt_or_ge t 20 with q | q
  · exact absurd c (nI_ge q (by decide))
  · omega
theorem k20' {t : Nat} (ht : t ≤ 20) (c : ¬ (20 : Int32) ≤ nI t) : t < 20 := by
  rcases Nat.lt_or_ge t 20 with q | q
  · exact q
  · exact absurd (nI_le (a := 20) q (by omega)) c
theorem U1_become {C : hm → Prop} (H : nS E no na K f0 V f) (hi : K i) (hj : K j) (hij : i ≠ j) (c : ∀ f', nS E no na K f0 (va_up V i (V j)) f' → C f') : isO f (no i) 1 ∧ S_X1_become_ E (no i) (no j) f C := by
  obtain ⟨li, gi, h1, h2, h3, h4⟩ := H.opn hi
  obtain ⟨lj, gj, r1, r2, r3, r4⟩ := h1.rawOf hj (Ne.symm hij)
  refine ⟨h1.rawI.o, MV.mono (K := fun f' => nS E no na K f0 (va_up V i (V j)) f') ?_ c⟩
  obtain ⟨M, hM1, hM2, hM3, hM⟩ : ∃ M : Nat, li ≤ M ∧ lj ≤ M ∧ M ≤ 20 ∧ (if nI li < nI lj then nI lj else nI li) = nI M := by
    rcases Nat.lt_or_ge li lj with q | q
    · exact ⟨lj, by omega, by omega, r3, by rw [if_pos (nI_lt q (by omega))]⟩
    · exact ⟨li, by omega, by omega, h3, by rw [if_neg (nI_nlt q (by omega))]⟩
  refine T_X1_become_ (fun t a b x2 f' => ∃ g' : Nat → Int32, t ≤ M ∧ a = no i ∧ b = no j ∧ x2 = nI t + (-1) ∧ nL E no na K f0 V i (nI li) g' f' ∧ ∀ s, s < 20 → t ≤ s → g' s = nI (dg 4294967296 (V j) s)) ?_ ?_
  · unfold X_X1_become__0
    refine ⟨_, h1.rawI.r1, _, r1.r1, ?_⟩
    rintro x rfl
    rw [hM]
    refine ⟨M, gi, by omega, rfl, rfl, by rw [Int32.sub_eq_add_neg], h1, fun s hs hsM => ?_⟩
    rw [h4 s hs, dg_big (Nat.lt_of_lt_of_le h2.1 (Nat.pow_le_pow_right (by decide) (by omega))), dg_big (Nat.lt_of_lt_of_le r2.1 (Nat.pow_le_pow_right (by decide) (by omega)))]
  · rintro t a b x2 f' ⟨g', ht, rfl, rfl, rfl, H', hg⟩
    unfold X_X1_become__14
    obtain ⟨lj', gj', s1, s2, s3, s4⟩ := H'.rawOf hj (Ne.symm hij)
    cases t with
    | zero =>
      refine ⟨fun q => ?_, fun q => absurd (by decide) q⟩
      obtain ⟨f2, hw, H2⟩ := H'.wl (nI lj')
      exact ⟨_, s1.r1, f2, hw, H2.close s2 s3 (fun s hs => hg s hs (by omega))⟩
    | succ t =>
      rw [nI_m1]
      refine ⟨fun q => absurd q (nI_pos (by omega)), fun q => ?_⟩
      obtain ⟨f2, hw, H2⟩ := H'.wr (t := t) (by omega) (gj' t)
      refine ⟨_, H'.rawI.r0, _, s1.r0, _, s1.rd (by omega), f2, hw, ?_⟩
      rintro x rfl
      refine ⟨t, by omega, _, by omega, rfl, rfl, rfl, H2, fun s hs hts => ?_⟩
      by_cases hst : s = t
      · subst hst; rw [pk_us]; exact s4 s hs
      · rw [pk_un hst]; exact hg s hs (by omega)
theorem U1_compareWith {C : Int32 → hm → Prop} (H : nS E no na K f0 V f) (hi : K i) (hj : K j) (c : C (ord3 (V i) (V j)) f) : isO f (no i) 1 ∧ S_X1_compareWith E (no i) (no j) f C := by
  obtain ⟨li, gi, h1, h2, h3, h4⟩ := H.rawOf hi
  obtain ⟨lj, gj, r1, r2, r3, r4⟩ := H.rawOf hj
  refine ⟨h1.o, T_X1_compareWith (fun t a b x2 f' => t ≤ 20 ∧ a = no i ∧ b = no j ∧ x2 = nI t + (-1) ∧ f' = f ∧ V i / 4294967296 ^ t = V j / 4294967296 ^ t) ?_ ?_⟩
  · unfold X_X1_compareWith_0
    refine ⟨_, h1.r1, _, r1.r1, fun q => ⟨_, h1.r1, ?_⟩, fun q => ⟨_, h1.r1, _, r1.r1, fun w => ?_, fun w => ?_⟩⟩
    · rintro x rfl
      rw [nI_eq (by omega) (by omega)] at q
      exact ⟨li, h3, rfl, rfl, by rw [Int32.sub_eq_add_neg], rfl, top_start h2.1 (by rw [q]; exact r2.1)⟩
    · rw [nI_eq (by omega) (by omega)] at q
      rw [nI_leI (by omega) (by omega)] at w
      have := lenIs_lt (by decide) r2 h2 (by omega)
      rw [ord3, if_neg (by omega), if_neg (by omega)] at c
      exact c
    · rw [nI_eq (by omega) (by omega)] at q
      rw [nI_leI (by omega) (by omega)] at w
      have := lenIs_lt (by decide) h2 r2 (by omega)
      rw [ord3, if_pos this] at c
      exact c
  · rintro t a b x2 f' ⟨ht, rfl, rfl, rfl, rfl, he⟩
    unfold X_X1_compareWith_35
    cases t with
    | zero =>
      refine ⟨fun q => ?_, fun q => absurd (by decide) q⟩
      have := top_end he
      rw [ord3, if_neg (by omega), if_pos this] at c
      exact c
    | succ t =>
      rw [nI_m1]
      have d1 := dg_lt (B := 4294967296) (by decide) (V i) t
      have d2 := dg_lt (B := 4294967296) (by decide) (V j) t
      refine ⟨fun q => absurd q (nI_pos (by omega)), fun q => ⟨_, h1.r0, _, h1.rd (by omega), _, r1.r0, _, r1.rd (by omega), ?_⟩⟩
      rw [h4 t (by omega), r4 t (by omega), nI_inj d1 d2]
      refine ⟨fun w => ?_, fun w => ?_⟩
      · rintro x rfl
        exact ⟨t, by omega, by omega, rfl, rfl, rfl, rfl, top_eq he w⟩
      · refine U1_limb h1 (U1_limb r1 ?_)
        rw [limbV_d h4 (by omega), limbV_d r4 (by omega), lgc_ge, pf_lI (by omega), pf_lI (by omega)]
        refine ⟨fun z => ?_, fun z => ?_⟩
        · have := top_lt he.symm (show dg 4294967296 (V j) t < dg 4294967296 (V i) t by omega)
          rw [ord3, if_neg (by omega), if_neg (by omega)] at c
          exact c
        · have := top_lt he (show dg 4294967296 (V i) t < dg 4294967296 (V j) t by omega)
          rw [ord3, if_pos this] at c
          exact c
theorem U1_becomeSum {C : hm → Prop} (H : nS E no na K f0 V f) (hi : K i) (hj : K j) (hk : K k) (hij : i ≠ j) (hik : i ≠ k) (hlt : V j + V k < 4294967296 ^ 20) (c : ∀ f', nS E no na K f0 (va_up V i (V j + V k)) f' → C f') : isO f (no i) 1 ∧ S_X1_becomeSum E (no i) (no j) (no k) f C := by
  obtain ⟨li, gi, h1, h2, h3, h4⟩ := H.opn hi
  refine ⟨h1.rawI.o, MV.mono (K := fun f' => nS E no na K f0 (va_up V i (V j + V k)) f') ?_ c⟩
  refine T_X1_becomeSum (fun t a b d x3 x5 f' => ∃ (u : Nat) (g' : Nat → Int32), u ≤ 20 ∧ t = 20 - u ∧ a = no i ∧ b = no j ∧ d = no k ∧ x3 = lN (mc 4294967296 (V j) (V k) 1 u) ∧ x5 = nI u ∧ nL E no na K f0 V i (nI li) g' f' ∧ ∀ s, s < u → g' s = nI (dg 4294967296 (V j + V k) s)) ?_ ?_
  · exact ⟨20, 0, gi, by omega, rfl, rfl, rfl, rfl, by rw [mc_0]; rfl, rfl, h1, fun s hs => by omega⟩
  · rintro t a b d x3 x5 f' ⟨u, g', hu, rfl, rfl, rfl, rfl, rfl, rfl, H', hg⟩
    unfold X_X1_becomeSum_5
    refine ⟨fun q => ?_, fun q => ?_⟩
    · obtain rfl := k20 hu q
      exact U1_trimFrom (t := 20) rfl H' (by omega) hg hlt (fun f' H => H)
    · have hu' := k20' hu q
      obtain ⟨lj, gj, r1, r2, r3, r4⟩ := H'.rawOf hj (Ne.symm hij)
      obtain ⟨lk, gk, s1, s2, s3, s4⟩ := H'.rawOf hk (Ne.symm hik)
      refine U1_limb r1 (U1_limb s1 ?_)
      rw [limbV_d r4 hu', limbV_d s4 hu', lN_add, lN_add]
      rintro x rfl
      have d1 := dg_lt (B := 4294967296) (by decide) (V j) u
      have d2 := dg_lt (B := 4294967296) (by decide) (V k) u
      have d3 := dg_lt (B := 4294967296) (by decide) (V j + V k) u
      have m1 := mc1_le (B := 4294967296) (by decide) (V j) (V k) u
      have st := add_step (B := 4294967296) (by decide) (V j) (V k) u
      rw [lN_i, lush32 (by omega), st, nI_md, show (dg 4294967296 (V j + V k) u + 4294967296 * mc 4294967296 (V j) (V k) 1 (u + 1)) / 4294967296 = mc 4294967296 (V j) (V k) 1 (u + 1) by omega]
      obtain ⟨f2, hw, H2⟩ := H'.wr (t := u) hu' (nI (dg 4294967296 (V j + V k) u))
      refine ⟨_, H'.rawI.r0, f2, hw, ?_⟩
      rintro x rfl y rfl
      refine ⟨20 - (u + 1), by omega, u + 1, _, by omega, rfl, rfl, rfl, rfl, rfl, nI_1 u, H2, fun s hs => ?_⟩
      by_cases hsu : s = u
      · subst hsu; rw [pk_us]
      · rw [pk_un hsu]; exact hg s (by omega)
/-- a limb that hasn't been written yet, of whichever Natural -/
theorem nL.limbAt {t : Nat} (H : nL E no na K f0 V i l g f) (hg : ∀ s, s < 20 → t ≤ s → g s = nI (dg 4294967296 (V i) s)) (ht : t < 20) (hj : K j) : ∃ (l' : Int32) (g' : Nat → Int32), raw E f (no j) (na j) l' g' ∧ limbV g' (nI t) = lN (dg 4294967296 (V j) t) := by
  by_cases hji : j = i
  · subst hji
    exact ⟨l, g, H.rawI, limbV_at ht (dg_lt (by decide) _ _) (hg t ht (Nat.le_refl t))⟩
  · obtain ⟨lj, gj, r1, r2, r3, r4⟩ := H.rawOf hj hji
    exact ⟨_, gj, r1, limbV_d r4 ht⟩
theorem U1_becomeDifference {C : hm → Prop} (H : nS E no na K f0 V f) (hi : K i) (hj : K j) (hk : K k) (hle : V k ≤ V j) (c : ∀ f', nS E no na K f0 (va_up V i (V j - V k)) f' → C f') : isO f (no i) 1 ∧ S_X1_becomeDifference E (no i) (no j) (no k) f C := by
  obtain ⟨li, gi, h1, h2, h3, h4⟩ := H.opn hi
  have hlt : V j - V k < 4294967296 ^ 20 := Nat.lt_of_le_of_lt (Nat.sub_le _ _) (H.lt hj)
  refine ⟨h1.rawI.o, MV.mono (K := fun f' => nS E no na K f0 (va_up V i (V j - V k)) f') ?_ c⟩
  refine T_X1_becomeDifference (fun t a b d x3 x5 f' => ∃ (u : Nat) (g' : Nat → Int32), u ≤ 20 ∧ t = 20 - u ∧ a = no i ∧ b = no j ∧ d = no k ∧ x3 = lN (mc 4294967296 (V k) (V j - V k) 1 u) ∧ x5 = nI u ∧ nL E no na K f0 V i (nI li) g' f' ∧ (∀ s, s < u → g' s = nI (dg 4294967296 (V j - V k) s)) ∧ ∀ s, s < 20 → u ≤ s → g' s = nI (dg 4294967296 (V i) s)) ?_ ?_
  · exact ⟨20, 0, gi, by omega, rfl, rfl, rfl, rfl, by rw [mc_0]; rfl, rfl, h1, fun s hs => by omega, fun s hs _ => h4 s hs⟩
  · rintro t a b d x3 x5 f' ⟨u, g', hu, rfl, rfl, rfl, rfl, rfl, rfl, H', hg, hg2⟩
    unfold X_X1_becomeDifference_5
    refine ⟨fun q => ?_, fun q => ?_⟩
    · obtain rfl := k20 hu q
      exact U1_trimFrom (t := 20) rfl H' (by omega) hg hlt (fun f' H => H)
    · have hu' := k20' hu q
      obtain ⟨lj, gj, r1, r2⟩ := H'.limbAt hg2 hu' hj
      obtain ⟨lk, gk, s1, s2⟩ := H'.limbAt hg2 hu' hk
      refine U1_limb r1 (U1_limb s1 ?_)
      rw [r2, s2]
      rintro x rfl
      have d1 := dg_lt (B := 4294967296) (by decide) (V j) u
      have d2 := dg_lt (B := 4294967296) (by decide) (V k) u
      have d3 := dg_lt (B := 4294967296) (by decide) (V j - V k) u
      have m1 := mc1_le (B := 4294967296) (by decide) (V k) (V j - V k) u
      have m2 := mc1_le (B := 4294967296) (by decide) (V k) (V j - V k) (u + 1)
      have st := add_step (B := 4294967296) (by decide) (V k) (V j - V k) u
      rw [show V k + (V j - V k) = V j by omega] at st
      obtain ⟨w1, w2⟩ := sub64 d1 d2 m1 d3 m2 st
      rw [w1, w2]
      obtain ⟨f2, hw, H2⟩ := H'.wr (t := u) hu' (nI (dg 4294967296 (V j - V k) u))
      have next : ∀ cv : Int64, cv = lN (mc 4294967296 (V k) (V j - V k) 1 (u + 1)) → ∃ c : Nat, c < 20 - u ∧ ∃ (u' : Nat) (g' : Nat → Int32), u' ≤ 20 ∧ c = 20 - u' ∧ no i = no i ∧ no j = no j ∧ no k = no k ∧ cv = lN (mc 4294967296 (V k) (V j - V k) 1 u') ∧ nI u + 1 = nI u' ∧ nL E no na K f0 V i (nI li) g' f2 ∧ (∀ s, s < u' → g' s = nI (dg 4294967296 (V j - V k) s)) ∧ ∀ s, s < 20 → u' ≤ s → g' s = nI (dg 4294967296 (V i) s) := by
        intro cv hcv
        refine ⟨20 - (u + 1), by omega, u + 1, _, by omega, rfl, rfl, rfl, rfl, hcv, nI_1 u, H2, fun s hs => ?_, fun s hs hus => ?_⟩
        · by_cases hsu : s = u
          · subst hsu; rw [pk_us]
          · rw [pk_un hsu]; exact hg s (by omega)
        · rw [pk_un (by omega)]; exact hg2 s hs (by omega)
      refine ⟨_, H'.rawI.r0, f2, hw, fun z => ?_, fun z => ?_⟩
      · rintro x rfl
        exact next 0 (by rw [z]; rfl)
      · rintro x rfl
        exact next 1 (by rw [show mc 4294967296 (V k) (V j - V k) 1 (u + 1) = 1 by omega]; rfl)
end NAT2
