/-! Both constructors: class and reference stand at the same start. -/
section BI
variable {E : cx} {f : hm} {h : Nat} {p1 p2 : Int32}
theorem D4_init (hf : f h = some (.inr (4, [.int 0, .null, .null, .null, .null, .null, .null, .null, .null, .null, .null, .null, .null, .null]))) : S_X4_init E h p1 p2 f (fun g => ∃ ad : Nat → Nat, ad 0 = h ∧ cQ E ad (szN p1) (szN p2) f A0 (0, 0) g) := by
  have hN := szN_ok p1
  have H0 : mS E h f 0 f := by
    refine ⟨fun _ => h, rfl, ?_, hf, fun z => by omega, fun z => by omega, fun z => by omega, fun z => by omega⟩
    have := bs.one (E := E) (f := f) (V := Z0) (q := h) (c0 := 0) (e := .inr (4, [.int 0, .null, .null, .null, .null, .null, .null, .null, .null, .null, .null, .null, .null, .null])) (by omega)
    rw [hp_id hf] at this
    exact this.iff (fun c => by unfold mC; omega)
  refine T_X4_init (fun n a0 x1 x2 x3 f' => ∃ r, r ≤ szN p1 ∧ n = szN p1 - r ∧ a0 = h ∧ x3 = nI r ∧ mI E h f (szN p1) (nI (szN p2)) r f') ?_ ?_
  · unfold X_X4_init_0
    refine mS.f8 H0 (fun f1 H1 => mS.f9 H1 (fun f2 H2 => mS.rd H2 (fun f3 H3 => mS.br H3 (fun f4 H4 => ?_))))
    refine mS.nat 4 H4 (by omega) (by omega) (fun f5 H5 => mS.nat 5 H5 (by omega) (by omega) (fun f6 H6 => mS.nat 6 H6 (by omega) (by omega) (fun f7 H7 => mS.nat 7 H7 (by omega) (by omega) (fun f8 H8 => ?_))))
    refine mS.nat 8 H8 (by omega) (by omega) (fun f9 H9 => mS.nat 9 H9 (by omega) (by omega) (fun f10 H10 => mS.nat 10 H10 (by omega) (by omega) (fun f11 H11 => mS.nat 11 H11 (by omega) (by omega) (fun f12 H12 => ?_))))
    refine U4_size ?_
    obtain ⟨g1, w1, k1⟩ := H12.rows (N := szN p1) (w := nI (szN p2))
    refine ⟨g1, w1, U4_size ⟨szN p1, ⟨nI_pos (by omega), nI_clamp (by omega), hN.2⟩, fun q hq => ?_⟩⟩
    obtain ⟨g2, w2, H2⟩ := k1 q hq
    exact ⟨g2, w2, _, by omega, 0, by omega, rfl, rfl, rfl, H2⟩
  · rintro n a0 x1 x2 x3 f' ⟨r, hr, rfl, rfl, rfl, H⟩
    unfold X_X4_init_161
    have H' := H
    obtain ⟨ad, h0, B, hM, ⟨ga, hA, hg⟩, -⟩ := H'
    refine ⟨ad 1, by rw [← h0, rdV_of hM]; rfl, szN p1, rdN_of hA, ?_⟩
    rw [nI_leI (by omega) (by omega)]
    refine ⟨fun w => ?_, fun w => ?_⟩
    · have : r = szN p1 := by omega
      rw [this] at H
      exact H.done hN.2
    · refine H.reg (by omega) hN.2 (fun f2 H2 => ?_)
      rintro y rfl
      exact ⟨szN p1 - (r + 1), by omega, r + 1, by omega, rfl, rfl, nI_1 r, H2⟩
theorem D5_init (hf : f h = some (.inr (5, [.int 0, .int 0, .null, .null, .int 0, .int 0, .int 0]))) : S_X5_init E h p1 p2 f (fun g => ∃ ab as : Nat, f ab = none ∧ f as = none ∧ rQ E h ab as (szN p1) (szN p2) f A0 (0, 0) g) := by
  have hN := szN_ok p1
  refine T_X5_init (fun n a0 x1 x2 x3 f' => ∃ (i ab as : Nat) (N : Nat → Nat), i ≤ 8 ∧ n = 8 - i ∧ a0 = h ∧ x3 = nI i ∧ f ab = none ∧ f as = none ∧ (∀ m, N m = if 8 ≤ m ∧ m < 8 + i then 1 else 0) ∧ rS E h ab as (nI (szN p1)) (nI (szN p2)) f N (fun _ => 0) 0 0 0 f') ?_ ?_
  · unfold X_X5_init_0
    intro q1 hq1
    have n1 : q1 ≠ h := fun w => by rw [w, hf] at hq1; cases hq1
    have e1 : hp f q1 (.inl (eI E, 972, .inl (fun _ => 0))) h = some (.inr (5, [.int 0, .int 0, .null, .null, .int 0, .int 0, .int 0])) := by rw [hp_ne _ _ (Ne.symm n1), hf]
    refine ⟨_, wrV_of e1 (by simp), fun q3 hq3 => ?_⟩
    have n3 : q3 ≠ h := fun w => by rw [w, hp_self] at hq3; cases hq3
    rw [hp_ne _ _ n3] at hq3
    have n31 : q3 ≠ q1 := fun w => by rw [w, hp_self] at hq3; cases hq3
    rw [hp_ne _ _ n31] at hq3
    obtain ⟨g2, hg2⟩ : ∃ g2, hp (hp (hp f q1 (.inl (eI E, 972, .inl (fun _ => 0)))) h (.inr (5, [.int 0, .int 0, .null, .null, .int 0, .int 0, .int 0].set 2 (.ref q1)))) q3 (.inl (eI E, 8, .inl (fun _ => 0))) = g2 := ⟨_, rfl⟩
    rw [hg2]
    have k0 : g2 h = some (.inr (5, [.int 0, .int 0, .ref q1, .null, .int 0, .int 0, .int 0])) := by rw [← hg2, hp_ne _ _ (Ne.symm n3), hp_self]; rfl
    have k1 : g2 q1 = some (.inl (eI E, 972, .inl (fun _ => 0))) := by rw [← hg2, hp_ne _ _ (Ne.symm n31), hp_ne _ _ n1, hp_self]
    have k3 : g2 q3 = some (.inl (eI E, 8, .inl (fun _ => 0))) := by rw [← hg2, hp_self]
    have kq : ∀ q, q ≠ h → q ≠ q1 → q ≠ q3 → g2 q = f q := fun q z1 z2 z3 => by rw [← hg2, hp_ne _ _ z3, hp_ne _ _ z1, hp_ne _ _ z2]
    refine ⟨_, wrV_of k0 (by simp), ?_⟩
    have fin : ∀ x y : Int32, x = nI (szN p1) → y = nI (szN p2) → rS E h q1 q3 (nI (szN p1)) (nI (szN p2)) f (fun _ => 0) (fun _ => 0) 0 0 0 (hp (hp (hp g2 h (.inr (5, [.int 0, .int 0, .ref q1, .ref q3, .int 0, .int 0, .int 0]))) h (.inr (5, [.int x, .int 0, .ref q1, .ref q3, .int 0, .int 0, .int 0]))) h (.inr (5, [.int x, .int y, .ref q1, .ref q3, .int 0, .int 0, .int 0]))) := by
      rintro x y rfl rfl
      rw [hp_hp, hp_hp]
      refine ⟨fun _ => 0, ⟨Ne.symm n1, Ne.symm n3, Ne.symm n31, fun q z1 z2 z3 => ?_, hp_self _ _ _, ?_, ?_⟩, fun m hm j hj => ?_, fun m hm => ?_⟩
      · rw [hp_ne _ _ z1, kq q z1 z2 z3]
      · rw [hp_ne _ _ n1, k1]
      · rw [hp_ne _ _ n3, k3]
      · show (0 : Int32) = nI (dg 65536 0 j)
        rw [dg_zero]; rfl
      · exact Nat.pow_pos (by decide)
    have P : ∀ x : Int32, x = nI (szN p1) → ∃ f6 : hm, wrV (hp g2 h (.inr (5, [.int 0, .int 0, .ref q1, .null, .int 0, .int 0, .int 0].set 3 (.ref q3)))) h 5 0 (.int x) = some f6 ∧ ((p2 < (1 : Int32) → (∃ f8 : hm, wrV f6 h 5 1 (.int (1 : Int32)) = some f8 ∧ ∃ k : Nat, k ≤ 8 ∧ ∃ (i ab as : Nat) (N : Nat → Nat), i ≤ 8 ∧ k = 8 - i ∧ h = h ∧ (0 : Int32) = nI i ∧ f ab = none ∧ f as = none ∧ (∀ m, N m = if 8 ≤ m ∧ m < 8 + i then 1 else 0) ∧ rS E h ab as (nI (szN p1)) (nI (szN p2)) f N (fun _ => 0) 0 0 0 f8)) ∧ (¬ (p2 < (1 : Int32)) → (((8 : Int32) < p2 → (∃ f8 : hm, wrV f6 h 5 1 (.int (1 : Int32)) = some f8 ∧ ∃ k : Nat, k ≤ 8 ∧ ∃ (i ab as : Nat) (N : Nat → Nat), i ≤ 8 ∧ k = 8 - i ∧ h = h ∧ (0 : Int32) = nI i ∧ f ab = none ∧ f as = none ∧ (∀ m, N m = if 8 ≤ m ∧ m < 8 + i then 1 else 0) ∧ rS E h ab as (nI (szN p1)) (nI (szN p2)) f N (fun _ => 0) 0 0 0 f8)) ∧ (¬ ((8 : Int32) < p2) → (∃ f8 : hm, wrV f6 h 5 1 (.int p2) = some f8 ∧ ∃ k : Nat, k ≤ 8 ∧ ∃ (i ab as : Nat) (N : Nat → Nat), i ≤ 8 ∧ k = 8 - i ∧ h = h ∧ (0 : Int32) = nI i ∧ f ab = none ∧ f as = none ∧ (∀ m, N m = if 8 ≤ m ∧ m < 8 + i then 1 else 0) ∧ rS E h ab as (nI (szN p1)) (nI (szN p2)) f N (fun _ => 0) 0 0 0 f8))))) := by
      intro x hx
      have z0 : ∀ m, (fun _ => 0 : Nat → Nat) m = if 8 ≤ m ∧ m < 8 + 0 then 1 else 0 := fun m => by rw [if_neg (by omega)]
      refine ⟨_, wrV_of (hp_self _ _ _) (by simp), fun c1 => ?_, fun c1 => ⟨fun c2 => ?_, fun c2 => ?_⟩⟩
      · exact ⟨_, wrV_of (hp_self _ _ _) (by simp), 8, by omega, 0, q1, q3, fun _ => 0, by omega, rfl, rfl, rfl, hq1, hq3, z0, fin x 1 hx (szN_lo c1).symm⟩
      · exact ⟨_, wrV_of (hp_self _ _ _) (by simp), 8, by omega, 0, q1, q3, fun _ => 0, by omega, rfl, rfl, rfl, hq1, hq3, z0, fin x 1 hx (szN_hi c2).symm⟩
      · exact ⟨_, wrV_of (hp_self _ _ _) (by simp), 8, by omega, 0, q1, q3, fun _ => 0, by omega, rfl, rfl, rfl, hq1, hq3, z0, fin x p2 hx (szN_in c1 c2)⟩
    exact ⟨fun c1 => P 1 (szN_lo c1).symm, fun c1 => ⟨fun c2 => P 1 (szN_hi c2).symm, fun c2 => P p1 (szN_in c1 c2)⟩⟩
  · rintro n a0 x1 x2 x3 f' ⟨i, ab, as, N, hi, rfl, rfl, rfl, hab, has, hNm, H⟩
    unfold X_X5_init_63
    rw [show (8 : Int32) = nI 8 from rfl, nI_leI (by decide) (by omega)]
    refine ⟨fun w => ?_, fun w => ?_⟩
    · have : i = 8 := by omega
      subst this
      refine ⟨ab, as, hab, has, N, fun _ => 0, 0, 0, 0, H, fun r hr => ⟨rfl, ?_, ?_⟩, rfl, fun z => absurd rfl z⟩
      · rw [hNm, if_neg (by omega)]; rfl
      · rw [hNm, if_pos (by omega)]
    · rw [nI_add]
      refine U5_put (8 + i) 1 H (by omega) (by decide) (fun g H2 => ?_)
      rintro y rfl
      refine ⟨8 - (i + 1), by omega, i + 1, ab, as, _, by omega, rfl, rfl, nI_1 i, hab, has, fun m => ?_, H2⟩
      by_cases e : m = 8 + i
      · subst e; rw [va_up_self, if_pos (by omega)]
      · rw [va_up_ne _ _ e, hNm]
        by_cases e2 : 8 ≤ m ∧ m < 8 + i
        · rw [if_pos e2, if_pos (by omega)]
        · rw [if_neg e2, if_neg (by omega)]
end BI
