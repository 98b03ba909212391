/-! The class's constructor. -/
/-- a size from 1 to 8, else 1 -/
def szN (x : Int32) : Nat := if 1 ≤ x ∧ x ≤ 8 then ix x else 1
theorem szN_ok (x : Int32) : 1 ≤ szN x ∧ szN x ≤ 8 := by
  unfold szN
  split
  · rename_i h
    have h0 : ¬ x < 0 := fun z => absurd (Int32.lt_of_lt_of_le z (show (0 : Int32) ≤ 1 by decide)) (Int32.not_lt.mpr h.1)
    obtain ⟨t, ht, rfl⟩ := nI_of h0
    rw [ix_nI ht]
    have h1 := h.1
    have h2 := h.2
    rw [show (1 : Int32) = nI 1 from rfl, nI_leI (by decide) ht] at h1
    rw [show (8 : Int32) = nI 8 from rfl, nI_leI ht (by decide)] at h2
    exact ⟨h1, h2⟩
  · exact ⟨by decide, by decide⟩
theorem szN_in {x : Int32} (h1 : ¬ x < 1) (h2 : ¬ (8 : Int32) < x) : x = nI (szN x) := by
  have h1 := Int32.not_lt.mp h1
  have h2 := Int32.not_lt.mp h2
  unfold szN
  rw [if_pos ⟨h1, h2⟩]
  have h0 : ¬ x < 0 := fun z => absurd (Int32.lt_of_lt_of_le z (show (0 : Int32) ≤ 1 by decide)) (Int32.not_lt.mpr h1)
  obtain ⟨t, ht, rfl⟩ := nI_of h0
  rw [ix_nI ht]
theorem szN_lo {x : Int32} (h1 : x < 1) : nI (szN x) = 1 := by
  unfold szN
  rw [if_neg (fun z => absurd z.1 (Int32.not_le.mpr h1))]
  rfl
theorem szN_hi {x : Int32} (h1 : (8 : Int32) < x) : nI (szN x) = 1 := by
  unfold szN
  rw [if_neg (fun z => absurd z.2 (Int32.not_le.mpr h1))]
  rfl
theorem wrQ_of {cA : ClassId} {f : hm} {a n j v : Nat} {g : Nat → Option Nat} (h : f a = some (.inl (cA, n, .inr (.inr (.inr (.inr g)))))) (hj : j < n) (hn : n < 2 ^ 31) : wrQ cA f a (nI j) v = some (hp f a (.inl (cA, n, .inr (.inr (.inr (.inr (va_up g j (some v)))))))) := by
  have h1 : ¬ nI j < 0 := nI_pos (by omega)
  have h2 : (nI j).toNatClampNeg = j := nI_clamp (by omega)
  simp [wrQ, h, h1, h2, hj]
section BN
variable {E : cx} {f00 f : hm} {h n : Nat}
theorem U4_size {C : Int32 → hm → Prop} {x : Int32} (c : C (nI (szN x)) f) : S_X4_sizeOrOne E x 8 f C := by
  refine T_X4_sizeOrOne ?_
  unfold X_X4_sizeOrOne_0
  refine ⟨fun h1 => ?_, fun h1 => ⟨fun h2 => ?_, fun h2 => ?_⟩⟩
  · rw [szN_lo h1] at c; exact c
  · rw [szN_hi h2] at c; exact c
  · rw [← szN_in h1 h2] at c; exact c
/-- the codes behind r registers -/
def rC (r c : Nat) : Prop := c < 4 ∨ c = 12 ∨ c = 13 ∨ (46 ≤ c ∧ c < 90) ∨ (4 ≤ c ∧ c < 4 + r) ∨ (14 ≤ c ∧ c < 14 + 4 * r)
def vR (r k : Nat) : Nat := if k < 2 * r ∧ k % 2 = 1 then 1 else 0
def mI (E : cx) (h : Nat) (f00 : hm) (N : Nat) (w : Int32) (r : Nat) (f : hm) : Prop := ∃ ad : Nat → Nat, ad 0 = h ∧ bs E ad (rC r) f00 (vR r) f ∧ f (ad 0) = some (.inr (4, cM ad w)) ∧ (∃ gr : Nat → Option Nat, f (ad 1) = some (.inl (eF E, N, .inr (.inr (.inr (.inr gr))))) ∧ ∀ j, j < r → gr j = some (ad (4 + j))) ∧ (∀ k, k < r ∨ k = 8 ∨ k = 9 → gF ad f k) ∧ gR ad f ∧ gB ad f
theorem gF.same {ad : Nat → Nat} {f f' : hm} {k : Nat} (h : gF ad f k) (hf : f' (ad (4 + k)) = f (ad (4 + k))) : gF ad f' k := h.mv rfl rfl rfl hf
theorem gR.same {ad : Nat → Nat} {f f' : hm} (h : gR ad f) (hf : f' (ad 2) = f (ad 2)) : gR ad f' := h.mv (fun _ _ => rfl) hf
theorem gB.same {ad : Nat → Nat} {f f' : hm} (h : gB ad f) (hf : f' (ad 3) = f (ad 3)) : gB ad f' := h.mv (fun _ _ => rfl) hf
/-- the row of registers is made -/
theorem mS.rows {N : Nat} {w : Int32} (H : mS E h f00 12 f) : ∃ f1 : hm, wrV f h 4 0 (.int w) = some f1 ∧ ∀ q, f1 q = none → ∃ f2 : hm, wrV (hp f1 q (.inl (eF E, N, .inr (.inr (.inr (.inr (fun _ => none))))))) h 4 1 (.ref q) = some f2 ∧ mI E h f00 N w 0 f2 := by
  obtain ⟨ad, h0, B, hL, g8, g9, gr, gb⟩ := H
  have g8 := g8 (by omega)
  have g9 := g9 (by omega)
  have gr := gr (by omega)
  have gb := gb (by omega)
  refine ⟨hp f (ad 0) (.inr (4, (pL ad 12).set 0 (.int w))), by rw [← h0]; exact wrV_of hL (by rw [pL_len]; omega), ?_⟩
  have B1 := B.poke (c0 := 0) (e := .inr (4, (pL ad 12).set 0 (.int w))) (Or.inl rfl) (by omega)
  obtain ⟨f1, hf1⟩ : ∃ f1, hp f (ad 0) (.inr (4, (pL ad 12).set 0 (.int w))) = f1 := ⟨_, rfl⟩
  have k0 : f1 (ad 0) = some (.inr (4, (pL ad 12).set 0 (.int w))) := by rw [← hf1, hp_self]
  have kp : ∀ c, mC 12 c → c ≠ 0 → f1 (ad c) = f (ad c) := fun c hc hne => by rw [← hf1]; exact hp_ne _ _ (fun z => hne (B.1 _ _ hc (Or.inl rfl) z))
  rw [hf1] at B1
  rw [hf1]
  have m12 : ∀ c, c = 12 ∨ c = 13 ∨ c = 2 ∨ c = 3 ∨ (46 ≤ c ∧ c < 90) → mC 12 c := fun c hc => by unfold mC; omega
  have g8 := g8.same (kp _ (m12 _ (by omega)) (by omega))
  have g9 := g9.same (kp _ (m12 _ (by omega)) (by omega))
  have gr := gr.same (kp _ (m12 _ (by omega)) (by omega))
  have gb := gb.same (kp _ (m12 _ (by omega)) (by omega))
  intro q hq
  have B2 : bs E (fun _ => q) (fun c => c = 1) f1 Z0 (hp f1 q (.inl (eF E, N, .inr (.inr (.inr (.inr (fun _ => none))))))) := bs.one (by omega)
  obtain ⟨ad', f4, w4, a1, a2, B3, e1, o1, o2⟩ := B1.link B2 (fun _ _ => hq) (fun c h1 h2 => by unfold mC at h1; omega) (c0 := 0) (Or.inl rfl) (by omega) k0 (j := 1) (by rw [List.length_set, pL_len]; omega) 1
  refine ⟨f4, by rw [← h0]; exact w4, ad', by rw [a1 0 (Or.inl rfl), h0], ?_, ?_, ⟨fun _ => none, ?_, fun j hj => by omega⟩, ?_, ?_, ?_⟩
  · refine (B3.iff (fun c => by unfold mC rC; omega)).congr (fun k _ => ?_)
    show 0 = vR 0 k
    rw [vR, if_neg (by omega)]
  · rw [e1, pL_congr (ad' := ad') (fun i hi => a1 _ (mC_cd hi (by omega))), ← a2 1 rfl]
    rfl
  · rw [o2 1 rfl, hp_self]
  · rintro k (hk | rfl | rfl)
    · omega
    · exact g8.mv (a1 _ (m12 _ (by omega))) (a1 _ (m12 _ (by omega))) (a1 _ (m12 _ (by omega))) (o1 _ (m12 _ (by omega)) (by omega))
    · exact g9.mv (a1 _ (m12 _ (by omega))) (a1 _ (m12 _ (by omega))) (a1 _ (m12 _ (by omega))) (o1 _ (m12 _ (by omega)) (by omega))
  · exact gr.mv (fun c hc => a1 _ (m12 _ (by omega))) (o1 _ (m12 _ (by omega)) (by omega))
  · exact gb.mv (fun c hc => a1 _ (m12 _ (by omega))) (o1 _ (m12 _ (by omega)) (by omega))
/-- one register more -/
theorem mI.reg {N r : Nat} {w : Int32} {Rst : hm → Prop} (H : mI E h f00 N w r f) (hr : r < N) (hN : N ≤ 8) (c : ∀ f', mI E h f00 N w (r + 1) f' → Rst f') :
    ∃ v4 : Nat, rdV f h 4 1 = some (.ref v4) ∧ (∀ q5 : Nat, f q5 = none → S_X0_init E q5 (hp f q5 (.inr (0, [.int 0, .null, .null]))) (fun (f6 : hm) => (isO f6 q5 0 ∧ (∃ f7 : hm, wrQ (eF E) f6 v4 (nI r) q5 = some f7 ∧ (∃ v9 : Nat, rdV f7 h 4 1 = some (.ref v9) ∧ (∃ v10 : Nat, rdQ (eF E) f7 v9 (nI r) = some (some v10) ∧ (∃ v11 : Nat, rdV f7 v10 0 2 = some (.ref v11) ∧ (isO f7 v11 1 ∧ S_X1_become E v11 (1 : Int64) f7 Rst)))))))) := by
  obtain ⟨ad, h0, B, hM, ⟨ga, hA, hg⟩, gf, gr, gb⟩ := H
  refine ⟨ad 1, by rw [← h0, rdV_of hM]; rfl, ?_⟩
  refine I0_new (C := fun q5 f6 => (isO f6 q5 0 ∧ (∃ f7 : hm, wrQ (eF E) f6 (ad 1) (nI r) q5 = some f7 ∧ (∃ v9 : Nat, rdV f7 h 4 1 = some (.ref v9) ∧ (∃ v10 : Nat, rdQ (eF E) f7 v9 (nI r) = some (some v10) ∧ (∃ v11 : Nat, rdV f7 v10 0 2 = some (.ref v11) ∧ (isO f7 v11 1 ∧ S_X1_become E v11 (1 : Int64) f7 Rst))))))) r (by omega) (fun q nd f6 hq B2 N2 g => ?_)
  have B2 : bs E nd (frS r) f (vR r) f6 := B2.congr (fun k hk => by
    show 0 = vR r k
    rw [vR, if_neg (by unfold frS at hk; omega)])
  obtain ⟨ad', a1, a2, B3, kp⟩ := B.merge B2 N2 (fun c h1 h2 => by unfold rC at h1; omega)
  have B3 := B3.iff (S2 := rC (r + 1)) (fun c => by unfold rC frS; omega)
  have i0 : rC r 0 := Or.inl (by omega)
  have i1 : rC r 1 := Or.inl (by omega)
  have j1 : rC (r + 1) 1 := Or.inl (by omega)
  have kA : f6 (ad' 1) = some (.inl (eF E, N, .inr (.inr (.inr (.inr ga))))) := by rw [a1 1 i1, kp 1 i1, hA]
  have g := g.mv (ad' := ad') (f' := f6) (a2 _ (by unfold frS; omega)) (a2 _ (by unfold frS; omega)) (a2 _ (by unfold frS; omega)) (by rw [a2 _ (by unfold frS; omega)])
  have eq : ad' (4 + r) = q := by rw [a2 _ (by unfold frS; omega), hq]
  refine ⟨⟨_, by rw [← eq]; exact g⟩, ?_⟩
  refine ⟨_, by rw [← a1 1 i1]; exact wrQ_of kA hr (by omega), ?_⟩
  have B4 := B3.poke (c0 := 1) (e := .inl (eF E, N, .inr (.inr (.inr (.inr (va_up ga r (some q))))))) j1 (by omega)
  obtain ⟨f7, hf7⟩ : ∃ f7, hp f6 (ad' 1) (.inl (eF E, N, .inr (.inr (.inr (.inr (va_up ga r (some q))))))) = f7 := ⟨_, rfl⟩
  rw [hf7] at B4 ⊢
  have k1 : f7 (ad' 1) = some (.inl (eF E, N, .inr (.inr (.inr (.inr (va_up ga r (some q))))))) := by rw [← hf7, hp_self]
  have kq : ∀ c, rC (r + 1) c → c ≠ 1 → f7 (ad' c) = f6 (ad' c) := fun c hc hne => by rw [← hf7]; exact hp_ne _ _ (fun z => hne (B3.1 _ _ hc j1 z))
  have mM : f7 (ad' 0) = some (.inr (4, cM ad w)) := by rw [kq 0 (Or.inl (by omega)) (by omega), a1 0 i0, kp 0 i0, hM]
  have g7 : gF ad' f7 r := g.same (kq _ (by unfold rC; omega) (by omega))
  have h0' : ad' 0 = h := by rw [a1 0 i0, h0]
  refine ⟨ad' 1, ?_, q, ?_, cn ad' (2 * r + 1), ?_, ?_⟩
  · rw [← h0', rdV_of mM, a1 1 i1]; rfl
  · rw [rdQ_of k1 hr (by omega), va_up_self]
  · rw [← eq, rdV_of g7]; rfl
  · refine U1_becomeL (v := 1) B4.ns (show rC (r + 1) (14 + 2 * (2 * r + 1)) by unfold rC; omega) (by decide) (fun f8 n8 => c f8 ?_)
    obtain ⟨B5, kz⟩ := B4.op n8
    have kk : ∀ c, rC r c → c < 14 → c ≠ 1 → f8 (ad' c) = f (ad c) := fun c hc h14 hne => by
      have : rC (r + 1) c := by unfold rC at hc ⊢; omega
      rw [kz c this h14, kq c this hne, a1 c hc, kp c hc]
    refine ⟨ad', h0', B5.congr (fun k hk => ?_), ?_, ⟨va_up ga r (some q), ?_, fun j hj => ?_⟩, ?_, ?_, ?_⟩
    · by_cases e : k = 2 * r + 1
      · subst e; rw [va_up_self, vR, if_pos (by omega)]
      · rw [va_up_ne _ _ e]
        unfold vR
        by_cases e2 : k < 2 * r ∧ k % 2 = 1
        · rw [if_pos e2, if_pos (by omega)]
        · rw [if_neg e2, if_neg (by omega)]
    · rw [kz 0 (Or.inl (by omega)) (by omega), mM]
      unfold cM cn
      rw [a1 1 i1, a1 12 (by unfold rC; omega), a1 13 (by unfold rC; omega), a1 2 (by unfold rC; omega), a1 3 (by unfold rC; omega), a1 (14 + 2 * 30) (by unfold rC; omega), a1 (14 + 2 * 31) (by unfold rC; omega), a1 (14 + 2 * 32) (by unfold rC; omega), a1 (14 + 2 * 33) (by unfold rC; omega), a1 (14 + 2 * 34) (by unfold rC; omega), a1 (14 + 2 * 35) (by unfold rC; omega), a1 (14 + 2 * 36) (by unfold rC; omega), a1 (14 + 2 * 37) (by unfold rC; omega)]
    · rw [kz 1 j1 (by omega), k1]
    · by_cases e : j = r
      · subst e; rw [va_up_self, eq]
      · rw [va_up_ne _ _ e, hg j (by omega), a1 _ (by unfold rC; omega)]
    · intro k hk
      by_cases e : k = r
      · subst e; exact g7.same (kz _ (by unfold rC; omega) (by omega))
      · exact (gf k (by omega)).mv (a1 _ (by unfold rC; omega)) (a1 _ (by unfold rC; omega)) (a1 _ (by unfold rC; omega)) (kk _ (by unfold rC; omega) (by omega) (by omega))
    · exact gr.mv (fun c hc => a1 _ (by unfold rC; omega)) (kk _ (by unfold rC; omega) (by omega) (by omega))
    · exact gb.mv (fun c hc => a1 _ (by unfold rC; omega)) (kk _ (by unfold rC; omega) (by omega) (by omega))
abbrev A0 : regs := fun _ => (0, 1)
/-- all registers made: the class stands at its start -/
theorem mI.done {N W : Nat} (H : mI E h f00 N (nI W) N f) (hN : N ≤ 8) : ∃ ad : Nat → Nat, ad 0 = h ∧ cQ E ad N W f00 A0 (0, 0) f := by
  obtain ⟨ad, h0, B, hM, ⟨ga, hA, hg⟩, gf, gr, gb⟩ := H
  have B := B.iff (S2 := cA N) (fun c => by unfold rC cA cK cF; omega)
  refine ⟨ad, h0, vR N, fun _ => 0, 20, 21, 0, 1, 1, 0, 23, 24, 25, ⟨⟨hN, B.1, ⟨⟨fun i j hi hj => B.ns.1.1 i j (cA_n hi) (cA_n hj), fun i j hi hj => B.ns.1.2.1 i j (cA_n hi) (cA_n hj), fun i j hi hj => B.ns.1.2.2 i j (cA_n hi) (cA_n hj)⟩, fun k hk => B.ns.2.1 k (cA_n hk), fun _ _ => rfl⟩, B.2.2.2⟩, hM, ⟨ga, hA, hg⟩, fun k hk => gf k hk, gr, gb⟩, Or.inl ⟨rfl, rfl⟩, by unfold cG; omega, fun r hr => ⟨rfl, ?_, ?_⟩, ?_, fun z => absurd rfl z⟩
  · show vR N (2 * r) = 0
    rw [vR, if_neg (by omega)]
  · show vR N (2 * r + 1) = 1
    rw [vR, if_pos (by omega)]
  · show vR N 17 = 0
    rw [vR, if_neg (by omega)]
end BN
