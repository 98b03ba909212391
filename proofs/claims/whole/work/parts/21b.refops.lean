/-! The reference's public methods, by what they do to the registers. -/
/-- the reference's numbers hold the registers a and the continued fraction cf -/
def rT (R : Nat) (a : regs) (cf : Int × Nat) (N : Nat → Nat) (sn : Nat → Int32) (go gs : Int32) : Prop := (∀ r, r < R → sn r = sgI (a r).1 ∧ N r = (a r).1.natAbs ∧ N (8 + r) = (a r).2) ∧ go = (if cf.2 = 0 then 0 else 1) ∧ (cf.2 ≠ 0 → N 22 = cf.1.natAbs ∧ N 23 = cf.2 ∧ gs = sgI cf.1)
def rQ (E : cx) (h ab as R W : Nat) (f0 : hm) (a : regs) (cf : Int × Nat) (f : hm) : Prop := ∃ (N : Nat → Nat) (sn : Nat → Int32) (sg go gs : Int32), rS E h ab as (nI R) (nI W) f0 N sn sg go gs f ∧ rT R a cf N sn go gs
theorem rT.keep {R : Nat} {a : regs} {cf : Int × Nat} {N M : Nat → Nat} {sn : Nat → Int32} {go gs : Int32} (h : rT R a cf N sn go gs) (hR : R ≤ 8) (hk : keepN N M) : rT R a cf M sn go gs := by
  refine ⟨fun r hr => ?_, h.2.1, fun hc => ?_⟩
  · rw [hk r (by omega), hk (8 + r) (by omega)]; exact h.1 r hr
  · rw [hk 22 (by omega), hk 23 (by omega)]; exact h.2.2 hc
theorem lenIs_iff {n b k : Nat} (h : lenIs 2 n b) : b ≤ k ↔ n < 2 ^ k := ⟨fun q => Nat.lt_of_lt_of_le h.1 (Nat.pow_le_pow_right (by decide) q), fun q => lenIs_le (by decide) h q⟩
section RS2
variable {E : cx} {h ab as : Nat} {R w : Int32} {f0 : hm} {sn : Nat → Int32} {sg go gs : Int32} {f : hm} {N : Nat → Nat}
theorem rS.r1 (H : rS E h ab as R w f0 N sn sg go gs f) : rdV f h 5 1 = some (.int w) := by obtain ⟨b, H, -⟩ := H; exact H.r1
theorem rS.r2 (H : rS E h ab as R w f0 N sn sg go gs f) : rdV f h 5 2 = some (.ref ab) := by obtain ⟨b, H, -⟩ := H; exact H.r2
theorem rS.r3 (H : rS E h ab as R w f0 N sn sg go gs f) : rdV f h 5 3 = some (.ref as) := by obtain ⟨b, H, -⟩ := H; exact H.r3
theorem rS.r4 (H : rS E h ab as R w f0 N sn sg go gs f) : rdV f h 5 4 = some (.int sg) := by obtain ⟨b, H, -⟩ := H; exact H.r4
theorem rS.r5 (H : rS E h ab as R w f0 N sn sg go gs f) : rdV f h 5 5 = some (.int go) := by obtain ⟨b, H, -⟩ := H; exact H.r5
theorem rS.r6 (H : rS E h ab as R w f0 N sn sg go gs f) : rdV f h 5 6 = some (.int gs) := by obtain ⟨b, H, -⟩ := H; exact H.r6
theorem rS.rs (H : rS E h ab as R w f0 N sn sg go gs f) {j : Nat} (hj : j < 8) : rdA (eI E) f as (nI j) = some (sn j) := by obtain ⟨b, H, -⟩ := H; exact H.rs hj
theorem rS.rd (H : rS E h ab as R w f0 N sn sg go gs f) {n k : Nat} (hn : n < 27) (hk : k < 36) : rdA (eI E) f ab (nI (36 * n + k)) = some (nI (dg 65536 (N n) k)) := by
  obtain ⟨b, H, hN⟩ := H
  rw [H.rd (by omega), hN.at' hn hk]
theorem wrsS (H : rS E h ab as R w f0 N sn sg go gs f) {j : Nat} (hj : j < 8) (x : Int32) : ∃ f' : hm, wrA (eI E) f as (nI j) x = some f' ∧ rS E h ab as R w f0 N (upd sn j x) sg go gs f' := by
  obtain ⟨b, H, hN⟩ := H
  obtain ⟨g, a, b'⟩ := H.ws hj x
  exact ⟨g, a, b, b', hN⟩
theorem w5S (H : rS E h ab as R w f0 N sn sg go gs f) (x : Int32) : ∃ f' : hm, wrV f h 5 5 (.int x) = some f' ∧ rS E h ab as R w f0 N sn sg x gs f' := by
  obtain ⟨b, H, hN⟩ := H
  obtain ⟨g, a, b'⟩ := H.w5 x
  exact ⟨g, a, b, b', hN⟩
theorem w6S (H : rS E h ab as R w f0 N sn sg go gs f) (x : Int32) : ∃ f' : hm, wrV f h 5 6 (.int x) = some f' ∧ rS E h ab as R w f0 N sn sg go x f' := by
  obtain ⟨b, H, hN⟩ := H
  obtain ⟨g, a, b'⟩ := H.w6 x
  exact ⟨g, a, b, b', hN⟩
end RS2
section REFOPS
variable {E : cx} {h ab as R W : Nat} {f0 : hm} {sn : Nat → Int32} {sg go gs : Int32} {f : hm} {N : Nat → Nat} {a : regs} {cf : Int × Nat}
theorem ix8 (r : Nat) : (8 : Int32) + nI r = nI (8 + r) := by rw [show (8 : Int32) = nI 8 from rfl, nI_add]
theorem C5_store {z : Int} {D d : Nat} (ok : aOK R W a cf) (H : rS E h ab as (nI R) (nI W) f0 N sn sg go gs f) (hT : rT R a cf N sn go gs) (e16 : N 16 = z.natAbs) (e17 : N 17 = D) (hD : 0 < D) (l16 : z.natAbs < 65536 ^ 35) (l17 : D < 65536 ^ 35) (hsg : z ≠ 0 → sg = sgI z) (hd : d < R) : S_X5_store E h (nI d) f (fun r g => r = (opR W a d z D).1 ∧ rQ E h ab as R W f0 (opR W a d z D).2 cf g) := by
  have hR := ok.1.2
  have hW := ok.2.1.2
  refine T_X5_store ?_
  unfold X_X5_store_0
  refine U5_reduce H (by omega) (by omega) (by omega) (fun g M H q16 q17 hk => ?_)
  rw [e16, e17] at q16 q17
  have es : (if N 16 = 0 then 0 else sg) = sgI z := by
    rw [e16]
    by_cases hz : z = 0
    · subst hz; rfl
    · rw [if_neg (by omega), hsg hz]
  rw [es] at H
  have hT2 := hT.keep hR hk
  have e32 : (32 : Int32) * nI W = nI (32 * W) := by rw [show (32 : Int32) = nI 32 from rfl, pk_mul]
  refine U5_bitsOf 16 H (by decide) (fun b hb hl => ⟨nI W, H.r1, fun c => ?_, fun c => ?_⟩)
  · rw [e32, nI_ltI (by omega) (by omega)] at c
    have hn : ¬ room W z D := fun q => by
      have := (lenIs_iff hl (k := 32 * W)).mpr (by rw [q16]; exact q.1)
      omega
    rw [opR, if_neg hn]
    exact ⟨rfl, M, sn, _, go, gs, H, hT2⟩
  · rw [e32, nI_ltI (by omega) (by omega)] at c
    have r1 : rN z.natAbs D < 2 ^ (32 * W) := by rw [← q16]; exact (lenIs_iff hl).mp (by omega)
    refine U5_bitsOf 17 H (by decide) (fun b2 hb2 hl2 => ⟨nI W, H.r1, fun c2 => ?_, fun c2 => ?_⟩)
    · rw [e32, nI_leI (by omega) (by omega)] at c2
      have r2 : rD z.natAbs D < 2 ^ (32 * W) := by rw [← q17]; exact (lenIs_iff hl2).mp c2
      refine U5_copy 16 d H (by decide) (by omega) (fun g H => ?_)
      rw [ix8]
      refine U5_copy 17 (8 + d) H (by decide) (by omega) (fun g H => ?_)
      obtain ⟨g', hw, H'⟩ := wrsS H (j := d) (by omega) (sgI z)
      refine ⟨as, H.r3, _, H.r4, g', hw, ?_⟩
      rw [opR, if_pos ⟨r1, r2⟩]
      refine ⟨rfl, _, _, _, go, gs, H', fun r hr => ?_, hT2.2.1, fun hc => ?_⟩
      · show upd sn d (sgI z) r = sgI (va_up a d (redz z D) r).1 ∧ _ = (va_up a d (redz z D) r).1.natAbs ∧ _ = (va_up a d (redz z D) r).2
        by_cases hrd : r = d
        · subst hrd
          rw [va_up_self, redz_sg hD, redz_abs, pk_us, va_up_ne _ _ (by omega), va_up_self, va_up_self, va_up_ne _ _ (by omega), q16, q17]
          exact ⟨rfl, rfl, rfl⟩
        · rw [va_up_ne _ _ hrd, pk_un hrd, va_up_ne _ _ (by omega), va_up_ne _ _ (by omega), va_up_ne _ _ (by omega), va_up_ne _ _ (by omega)]
          exact hT2.1 r hr
      · rw [va_up_ne _ _ (by omega), va_up_ne _ _ (by omega), va_up_ne _ _ (by omega), va_up_ne _ _ (by omega)]
        exact hT2.2.2 hc
    · rw [e32, nI_leI (by omega) (by omega)] at c2
      have hn : ¬ room W z D := fun q => by
        have := (lenIs_iff hl2 (k := 32 * W)).mpr (by rw [q17]; exact q.2)
        omega
      rw [opR, if_neg hn]
      exact ⟨rfl, M, sn, _, go, gs, H, hT2⟩
/-- the sign is written, and the result stored -/
theorem F5_store {K : Int32 → hm → Prop} {z : Int} {D d : Nat} {x : Int32} (ok : aOK R W a cf) (H : rS E h ab as (nI R) (nI W) f0 N sn sg go gs f) (hT : rT R a cf N sn go gs) (e16 : N 16 = z.natAbs) (e17 : N 17 = D) (hD : 0 < D) (l16 : z.natAbs < 65536 ^ 35) (l17 : D < 65536 ^ 35) (hx : z ≠ 0 → x = sgI z) (hd : d < R) (k : ∀ g, rQ E h ab as R W f0 (opR W a d z D).2 cf g → K (opR W a d z D).1 g) : ∃ f' : hm, wrV f h 5 4 (.int x) = some f' ∧ (isO f' h 5 ∧ S_X5_store E h (nI d) f' K) := by
  obtain ⟨g', hw, H'⟩ := w4S H x
  exact ⟨g', hw, H'.o, MI.mono (C5_store ok H' hT e16 e17 hD l16 l17 hx hd) (fun r g q => by rw [q.1]; exact k g q.2)⟩
theorem U5_isRegister {K : Int32 → hm → Prop} (x : Int32) (H : rS E h ab as (nI R) (nI W) f0 N sn sg go gs f) (k : K (if isR R x then 1 else 0) f) : isO f h 5 ∧ S_X5_isRegister E h x f K := ⟨H.o, MI.mono (C5_isRegister H) (fun r g q => by rw [q.1, q.2]; exact k)⟩
theorem U5_areRegisters {K : Int32 → hm → Prop} (x y w : Int32) (H : rS E h ab as (nI R) (nI W) f0 N sn sg go gs f) (k : K (if isR R x ∧ isR R y ∧ isR R w then 1 else 0) f) : isO f h 5 ∧ S_X5_areRegisters E h x y w f K := by
  refine ⟨H.o, MI.mono (K := fun r g => g = f ∧ r = if isR R x ∧ isR R y ∧ isR R w then 1 else 0) ?_ (fun r g q => by rw [q.1, q.2]; exact k)⟩
  refine T_X5_areRegisters ?_
  unfold X_X5_areRegisters_0
  refine U5_isRegister x H ⟨fun c => ⟨nb0, rfl, ?_⟩, fun c => ?_⟩
  · have c := ite_z.mp c
    rw [if_neg (fun q => c q.1)]
  · have c := Classical.not_not.mp (fun q => c (ite_z.mpr q))
    refine U5_isRegister y H ⟨fun c2 => ⟨nb0, rfl, ?_⟩, fun c2 => ?_⟩
    · have c2 := ite_z.mp c2
      rw [if_neg (fun q => c2 q.2.1)]
    · have c2 := Classical.not_not.mp (fun q => c2 (ite_z.mpr q))
      refine U5_isRegister w H ⟨fun c3 => ⟨nb0, rfl, ?_⟩, fun c3 => ⟨nb1, rfl, ?_⟩⟩
      · have c3 := ite_z.mp c3
        rw [if_neg (fun q => c3 q.2.2)]
      · have c3 := Classical.not_not.mp (fun q => c3 (ite_z.mpr q))
        rw [if_pos ⟨c, c2, c3⟩]
theorem ite_n {p : Prop} [Decidable p] (h : ¬ (if p then (1 : Int32) else 0) = 0) : p := Classical.not_not.mp (fun q => h (ite_z.mpr q))
theorem abs_mulN (z : Int) (d : Nat) : (z * (d : Int)).natAbs = z.natAbs * d := by rw [Int.natAbs_mul, Int.natAbs_natCast]
theorem sgI_mulN {z : Int} {d : Nat} (h : 0 < d) : sgI (z * (d : Int)) = sgI z := by
  rw [← sgI_mul, sgI_pos (z := (d : Int)) (by omega)]
  rcases sgI_cases z with ⟨_, e⟩ | ⟨_, e⟩ | ⟨_, e⟩ <;> rw [e] <;> rfl
theorem p256 {x y : Nat} (hx : x < 2 ^ 256) (hy : y < 2 ^ 256) : x * y < 2 ^ 512 := by
  have : x * y < 2 ^ 256 * 2 ^ 256 := Nat.mul_lt_mul'' hx hy
  rwa [← Nat.pow_add] at this
theorem p560 : (65536 : Nat) ^ 35 = 2 ^ 560 := pw16 35
theorem p576 : (65536 : Nat) ^ 36 = 2 ^ 576 := pw16 36
theorem p512 : (2 : Nat) ^ 512 * 4 < 2 ^ 560 := by decide +kernel
theorem p512' : (2 : Nat) ^ 560 < 2 ^ 576 := by decide +kernel
theorem C5_sum {d x y : Nat} {p4 : Int32} {v : Int} (ok : aOK R W a cf) (H : rS E h ab as (nI R) (nI W) f0 N sn sg go gs f) (hT : rT R a cf N sn go gs) (hd : d < R) (hx : x < R) (hy : y < R) (hp : sgI (a y).1 * p4 = sgI v) (hv : v.natAbs = (a y).1.natAbs * (a x).2) :
    S_X5_sum E h (nI d) (nI x) (nI y) p4 f (fun r g => r = (opR W a d ((a x).1 * (a y).2 + v) ((a x).2 * (a y).2)).1 ∧ rQ E h ab as R W f0 (opR W a d ((a x).1 * (a y).2 + v) ((a x).2 * (a y).2)).2 cf g) := by
  have hR := ok.1.2
  have hW := ok.2.1.2
  obtain ⟨x1, x2, x3, x4⟩ := ok.2.2.1 x hx
  obtain ⟨y1, y2, y3, y4⟩ := ok.2.2.1 y hy
  have x2 := aOK.lt256 hW x2
  have x3 := aOK.lt256 hW x3
  have y2 := aOK.lt256 hW y2
  have y3 := aOK.lt256 hW y3
  obtain ⟨sx, nx, dx⟩ := hT.1 x hx
  obtain ⟨sy, ny, dy⟩ := hT.1 y hy
  have b1 := p256 x3 y2
  have b2 := p256 y3 x2
  have b3 := p256 x2 y2
  have q1 := p560
  have q2 := p576
  have q3 := p512
  have q4 := p512'
  refine T_X5_sum ?_
  unfold X_X5_sum_0
  rw [ix8, ix8]
  refine U5_multiply x (8 + y) 18 H (by omega) (by omega) (by decide) (by omega) (by omega) (by rw [nx, dy]; omega) (fun g H => ?_)
  refine U5_multiply y (8 + x) 19 H (by omega) (by omega) (by decide) (by omega) (by omega) (by rw [va_up_ne _ _ (by omega), va_up_ne _ _ (by omega), ny, dx]; omega) (fun g H => ?_)
  refine U5_multiply (8 + x) (8 + y) 17 H (by omega) (by omega) (by decide) (by omega) (by omega) (by rw [va_up_ne _ _ (by omega), va_up_ne _ _ (by omega), va_up_ne _ _ (by omega), va_up_ne _ _ (by omega), dx, dy]; omega) (fun g H => ?_)
  rw [va_up_ne _ _ (show 8 + x ≠ 19 by omega), va_up_ne _ _ (show 8 + y ≠ 19 by omega), va_up_ne _ _ (show 8 + x ≠ 18 by omega), va_up_ne _ _ (show 8 + y ≠ 18 by omega), va_up_ne _ _ (show y ≠ 18 by omega), nx, ny, dx, dy] at H
  refine ⟨as, H.r3, _, H.rs (by omega), as, H.r3, _, H.rs (by omega), ?_⟩
  rintro s2 rfl
  rw [sx, sy, hp]
  generalize hu : (a x).1 * ((a y).2 : Int) = u
  have su : sgI (a x).1 = sgI u := by rw [← hu, sgI_mulN y1]
  have au : (a x).1.natAbs * (a y).2 = u.natAbs := by rw [← hu, abs_mulN]
  rw [su]
  rw [au, ← hv] at H
  have hM : rT R a cf (va_up (va_up (va_up N 18 u.natAbs) 19 v.natAbs) 17 ((a x).2 * (a y).2)) sn go gs := hT.keep hR (keepN.up (keepN.up (keepN.up keepN.rf (by decide)) (by decide)) (by decide))
  have hpos : 0 < (a x).2 * (a y).2 := Nat.mul_pos x1 y1
  have fin : ∀ (g : hm) (M : Nat → Nat) (s : Int32), rS E h ab as (nI R) (nI W) f0 M sn sg go gs g → rT R a cf M sn go gs → M 16 = (u + v).natAbs → M 17 = (a x).2 * (a y).2 → (u + v ≠ 0 → s = sgI (u + v)) → ∃ f' : hm, wrV g h 5 4 (.int s) = some f' ∧ (isO f' h 5 ∧ S_X5_store E h (nI d) f' (fun r g => r = (opR W a d (u + v) ((a x).2 * (a y).2)).1 ∧ rQ E h ab as R W f0 (opR W a d (u + v) ((a x).2 * (a y).2)).2 cf g)) := fun g M s H hM e16 e17 hs => F5_store ok H hM e16 e17 hpos (by omega) (by omega) hs hd (fun g q => ⟨rfl, q⟩)
  have plus : ∀ s : Int32, (u + v).natAbs = u.natAbs + v.natAbs → (u + v ≠ 0 → s = sgI (u + v)) → isO g h 5 ∧ S_X5_copy E h (18 : Int32) (16 : Int32) g (fun f14 => isO f14 h 5 ∧ S_X5_plus E h (16 : Int32) (19 : Int32) f14 (fun f16 => ∃ f' : hm, wrV f16 h 5 4 (.int s) = some f' ∧ (isO f' h 5 ∧ S_X5_store E h (nI d) f' (fun r g => r = (opR W a d (u + v) ((a x).2 * (a y).2)).1 ∧ rQ E h ab as R W f0 (opR W a d (u + v) ((a x).2 * (a y).2)).2 cf g)))) := by
    intro s e1 e2
    refine U5_copy 18 16 H (by decide) (by decide) (fun g H => ?_)
    rw [va_up_ne _ _ (by decide), va_up_ne _ _ (by decide), va_up_self] at H
    refine U5_plus 16 19 H (by decide) (by decide) (by decide) (by rw [va_up_self, va_up_ne _ _ (by decide), va_up_ne _ _ (by decide), va_up_self]; omega) (fun g H => ?_)
    refine fin g _ s H (hM.keep hR (keepN.up (keepN.up keepN.rf (by decide)) (by decide))) ?_ ?_ e2
    · rw [va_up_self, va_up_self, va_up_ne _ _ (by decide), va_up_ne _ _ (by decide), va_up_self, e1]
    · rw [va_up_ne _ _ (by decide), va_up_ne _ _ (by decide), va_up_self]
  have cu := sgI_cases u
  have cv := sgI_cases v
  have cz := sgI_cases (u + v)
  refine ⟨fun c => ?_, fun c => ?_⟩
  · have u0 : u = 0 := sgI_eq0.mp c
    refine ⟨(plus (sgI v) (by omega) (fun _ => by rw [u0, Int.zero_add])).1, MV.mono (plus (sgI v) (by omega) (fun _ => by rw [u0, Int.zero_add])).2 (fun g q => ⟨q.1, MV.mono q.2 (fun g q => ⟨fun c2 => absurd c c2, fun _ => q⟩)⟩)⟩
  · have u0 : ¬ u = 0 := fun q => c (sgI_eq0.mpr q)
    refine ⟨fun c2 => ?_, fun c2 => ?_⟩
    · have v0 : v = 0 := sgI_eq0.mp c2
      refine ⟨(plus (sgI u) (by omega) (fun _ => by rw [v0, Int.add_zero])).1, MV.mono (plus (sgI u) (by omega) (fun _ => by rw [v0, Int.add_zero])).2 (fun g q => ⟨q.1, MV.mono q.2 (fun g q => ⟨fun _ => q, fun c3 => absurd c3 c⟩)⟩)⟩
    · have v0 : ¬ v = 0 := fun q => c2 (sgI_eq0.mpr q)
      refine ⟨fun c3 => ?_, fun c3 => ?_⟩
      · have hopp : (u < 0 ∧ 0 < v) ∨ (0 < u ∧ v < 0) := by
          rcases cu with ⟨k1, k2⟩ | ⟨k1, k2⟩ | ⟨k1, k2⟩ <;> rcases cv with ⟨k3, k4⟩ | ⟨k3, k4⟩ | ⟨k3, k4⟩ <;> first | omega | (exact absurd (k2.trans k4.symm) c3)
        refine U5_compare 18 19 H (by decide) (by decide) ?_
        rw [va_up_ne _ _ (show 18 ≠ 17 by decide), va_up_ne _ _ (show 18 ≠ 19 by decide), va_up_self, va_up_ne _ _ (show 19 ≠ 17 by decide), va_up_self]
        refine ⟨fun c4 => ?_, fun c4 => ?_⟩
        · have c4 := ord3_lt.mp c4
          refine U5_copy 19 16 H (by decide) (by decide) (fun g H => ?_)
          rw [va_up_ne _ _ (by decide), va_up_self] at H
          refine U5_lessen 16 18 H (by decide) (by decide) (by decide) (by rw [va_up_self, va_up_ne _ _ (by decide), va_up_ne _ _ (by decide), va_up_ne _ _ (by decide), va_up_self]; omega) (fun g H => ?_)
          refine fin g _ _ H (hM.keep hR (keepN.up (keepN.up keepN.rf (by decide)) (by decide))) ?_ ?_ (fun _ => ?_)
          · rw [va_up_self, va_up_self, va_up_ne _ _ (by decide), va_up_ne _ _ (by decide), va_up_ne _ _ (by decide), va_up_self]; omega
          · rw [va_up_ne _ _ (by decide), va_up_ne _ _ (by decide), va_up_self]
          · rcases hopp with ⟨k1, k2⟩ | ⟨k1, k2⟩
            · rw [sgI_pos k2, sgI_pos (by omega)]
            · rw [sgI_neg k2, sgI_neg (by omega)]
        · have c4 : ¬ u.natAbs < v.natAbs := fun q => c4 (ord3_lt.mpr q)
          refine U5_copy 18 16 H (by decide) (by decide) (fun g H => ?_)
          rw [va_up_ne _ _ (by decide), va_up_ne _ _ (by decide), va_up_self] at H
          refine U5_lessen 16 19 H (by decide) (by decide) (by decide) (by rw [va_up_self, va_up_ne _ _ (by decide), va_up_ne _ _ (by decide), va_up_self]; omega) (fun g H => ?_)
          refine fin g _ _ H (hM.keep hR (keepN.up (keepN.up keepN.rf (by decide)) (by decide))) ?_ ?_ (fun hz => ?_)
          · rw [va_up_self, va_up_self, va_up_ne _ _ (by decide), va_up_ne _ _ (by decide), va_up_self]; omega
          · rw [va_up_ne _ _ (by decide), va_up_ne _ _ (by decide), va_up_self]
          · rcases hopp with ⟨k1, k2⟩ | ⟨k1, k2⟩
            · rw [sgI_neg k1, sgI_neg (by omega)]
            · rw [sgI_pos k1, sgI_pos (by omega)]
      · have hsame : (u < 0 ∧ v < 0) ∨ (0 < u ∧ 0 < v) := by
          rcases cu with ⟨k1, k2⟩ | ⟨k1, k2⟩ | ⟨k1, k2⟩ <;> rcases cv with ⟨k3, k4⟩ | ⟨k3, k4⟩ | ⟨k3, k4⟩ <;> first | omega | (rw [k2, k4] at c3; exact absurd c3 (by decide))
        have es : sgI u = sgI (u + v) := by
          rcases hsame with ⟨k1, k2⟩ | ⟨k1, k2⟩
          · rw [sgI_neg k1, sgI_neg (by omega)]
          · rw [sgI_pos k1, sgI_pos (by omega)]
        refine ⟨(plus (sgI u) (by omega) (fun _ => es)).1, MV.mono (plus (sgI u) (by omega) (fun _ => es)).2 (fun g q => ⟨q.1, MV.mono q.2 (fun g q => ⟨fun _ => q, fun c3 => absurd c3 c⟩)⟩)⟩
end REFOPS
