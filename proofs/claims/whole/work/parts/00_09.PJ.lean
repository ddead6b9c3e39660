/-- the final value -/
def fnv (j : Int32) (q : Nat) (y : Int64) : Int32 := if j = -2000000000 then -2000000000 else if q = 0 then -2000000000 else j + y.toInt32
theorem together_s {n q i : Nat} {F Up Lo : Nat → Int32} {Mi : Nat → Int64} {j : Int32} {y : Int64} (hi : i < 300) (hq : q ≤ 20) (hy : y.toInt.natAbs ≤ 400000000) (hh : 0 < q → FX1_height n (nI q) F Up Lo Mi (nI i) = some y.toInt32) :
    FX6_together n (nI q) F Up Lo Mi j (nI i) = some (fnv j q y) := by
  unfold FX6_together fnv
  by_cases c1 : j = -2000000000
  · rw [if_pos c1, if_pos c1]
  · rw [if_neg c1, if_neg c1]
    by_cases c2 : q = 0
    · subst c2
      rw [if_pos rfl]
      unfold FX1_height
      simp (disch := omega) only [bn_s, gd_in, if_pos, if_neg, i_lt, i_le, nI_toInt, Int32.reduceToInt, Int32.reduceSub, reduceIte, nI_clamp, nI_1, nI_add, lit_mul, lit_add, add_lit, pk_mul, pk_us, pk_un, pk_uLs, pk_uLn, nI_eqL, nI_eq, one_0, ob1_s, ob2_s, ob3_s, ob4_s, ob5_s]
    · rw [if_neg c2, hh (by omega), ob1_s, if_neg]
      intro h9
      have := congrArg Int32.toInt h9
      rw [i32_of64 (by omega) (by omega), LOSTt] at this
      omega
theorem fin_C {n0 q k m : Nat} {sN z0 z1 sz pts x1 : Int32} {f0 f1 ti me le en T lo hi F Ln Up Lo J : Nat → Int32} {Mi : Nat → Int64} {lU lL mU mL : Int64} {Y : Nat → Int64} (hk : k ≤ 300) (hq : q ≤ 20) (hY : ∀ i, i < 300 → (Y i).toInt.natAbs ≤ 400000000 ∧ (0 < q → ∀ n, 40 ≤ n → FX1_height n (nI q) F Up Lo Mi (nI i) = some (Y i).toInt32)) :
    ∀ (e n : Nat) (fn : Nat → Int32), e ≤ k → e + 50 ≤ n → ∃ fn', LX6_settle_84 n sN z0 f0 z1 f1 sz ti me le en pts (nI q) lU lL mU mL T lo hi F Ln Up Lo Mi J fn x1 (nI k) (nI (k - e)) = some (x1, pts, nI q, lU, lL, mU, mL, T, lo, hi, F, Ln, Up, Lo, Mi, J, fn') ∧ ∀ i, fn' i = if k - e ≤ i ∧ i < k then fnv (J i) q (Y i) else fn i := by
  intro e
  induction e with
  | zero =>
    intro n fn _ hn
    obtain ⟨n, rfl⟩ : ∃ x, n = x + 1 := ⟨n - 1, by omega⟩
    refine ⟨fn, ?_, fun i => (if_neg (by omega)).symm⟩
    unfold LX6_settle_84 JX6_settle_84
    simp (disch := omega) only [bn_s, gd_in, if_pos, if_neg, i_lt, i_le, nI_toInt, Int32.reduceToInt, Int32.reduceSub, reduceIte, nI_clamp, nI_1, nI_add, lit_mul, lit_add, add_lit, pk_mul, pk_us, pk_un, pk_uLs, pk_uLn, nI_eqL, nI_eq, one_0, ob1_s, ob2_s, ob3_s, ob4_s, ob5_s]
  | succ e ih =>
    intro n fn he hn
    obtain ⟨n, rfl⟩ : ∃ x, n = x + 1 := ⟨n - 1, by omega⟩
    obtain ⟨fn', r1, r2⟩ := ih n (upd fn (k - (e + 1)) (fnv (J (k - (e + 1))) q (Y (k - (e + 1))))) (by omega) (by omega)
    have hj := joinedC (n := n) (J := J) (i := k - (e + 1)) (by omega)
    have ht := together_s (n := n) (q := q) (i := k - (e + 1)) (F := F) (Up := Up) (Lo := Lo) (Mi := Mi) (j := J (k - (e + 1))) (y := Y (k - (e + 1))) (by omega) hq (hY _ (by omega)).1 (fun h => (hY _ (by omega)).2 h n (by omega))
    refine ⟨fn', ?_, fun i => ?_⟩
    · unfold LX6_settle_84 JX6_settle_84
      simp (disch := omega) only [bn_s, gd_in, if_pos, if_neg, i_lt, i_le, nI_toInt, Int32.reduceToInt, Int32.reduceSub, reduceIte, nI_clamp, nI_1, nI_add, lit_mul, lit_add, add_lit, pk_mul, pk_us, pk_un, pk_uLs, pk_uLn, nI_eqL, nI_eq, one_0, ob1_s, ob2_s, ob3_s, ob4_s, ob5_s, hj, ht]
      rw [show k - (e + 1) + 1 = k - e by omega]; exact r1
    · rw [r2 i]
      by_cases e1 : i = k - (e + 1)
      · subst e1; rw [if_neg (by omega), if_pos (by omega), pk_us]
      · rw [pk_un e1]
        by_cases e2 : k - e ≤ i ∧ i < k
        · rw [if_pos e2, if_pos (by omega)]
        · rw [if_neg e2, if_neg (by omega)]
theorem fin_M {q t : Nat} {pts nr : Int32} {R M J W Me En Ms T' P E fi lg : Nat → Int32} {up dn he : Nat → Int64} {a b c d : Int64} {Y : Nat → Int64} (ht : t < 3) (hq : q ≤ 20) (hY : ∀ i, i < 300 → 0 < q → ∀ n, 40 ≤ n → FX10_base n (nI q) T' fi up dn he (nI i) = some (Y i)) :
    ∀ (e n : Nat) (fn : Nat → Int32), e ≤ 300 → e + 50 ≤ n → ∃ fn', LX10_finishes_7 n pts (nI q) a b c d nr R M J fn W Me En Ms T' P E fi lg up dn he (nI t) (nI (300 - e)) = some (pts, nI q, a, b, c, d, J, fn', T', P, E, fi, lg, up, dn, he) ∧ (∀ i, i < 300 → fn' (300 * t + i) = if 300 - e ≤ i then fnv (J (300 * t + i)) q (Y i) else fn (300 * t + i)) ∧ ∀ t' i, t' ≠ t → i < 300 → fn' (300 * t' + i) = fn (300 * t' + i) := by
  intro e
  induction e with
  | zero =>
    intro n fn _ hn
    obtain ⟨n, rfl⟩ : ∃ x, n = x + 1 := ⟨n - 1, by omega⟩
    refine ⟨fn, ?_, fun i hi => (if_neg (by omega)).symm, fun _ _ _ _ => rfl⟩
    unfold LX10_finishes_7 JX10_finishes_7
    simp (disch := omega) only [bn_s, gd_in, if_pos, if_neg, i_lt, i_le, nI_toInt, Int32.reduceToInt, Int32.reduceSub, reduceIte, nI_clamp, nI_1, nI_add, lit_mul, lit_add, add_lit, pk_mul, pk_us, pk_un, pk_uLs, pk_uLn, nI_eqL, nI_eq, one_0, ob1_s, ob2_s, ob3_s, ob4_s, ob5_s]
  | succ e ih =>
    intro n fn he hn
    obtain ⟨n, rfl⟩ : ∃ x, n = x + 1 := ⟨n - 1, by omega⟩
    obtain ⟨fn', r1, r2, r3⟩ := ih n (upd fn (300 * t + (300 - (e + 1))) (fnv (J (300 * t + (300 - (e + 1)))) q (Y (300 - (e + 1))))) (by omega) (by omega)
    have hj := joinedM (n := n) (J := J) (t := t) (i := 300 - (e + 1)) ht (by omega)
    refine ⟨fn', ?_, fun i hi => ?_, fun t' i h1 h2 => ?_⟩
    · unfold LX10_finishes_7 JX10_finishes_7
      rw [show 300 - e = 300 - (e + 1) + 1 by omega] at r1
      unfold fnv at r1
      by_cases c1 : J (300 * t + (300 - (e + 1))) = -2000000000
      · rw [if_pos c1] at r1
        simp (disch := omega) only [bn_s, gd_in, if_pos, if_neg, i_lt, i_le, nI_toInt, Int32.reduceToInt, Int32.reduceSub, reduceIte, nI_clamp, nI_1, nI_add, lit_mul, lit_add, add_lit, pk_mul, pk_us, pk_un, pk_uLs, pk_uLn, nI_eqL, nI_eq, one_0, ob1_s, ob2_s, ob3_s, ob4_s, ob5_s, hj, c1]; exact r1
      · rw [if_neg c1] at r1
        by_cases c2 : q = 0
        · rw [if_pos c2] at r1
          subst c2
          simp (disch := omega) only [bn_s, gd_in, if_pos, if_neg, i_lt, i_le, nI_toInt, Int32.reduceToInt, Int32.reduceSub, reduceIte, nI_clamp, nI_1, nI_add, lit_mul, lit_add, add_lit, pk_mul, pk_us, pk_un, pk_uLs, pk_uLn, nI_eqL, nI_eq, one_0, ob1_s, ob2_s, ob3_s, ob4_s, ob5_s, hj, c1]; exact r1
        · rw [if_neg c2] at r1
          simp (disch := omega) only [bn_s, gd_in, if_pos, if_neg, i_lt, i_le, nI_toInt, Int32.reduceToInt, Int32.reduceSub, reduceIte, nI_clamp, nI_1, nI_add, lit_mul, lit_add, add_lit, pk_mul, pk_us, pk_un, pk_uLs, pk_uLn, nI_eqL, nI_eq, one_0, ob1_s, ob2_s, ob3_s, ob4_s, ob5_s, hj, c1, c2, hY (300 - (e + 1)) (by omega) (by omega) n (by omega)]; exact r1
    · rw [r2 i hi]
      by_cases e1 : i = 300 - (e + 1)
      · subst e1; rw [if_neg (by omega), if_pos (by omega), pk_us]
      · rw [pk_un (by omega)]
        by_cases e2 : 300 - e ≤ i
        · rw [if_pos e2, if_pos (by omega)]
        · rw [if_neg e2, if_neg (by omega)]
    · rw [r3 t' i h1 h2, pk_un (by omega)]
theorem join_L {k k0 k1 r0 r1 : Nat} {nr sN z0 z1 y0 y1 sz pts psz : Int32} {f0 f1 R M ti me le en T lo hi F Ln Up Lo fn : Nat → Int32} {Mi : Nat → Int64} {lU lL mU mL : Int64} (hk : k ≤ 300) (h0 : RowR f0 y0 R M r0 k0) (h1 : RowR f1 y1 R M r1 k1) :
    ∀ (e n : Nat) (J : Nat → Int32), e ≤ k → e + 1 ≤ n → ∃ (J' : Nat → Int32) (n2 : Nat), n - e ≤ n2 ∧ LX6_settle_26 n sN z0 f0 z1 f1 sz ti me le en pts psz lU lL mU mL T lo hi F Ln Up Lo Mi J fn nr (nI k) (jn nr f0 f1 (k - e)) (nI (k - e)) = LX6_settle_26 n2 sN z0 f0 z1 f1 sz ti me le en pts psz lU lL mU mL T lo hi F Ln Up Lo Mi J' fn nr (nI k) (jn nr f0 f1 k) (nI k) ∧ ∀ i, J' i = if k - e ≤ i ∧ i < k then jn nr f0 f1 (i + 1) else J i := by
  intro e
  induction e with
  | zero =>
    intro n J _ hn
    exact ⟨J, n, by omega, rfl, fun i => (if_neg (by omega)).symm⟩
  | succ e ih =>
    intro n J he hn
    obtain ⟨n, rfl⟩ : ∃ x, n = x + 1 := ⟨n - 1, by omega⟩
    obtain ⟨J', n2, i1, i2, i3⟩ := ih n (upd J (k - (e + 1)) (jn nr f0 f1 (k - e))) (by omega) (by omega)
    have gj := jn_g (nr := nr) h0.gl h1.gl (k - (e + 1)) (by omega)
    have hjc := join_C (n := n) (nr := nr) (h0.gl (k - (e + 1)) (by omega)) (h1.gl (k - (e + 1)) (by omega)) gj
    have hjn : jstep nr (f0 (k - (e + 1))) (f1 (k - (e + 1))) (jn nr f0 f1 (k - (e + 1))) = jn nr f0 f1 (k - e) := by
      rw [show k - e = k - (e + 1) + 1 by omega]; rfl
    rw [hjn] at hjc
    refine ⟨J', n2, by omega, ?_, fun i => ?_⟩
    · conv => lhs; unfold LX6_settle_26 JX6_settle_26
      simp (disch := omega) only [bn_s, gd_in, if_pos, if_neg, i_lt, i_le, nI_toInt, Int32.reduceToInt, Int32.reduceSub, reduceIte, nI_clamp, nI_1, nI_add, lit_mul, lit_add, add_lit, pk_mul, pk_us, pk_un, pk_uLs, pk_uLn, nI_eqL, nI_eq, one_0, ob1_s, ob2_s, ob3_s, ob4_s, ob5_s, reading_C, rdv_n (f := f0) (show k - (e + 1) < 300 by omega), rdv_n (f := f1) (show k - (e + 1) < 300 by omega), hjc]
      rw [show k - (e + 1) + 1 = k - e by omega]; exact i2
    · rw [i3 i]
      by_cases e1 : i = k - (e + 1)
      · subst e1; rw [if_neg (by omega), if_pos (by omega), pk_us, show k - e = k - (e + 1) + 1 by omega]
      · rw [pk_un e1]
        by_cases e2 : k - e ≤ i ∧ i < k
        · rw [if_pos e2, if_pos (by omega)]
        · rw [if_neg e2, if_neg (by omega)]
theorem times_s {n a b : Nat} (ha : a ≤ 300) (hb : b ≤ 300) : FX6_times n (nI a) (nI b) = some (nI (if a < b then b else a)) := by
  unfold FX6_times FX2_size
  by_cases h : a < b <;> simp (disch := omega) only [bn_s, gd_in, if_pos, if_neg, i_lt, i_le, nI_toInt, Int32.reduceToInt, Int32.reduceSub, reduceIte, nI_clamp, nI_1, nI_add, lit_mul, lit_add, add_lit, pk_mul, pk_us, pk_un, pk_uLs, pk_uLn, nI_eqL, nI_eq, one_0, ob1_s, ob2_s, ob3_s, ob4_s, ob5_s]
theorem settle_lk {t k0 k1 m : Nat} {nr sN z0 z1 sz pts psz : Int32} {f0 f1 R M ti me le en Ms W Me Lf En T lo hi F Ln Up Lo J fn : Nat → Int32} {Mi : Nat → Int64} {lU lL mU mL : Int64}
    {pts' pcs' : Int32} {a b c d : Int64} {J' fn' T' P E fi lg : Nat → Int32} {up dn he : Nat → Int64} {n n' : Nat}
    (ht : t < 3) (h0 : RowR f0 z0 R M (3 * 0 + t) k0) (h1 : RowR f1 z1 R M (3 * 1 + t) k1) (hM : MeR t m sz ti me le en Ms W Me Lf En) (hb : ∀ i, i < 300 → k0 ≤ i → k1 ≤ i → J i = -2000000000 ∧ fn i = -2000000000) (hN : ¬ sN = nr) (hn : 1000 ≤ n) (hn' : 1000 ≤ n') :
    ∃ (p q : Nat) (g : Nat → Nat) (T2 lo2 hi2 F2 Ln2 Up2 Lo2 J2 fn2 J2' fn2' T2' P2 E2 fi2 lg2 : Nat → Int32) (Mi2 up2 dn2 he2 : Nat → Int64) (lU2 lL2 mU2 mL2 a2 b2 c2 d2 : Int64),
      q ≤ p ∧ (q = 0 ↔ p = 0) ∧ PR p T2 lo2 hi2 T2' P2 E2 ∧ PcR q p g T2' F2 Ln2 Up2 Lo2 Mi2 fi2 lg2 up2 dn2 he2 ∧
      (∀ i, i < 300 → J2 i = jn nr f0 f1 (i + 1) ∧ J2' (300 * t + i) = jn nr f0 f1 (i + 1)) ∧ (∀ i, i < 300 → fn2 i = fn2' (300 * t + i)) ∧ (∀ t' i, t' ≠ t → i < 300 → fn2' (300 * t' + i) = fn' (300 * t' + i)) ∧
      (∀ i, i < 300 → k0 ≤ i → k1 ≤ i → J2 i = -2000000000 ∧ fn2 i = -2000000000) ∧
      FX6_settle n sN z0 f0 z1 f1 sz ti me le en pts psz lU lL mU mL T lo hi F Ln Up Lo Mi J fn nr = some (nr, nI p, nI q, lU2, lL2, mU2, mL2, T2, lo2, hi2, F2, Ln2, Up2, Lo2, Mi2, J2, fn2) ∧
      FX10_joins n' nr R M J' (nI t) = some J2' ∧
      FX10_works n' pts' pcs' a b c d nr R M J' W Me En Ms T' P E fi lg up dn he (nI t) = some (nI p, nI q, a2, b2, c2, d2, J2', T2', P2, E2, fi2, lg2, up2, dn2, he2) ∧
      FX10_finishes n' pts' pcs' a b c d nr R M J' fn' W Me En Ms T' P E fi lg up dn he (nI t) = some (nI p, nI q, a2, b2, c2, d2, J2', fn2', T2', P2, E2, fi2, lg2, up2, dn2, he2) := by
  have g0 := h0.gl
  have g1 := h1.gl
  obtain ⟨kb0, kz0, _, k04, _⟩ := id h0
  obtain ⟨kb1, kz1, _, k14, _⟩ := id h1
  obtain ⟨k, hk⟩ : ∃ k, k = (if k0 < k1 then k1 else k0) := ⟨_, rfl⟩
  have hk3 : k ≤ 300 ∧ k0 ≤ k ∧ k1 ≤ k := by
    by_cases e : k0 < k1
    · rw [if_pos e] at hk; omega
    · rw [if_neg e] at hk; omega
  have hbeh : ∀ i, i < 300 → k ≤ i → jn nr f0 f1 (i + 1) = -2000000000 := fun i hi hki => jn_L (k := k) hki (by rw [k04 i hi, if_neg (by omega)]) (by rw [k14 i hi, if_neg (by omega)])
  -- joins
  obtain ⟨JC, nC, c1, c2, c3⟩ := join_L (k := k) (nr := nr) (sN := sN) (z0 := z0) (z1 := z1) (sz := sz) (pts := pts) (psz := psz) (ti := ti) (me := me) (le := le) (en := en) (T := T) (lo := lo) (hi := hi) (F := F) (Ln := Ln) (Up := Up) (Lo := Lo) (fn := fn) (Mi := Mi) (lU := lU) (lL := lL) (mU := mU) (mL := mL) hk3.1 h0 h1 k n J (by omega) (by omega)
  rw [show k - k = 0 by omega] at c2 c3
  obtain ⟨JM, m1, m2⟩ := joins_M (n := n') (nr := nr) (J := J') (by omega) ht h0 h1
  have hJ : ∀ i, i < 300 → JC i = jn nr f0 f1 (i + 1) := fun i hi => by
    rw [c3 i]
    by_cases e : i < k
    · rw [if_pos (by omega)]
    · rw [if_neg (by omega), hbeh i hi (by omega)]
      by_cases e2 : k0 < k1
      · rw [if_pos e2] at hk; exact (hb i hi (by omega) (by omega)).1
      · rw [if_neg e2] at hk; exact (hb i hi (by omega) (by omega)).1
  -- points
  have hPR0 : PR 0 T lo hi T' P E := ⟨by omega, fun i h => by omega, fun i j _ h => by omega⟩
  obtain ⟨nC, rfl⟩ : ∃ x, nC = x + 1 := ⟨nC - 1, by omega⟩
  obtain ⟨p, n2, T2, lo2, hi2, T2', P2, E2, r1, r2, r3, r4⟩ := points_lk (nr := nr) (sz0 := 0) (pc := pcs') (J := JC) (J' := JM) (R := R) (M := M) (fi := fi) (lg := lg) (up := up) (dn := dn) (he := he) (a := a) (b := b) (c := c) (d := d) ht hM (fun i hi => by rw [hJ i hi, m2 i hi]) (fun i hi => by rw [hJ i hi]; exact jn_g g0 g1 (i + 1) (by omega)) m nC n' 0 T lo hi T' P E (by omega) (by omega) (by have := hM.1; omega) (by have := hM.1; omega) hPR0 (fun k i h => by omega)
  rw [show m - m = 0 by omega] at r3 r4
  have hm20 := hM.1
  -- pieces
  obtain ⟨q, g, F2, Ln2, Up2, Lo2, fi2, lg2, Mi2, up2, dn2, he2, lU2, lL2, mU2, mL2, a2, b2, c2', d2, l1, l2, l3, l4, l5⟩ := lay_lk (nr := nr) (R := R) (M := M) (J := JM) (W := W) (Me := Me) (En := En) (Ms := Ms) r1 20 nC n2 0 0 (fun _ => 0) F Ln Up Lo fi lg Mi up dn he lU lL mU mL a b c d (by have := r1.1; omega) (by omega) (by omega) (by omega) (by omega) (by omega) ⟨fun k h => by omega, fun k k' _ h => by omega⟩
  have hp20 := r1.1
  -- heights
  have hYe : ∀ i : Nat, ∃ y : Int64, i < 300 → y.toInt.natAbs ≤ 400000000 ∧ (0 < q → (∀ n, 40 ≤ n → FX1_height n (nI q) F2 Up2 Lo2 Mi2 (nI i) = some y.toInt32) ∧ ∀ n, 40 ≤ n → FX10_base n (nI q) T2' fi2 up2 dn2 he2 (nI i) = some y) := fun i => by
    by_cases hi : i < 300
    · by_cases hq : 0 < q
      · obtain ⟨y, y1, y2, y3⟩ := base_lk (x := nI i) r1 l3 l1 hq (by rw [nI_toInt (by omega)]; omega)
        exact ⟨y, fun _ => ⟨y1, fun _ => ⟨y2, y3⟩⟩⟩
      · exact ⟨0, fun _ => ⟨by decide, fun h => absurd h hq⟩⟩
    · exact ⟨0, fun h => absurd h hi⟩
  obtain ⟨Y, hY⟩ : ∃ Y : Nat → Int64, ∀ i : Nat, i < 300 → (Y i).toInt.natAbs ≤ 400000000 ∧ (0 < q → (∀ n, 40 ≤ n → FX1_height n (nI q) F2 Up2 Lo2 Mi2 (nI i) = some (Y i).toInt32) ∧ ∀ n, 40 ≤ n → FX10_base n (nI q) T2' fi2 up2 dn2 he2 (nI i) = some (Y i)) := ⟨fun i => Classical.choose (hYe i), fun i => Classical.choose_spec (hYe i)⟩
  obtain ⟨fn2, f1', f2'⟩ := fin_C (k := k) (sN := sN) (z0 := z0) (z1 := z1) (sz := sz) (pts := nI p) (x1 := nr) (f0 := f0) (f1 := f1) (ti := ti) (me := me) (le := le) (en := en) (T := T2) (lo := lo2) (hi := hi2) (Ln := Ln2) (J := JC) (lU := lU2) (lL := lL2) (mU := mU2) (mL := mL2) (n0 := 0) (m := 0) hk3.1 (by omega) (fun i hi => ⟨(hY i hi).1, fun h => ((hY i hi).2 h).1⟩) k nC fn (by omega) (by omega)
  rw [show k - k = 0 by omega] at f1' f2'
  obtain ⟨fn2', g1', g2', g3'⟩ := fin_M (pts := nI p) (nr := nr) (R := R) (M := M) (J := JM) (W := W) (Me := Me) (En := En) (Ms := Ms) (P := P2) (E := E2) (lg := lg2) (a := a2) (b := b2) (c := c2') (d := d2) ht (by omega) (fun i hi h => ((hY i hi).2 h).2) 300 n' fn' (by omega) (by omega)
  have hW : FX10_works n' pts' pcs' a b c d nr R M J' W Me En Ms T' P E fi lg up dn he (nI t) = some (nI p, nI q, a2, b2, c2', d2, JM, T2', P2, E2, fi2, lg2, up2, dn2, he2) := by
    unfold FX10_works
    rw [m1, ob1_s]
    exact r4.trans l5
  refine ⟨p, q, g, T2, lo2, hi2, F2, Ln2, Up2, Lo2, JC, fn2, JM, fn2', T2', P2, E2, fi2, lg2, Mi2, up2, dn2, he2, lU2, lL2, mU2, mL2, a2, b2, c2', d2, l1, l2, r1, l3, fun i hi => ⟨hJ i hi, m2 i hi⟩, fun i hi => ?_, g3', fun i hi e0 e1 => ?_, ?_, m1, hW, ?_⟩
  · have G := g2' i hi
    rw [if_pos (by omega)] at G
    rw [f2' i, G, m2 i hi]
    by_cases e : i < k
    · rw [if_pos (by omega), hJ i hi]
    · rw [if_neg (by omega), hbeh i hi (by omega)]
      have : fn i = -2000000000 := (hb i hi (by omega) (by omega)).2
      rw [this]; unfold fnv; rw [if_pos rfl]
  · have hki : k ≤ i := by
      by_cases e : k0 < k1
      · rw [if_pos e] at hk; omega
      · rw [if_neg e] at hk; omega
    refine ⟨by rw [hJ i hi, hbeh i hi hki], ?_⟩
    rw [f2' i, if_neg (by omega)]
    exact (hb i hi e0 e1).2
  · unfold FX6_settle
    rw [if_neg hN, kz0, kz1, times_s kb0 kb1, ob1_s, bn_s, ← hk, if_neg (show ¬ (300 : Int32) < nI k from nI_nlt (b := k) (a := 300) hk3.1 (by omega))]
    rw [kz0, kz1] at c2 f1'
    refine c2.trans ?_
    unfold LX6_settle_26 JX6_settle_26 FX6_takePoints FX1_clear FX1_lay
    rw [hM.2.1] at f1' ⊢
    simp (disch := omega) only [bn_s, gd_in, if_pos, if_neg, i_lt, i_le, nI_toInt, Int32.reduceToInt, Int32.reduceSub, reduceIte, nI_clamp, nI_1, nI_add, lit_mul, lit_add, add_lit, pk_mul, pk_us, pk_un, pk_uLs, pk_uLn, nI_eqL, nI_eq, one_0, ob1_s, ob2_s, ob3_s, ob4_s, ob5_s, ob1_s, ob2_s, ob3_s, ob4_s, ob5_s, ob6_s, ob7_s, ob8_s, ob9_s, ob10_s, ob11_s, ob12_s, ob13_s, ob14_s, ob15_s, ob16_s, ob17_s, ob18_s, ob19_s, ob20_s, ob21_s, ob22_s, ob23_s, ob24_s, show LX6_takePoints_9 nC (nI m) ti me le en 0 0 T lo hi JC 0 = _ from r3, show LX1_lay_4 nC (nI p) 0 lU lL mU mL T2 lo2 hi2 F Ln Up Lo Mi 0 0 = _ from l4]
    exact f1'
  · unfold FX10_finishes
    rw [hW, ob15_s]
    exact g1'
