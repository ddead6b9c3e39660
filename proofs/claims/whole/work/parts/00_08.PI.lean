/-- the measures of both: m of them -/
def MeR (t m : Nat) (sz : Int32) (ti me le en Ms W Me Lf En : Nat → Int32) : Prop :=
  m ≤ 20 ∧ sz = nI m ∧ Ms t = nI m ∧ (∀ i, i < m → ti i = W (20 * t + i) ∧ me i = Me (20 * t + i) ∧ le i = Lf (20 * t + i) ∧ en i = En (20 * t + i) ∧ (0 ≤ (W (20 * t + i)).toInt ∧ (W (20 * t + i)).toInt < 300) ∧ (-100000 ≤ (Me (20 * t + i)).toInt ∧ (Me (20 * t + i)).toInt ≤ 100000) ∧ (0 ≤ (En (20 * t + i)).toInt ∧ (En (20 * t + i)).toInt ≤ 1000)) ∧ ∀ i j, i < j → j < m → (W (20 * t + i)).toInt < (W (20 * t + j)).toInt
theorem tell_s {n m i : Nat} {ti me le en : Nat → Int32} (hi : i < m) (hm : m ≤ 20) : FX0_tell n (nI m) ti me le en (nI i) 0 = some (ti i) ∧ FX0_tell n (nI m) ti me le en (nI i) 1 = some (me i) ∧ FX0_tell n (nI m) ti me le en (nI i) 2 = some (le i) ∧ FX0_tell n (nI m) ti me le en (nI i) 3 = some (en i) := by
  unfold FX0_tell
  refine ⟨?_, ?_, ?_, ?_⟩
  · simp (disch := omega) only [bn_s, gd_in, if_pos, if_neg, i_lt, i_le, nI_toInt, Int32.reduceToInt, Int32.reduceSub, reduceIte, nI_clamp, nI_1, nI_add, lit_mul, lit_add, add_lit, pk_mul, pk_us, pk_un, pk_uLs, pk_uLn, nI_eqL, nI_eq, one_0, ob1_s, ob2_s, ob3_s, ob4_s, ob5_s]
  · simp (disch := omega) only [bn_s, gd_in, if_pos, if_neg, i_lt, i_le, nI_toInt, Int32.reduceToInt, Int32.reduceSub, reduceIte, nI_clamp, nI_1, nI_add, lit_mul, lit_add, add_lit, pk_mul, pk_us, pk_un, pk_uLs, pk_uLn, nI_eqL, nI_eq, one_0, ob1_s, ob2_s, ob3_s, ob4_s, ob5_s]
  · rw [if_neg (show ¬ (2 : Int32) = 0 by decide), if_neg (show ¬ (2 : Int32) = 1 by decide)]; simp (disch := omega) only [bn_s, gd_in, if_pos, if_neg, i_lt, i_le, nI_toInt, Int32.reduceToInt, Int32.reduceSub, reduceIte, nI_clamp, nI_1, nI_add, lit_mul, lit_add, add_lit, pk_mul, pk_us, pk_un, pk_uLs, pk_uLn, nI_eqL, nI_eq, one_0, ob1_s, ob2_s, ob3_s, ob4_s, ob5_s]
  · rw [if_neg (show ¬ (3 : Int32) = 0 by decide), if_neg (show ¬ (3 : Int32) = 1 by decide), if_neg (show ¬ (3 : Int32) = 2 by decide)]; simp (disch := omega) only [bn_s, gd_in, if_pos, if_neg, i_lt, i_le, nI_toInt, Int32.reduceToInt, Int32.reduceSub, reduceIte, nI_clamp, nI_1, nI_add, lit_mul, lit_add, add_lit, pk_mul, pk_us, pk_un, pk_uLs, pk_uLn, nI_eqL, nI_eq, one_0, ob1_s, ob2_s, ob3_s, ob4_s, ob5_s]
theorem joinedC {n i : Nat} {J : Nat → Int32} (hi : i < 300) : FX6_joinedAt n J (nI i) = some (J i) := by
  unfold FX6_joinedAt; simp (disch := omega) only [bn_s, gd_in, if_pos, if_neg, i_lt, i_le, nI_toInt, Int32.reduceToInt, Int32.reduceSub, reduceIte, nI_clamp, nI_1, nI_add, lit_mul, lit_add, add_lit, pk_mul, pk_us, pk_un, pk_uLs, pk_uLn, nI_eqL, nI_eq, one_0, ob1_s, ob2_s, ob3_s, ob4_s, ob5_s]
theorem joinedM {n t i : Nat} {J : Nat → Int32} (ht : t < 3) (hi : i < 300) : FX10_joinedAt n J (nI t) (nI i) = some (J (300 * t + i)) := by
  unfold FX10_joinedAt; simp (disch := omega) only [bn_s, gd_in, if_pos, if_neg, i_lt, i_le, nI_toInt, Int32.reduceToInt, Int32.reduceSub, reduceIte, nI_clamp, nI_1, nI_add, lit_mul, lit_add, add_lit, pk_mul, pk_us, pk_un, pk_uLs, pk_uLn, nI_eqL, nI_eq, one_0, ob1_s, ob2_s, ob3_s, ob4_s, ob5_s]
theorem points_lk {t m : Nat} {nr : Int32} {sz sz0 pc : Int32} {ti me le en Ms W Me Lf En J J' R M fi lg : Nat → Int32} {up dn he : Nat → Int64} {a b c d : Int64} (ht : t < 3) (hM : MeR t m sz ti me le en Ms W Me Lf En) (hJ : ∀ i, i < 300 → J i = J' (300 * t + i)) (hg : ∀ i, i < 300 → gl (J i)) :
    ∀ (e n n' p : Nat) (T lo hi T' P E : Nat → Int32), e ≤ m → p ≤ m - e → e + 5 ≤ n → e + 1 ≤ n' → PR p T lo hi T' P E → (∀ k i, k < p → m - e ≤ i → i < m → (T' k).toInt < (W (20 * t + i)).toInt) →
    ∃ (p2 n2 : Nat) (T2 lo2 hi2 T2' P2 E2 : Nat → Int32), PR p2 T2 lo2 hi2 T2' P2 E2 ∧ n' - e - 1 ≤ n2 ∧ LX6_takePoints_9 n (nI m) ti me le en (nI p) sz0 T lo hi J (nI (m - e)) = some (nI p2, sz0, T2, lo2, hi2) ∧
      LX10_works_12 n' (nI p) pc a b c d nr R M J' W Me En Ms T' P E fi lg up dn he (nI t) (nI (m - e)) = LX10_works_123 n2 (nI p2) 0 a b c d nr R M J' W Me En Ms T2' P2 E2 fi lg up dn he 0 := by
  obtain ⟨hm, _, hMs, hA, hI⟩ := hM
  intro e
  induction e with
  | zero =>
    intro n n' p T lo hi T' P E _ hp hn hn' hR hin
    obtain ⟨n, rfl⟩ : ∃ x, n = x + 1 := ⟨n - 1, by omega⟩
    obtain ⟨n', rfl⟩ : ∃ x, n' = x + 1 := ⟨n' - 1, by omega⟩
    refine ⟨p, n', T, lo, hi, T', P, E, hR, by omega, ?_, ?_⟩
    · unfold LX6_takePoints_9 JX6_takePoints_9 FX0_size; simp (disch := omega) only [bn_s, gd_in, if_pos, if_neg, i_lt, i_le, nI_toInt, Int32.reduceToInt, Int32.reduceSub, reduceIte, nI_clamp, nI_1, nI_add, lit_mul, lit_add, add_lit, pk_mul, pk_us, pk_un, pk_uLs, pk_uLn, nI_eqL, nI_eq, one_0, ob1_s, ob2_s, ob3_s, ob4_s, ob5_s]
    · unfold LX10_works_12 JX10_works_12; simp (disch := omega) only [bn_s, gd_in, if_pos, if_neg, i_lt, i_le, nI_toInt, Int32.reduceToInt, Int32.reduceSub, reduceIte, nI_clamp, nI_1, nI_add, lit_mul, lit_add, add_lit, pk_mul, pk_us, pk_un, pk_uLs, pk_uLn, nI_eqL, nI_eq, one_0, ob1_s, ob2_s, ob3_s, ob4_s, ob5_s, hMs]
  | succ e ih =>
    intro n n' p T lo hi T' P E he hp hn hn' hR hin
    obtain ⟨n, rfl⟩ : ∃ x, n = x + 1 := ⟨n - 1, by omega⟩
    obtain ⟨n', rfl⟩ : ∃ x, n' = x + 1 := ⟨n' - 1, by omega⟩
    obtain ⟨a1, a2, a3, a4, a5, a6, a7⟩ := hA (m - (e + 1)) (by omega)
    obtain ⟨t0, t1, _, t3⟩ := tell_s (n := n) (i := m - (e + 1)) (ti := ti) (me := me) (le := le) (en := en) (by omega) hm
    obtain ⟨w, hw, hwe⟩ := of_lt (x := W (20 * t + (m - (e + 1)))) (N := 300) (by omega) (by omega) (by omega)
    have jc := joinedC (n := n) (J := J) hw
    have jm := joinedM (n := n') (J := J') ht hw
    rw [← hJ w hw] at jm
    have gj := hg w hw
    by_cases hL : J w = -2000000000
    · obtain ⟨p2, n2, T2, lo2, hi2, T2', P2, E2, r1, r2, r3, r4⟩ := ih n n' p T lo hi T' P E (by omega) (by omega) (by omega) (by omega) hR (fun k i h1 h2 h3 => hin k i h1 (by omega) h3)
      refine ⟨p2, n2, T2, lo2, hi2, T2', P2, E2, r1, by omega, ?_, ?_⟩
      · unfold LX6_takePoints_9 JX6_takePoints_9 FX0_size FX6_pointOf
        simp (disch := omega) only [bn_s, gd_in, if_pos, if_neg, i_lt, i_le, nI_toInt, Int32.reduceToInt, Int32.reduceSub, reduceIte, nI_clamp, nI_1, nI_add, lit_mul, lit_add, add_lit, pk_mul, pk_us, pk_un, pk_uLs, pk_uLn, nI_eqL, nI_eq, one_0, ob1_s, ob2_s, ob3_s, ob4_s, ob5_s, t0, a1, hwe, jc, hL]
        rw [show m - (e + 1) + 1 = m - e by omega]; exact r3
      · unfold LX10_works_12 JX10_works_12
        simp (disch := omega) only [bn_s, gd_in, if_pos, if_neg, i_lt, i_le, nI_toInt, Int32.reduceToInt, Int32.reduceSub, reduceIte, nI_clamp, nI_1, nI_add, lit_mul, lit_add, add_lit, pk_mul, pk_us, pk_un, pk_uLs, pk_uLn, nI_eqL, nI_eq, one_0, ob1_s, ob2_s, ob3_s, ob4_s, ob5_s, hMs, hwe, jm, hL]
        rw [show m - (e + 1) + 1 = m - e by omega]; exact r4
    · have rj := gl_r gj hL
      unfold rng at rj
      have ep : (Me (20 * t + (m - (e + 1))) - J w).toInt = (Me (20 * t + (m - (e + 1)))).toInt - (J w).toInt := sub_t (by omega) (by omega)
      have hpL : ¬ (Me (20 * t + (m - (e + 1))) - J w) = -2000000000 := fun h9 => by
        have := congrArg Int32.toInt h9; rw [ep, LOSTt] at this; omega
      have hR' : PR (p + 1) (upd T p (nI w)) (upd lo p (Me (20 * t + (m - (e + 1))) - J w - En (20 * t + (m - (e + 1))))) (upd hi p (Me (20 * t + (m - (e + 1))) - J w + En (20 * t + (m - (e + 1))))) (upd T' p (nI w)) (upd P p (Me (20 * t + (m - (e + 1))) - J w)) (upd E p (En (20 * t + (m - (e + 1))))) := by
        refine ⟨by omega, fun i hi => ?_, fun i j hij hj => ?_⟩
        · by_cases e1 : i = p
          · subst e1
            simp only [pk_us]
            rw [nI_toInt (by omega), ep]
            exact ⟨trivial, trivial, trivial, by omega, by omega, a7⟩
          · simp only [pk_un e1]; exact hR.2.1 i (by omega)
        · have e1 : i ≠ p := by omega
          rw [pk_un e1]
          by_cases e2 : j = p
          · subst e2; rw [pk_us, ← hwe]; exact hin i (m - (e + 1)) (by omega) (by omega) (by omega)
          · rw [pk_un e2]; exact hR.2.2 i j hij (by omega)
      obtain ⟨p2, n2, T2, lo2, hi2, T2', P2, E2, r1, r2, r3, r4⟩ := ih n n' (p + 1) _ _ _ _ _ _ (by omega) (by omega) (by omega) (by omega) hR' (fun k i h1 h2 h3 => by
        by_cases e1 : k = p
        · subst e1; rw [pk_us, ← hwe]; exact hI (m - (e + 1)) i (by omega) h3
        · rw [pk_un e1]; exact hin k i (by omega) (by omega) h3)
      refine ⟨p2, n2, T2, lo2, hi2, T2', P2, E2, r1, by omega, ?_, ?_⟩
      · unfold LX6_takePoints_9 JX6_takePoints_9 FX0_size FX6_pointOf FX1_addPoint
        simp (disch := omega) only [bn_s, gd_in, if_pos, if_neg, i_lt, i_le, nI_toInt, Int32.reduceToInt, Int32.reduceSub, reduceIte, nI_clamp, nI_1, nI_add, lit_mul, lit_add, add_lit, pk_mul, pk_us, pk_un, pk_uLs, pk_uLn, nI_eqL, nI_eq, one_0, ob1_s, ob2_s, ob3_s, ob4_s, ob5_s, t0, t1, t3, a1, a2, a4, hwe, jc, hL, hpL]
        rw [show m - (e + 1) + 1 = m - e by omega]; exact r3
      · unfold LX10_works_12 JX10_works_12
        simp (disch := omega) only [bn_s, gd_in, if_pos, if_neg, i_lt, i_le, nI_toInt, Int32.reduceToInt, Int32.reduceSub, reduceIte, nI_clamp, nI_1, nI_add, lit_mul, lit_add, add_lit, pk_mul, pk_us, pk_un, pk_uLs, pk_uLn, nI_eqL, nI_eq, one_0, ob1_s, ob2_s, ob3_s, ob4_s, ob5_s, hMs, hwe, jm, hL]
        rw [show m - (e + 1) + 1 = m - e by omega]; exact r4
