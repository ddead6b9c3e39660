theorem lN0 : lN 0 = 0 := rfl
theorem lN1 : lN 1 = 1 := rfl
theorem lN_ne {w : Nat} (h : 0 < w) (h2 : w < 2 ^ 63) : ¬ lN w = 0 := fun e => by
  have := (pk_lEQ h2 (show 0 < 2 ^ 63 by omega)).mp (e.trans lN0.symm); omega
theorem cd0 {n v s : Nat} (hs : s < 100) : LX1_commonDivisor_9 (n + 1) (lN v) (lN 0) (nI s) = some (lN v) ∧ LX10_common_17 (n + 1) (lN v) (lN 0) = some (lN v) := by
  unfold LX1_commonDivisor_9 JX1_commonDivisor_9 LX10_common_17 JX10_common_17
  rw [if_pos (cmp_eq.mpr lN0), if_pos (cmp_eq.mpr lN0)]
  refine ⟨?_, rfl⟩
  split <;> rfl
theorem cd1 {n n' v w s : Nat} (hs : s < 64) (hv : v < 2 ^ 63) (hw : 0 < w) (hw2 : w < 2 ^ 63) : LX1_commonDivisor_9 (n + 1) (lN v) (lN w) (nI s) = LX1_commonDivisor_9 n (lN w) (lN (v % w)) (nI (s + 1)) ∧ LX10_common_17 (n' + 1) (lN v) (lN w) = LX10_common_17 n' (lN w) (lN (v % w)) := by
  have h0 := lN_ne hw hw2
  have h1 : ¬ lg_cmp (lN w) 0 = 0 := fun h => h0 (cmp_eq.mp h)
  constructor
  · conv => lhs; unfold LX1_commonDivisor_9 JX1_commonDivisor_9
    simp (disch := omega) only [bn_s, gd_in, if_pos, if_neg, i_lt, i_le, nI_toInt, Int32.reduceToInt, Int32.reduceSub, reduceIte, nI_clamp, nI_1, nI_add, lit_mul, lit_add, add_lit, pk_mul, pk_us, pk_un, pk_uLs, pk_uLn, nI_eqL, nI_eq, one_0, ob1_s, ob2_s, ob3_s, ob4_s, ob5_s, if_neg h1, gd_t h0, pk_lRem hv hw hw2]
  · conv => lhs; unfold LX10_common_17 JX10_common_17
    simp (disch := omega) only [bn_s, gd_in, if_pos, if_neg, i_lt, i_le, nI_toInt, Int32.reduceToInt, Int32.reduceSub, reduceIte, nI_clamp, nI_1, nI_add, lit_mul, lit_add, add_lit, pk_mul, pk_us, pk_un, pk_uLs, pk_uLn, nI_eqL, nI_eq, one_0, ob1_s, ob2_s, ob3_s, ob4_s, ob5_s, if_neg h1, gd_t h0, pk_lRem hv hw hw2]
theorem gcd_lk : ∀ (m v w s n n' : Nat), w < 2 ^ m → m ≤ 20 → v < 2 ^ 63 → s + 2 * m ≤ 60 → 2 * m + 2 ≤ n → 2 * m + 2 ≤ n' →
    LX1_commonDivisor_9 n (lN v) (lN w) (nI s) = some (lN (Nat.gcd v w)) ∧ LX10_common_17 n' (lN v) (lN w) = some (lN (Nat.gcd v w)) := by
  intro m
  induction m with
  | zero =>
    intro v w s n n' hw _ hv hs hn hn'
    obtain ⟨n, rfl⟩ : ∃ m, n = m + 1 := ⟨n - 1, by omega⟩
    obtain ⟨n', rfl⟩ : ∃ m, n' = m + 1 := ⟨n' - 1, by omega⟩
    have : w = 0 := by omega
    subst this
    rw [Nat.gcd_zero_right]
    exact ⟨(cd0 (by omega)).1, (cd0 (s := 0) (by omega)).2⟩
  | succ m ih =>
    intro v w s n n' hw hm hv hs hn hn'
    obtain ⟨n, rfl⟩ : ∃ m, n = m + 2 := ⟨n - 2, by omega⟩
    obtain ⟨n', rfl⟩ : ∃ m, n' = m + 2 := ⟨n' - 2, by omega⟩
    have hp : 2 ^ (m + 1) = 2 * 2 ^ m := by rw [Nat.pow_succ]; omega
    have hp2 : 2 ^ (m + 1) ≤ 2 ^ 20 := Nat.pow_le_pow_right (by omega) (by omega)
    by_cases h0 : w = 0
    · subst h0
      rw [Nat.gcd_zero_right]
      exact ⟨(cd0 (by omega)).1, (cd0 (s := 0) (by omega)).2⟩
    · have c := cd1 (n := n + 1) (n' := n' + 1) (s := s) (v := v) (w := w) (by omega) hv (by omega) (by omega)
      rw [c.1, c.2]
      have hlt := Nat.mod_lt v (show w > 0 by omega)
      by_cases h1 : v % w = 0
      · rw [h1]
        have hg : Nat.gcd v w = w := by
          rw [Nat.gcd_comm]; exact Nat.gcd_eq_left (Nat.dvd_of_mod_eq_zero h1)
        rw [hg]
        exact ⟨(cd0 (by omega)).1, (cd0 (s := 0) (by omega)).2⟩
      · have c2 := cd1 (n := n) (n' := n') (s := s + 1) (v := w) (w := v % w) (by omega) (by omega) (by omega) (by omega)
        rw [c2.1, c2.2]
        have hlt2 := Nat.mod_lt w (show v % w > 0 by omega)
        have h3 := Nat.div_add_mod w (v % w)
        have h4 : 1 ≤ w / (v % w) := Nat.div_pos (by omega) (by omega)
        have h5 : v % w ≤ v % w * (w / (v % w)) := Nat.le_mul_of_pos_right _ h4
        have hg : Nat.gcd v w = Nat.gcd (v % w) (w % (v % w)) := by
          rw [Nat.gcd_comm v w, Nat.gcd_rec w v, Nat.gcd_rec (v % w) w, Nat.gcd_comm]
        rw [hg]
        exact ih (v % w) (w % (v % w)) (s + 1 + 1) n n' (by omega) (by omega) (by omega) (by omega) (by omega) (by omega)
theorem common_lk {u d : Int64} {n n' : Nat} (hu : -262000 ≤ u.toInt ∧ u.toInt ≤ 262000) (hd : 1 ≤ d.toInt ∧ d.toInt ≤ 299) (hn : 50 ≤ n) (hn' : 50 ≤ n') :
    ∃ g : Nat, 1 ≤ g ∧ g ≤ 299 ∧ FX1_commonDivisor n (if 0 < u then u else -u) d = some (lN g) ∧ FX10_common n' u d = some (lN g) ∧ (-262000 ≤ (u / lN g).toInt ∧ (u / lN g).toInt ≤ 262000) ∧ (1 ≤ (d / lN g).toInt ∧ (d / lN g).toInt ≤ 299) := by
  obtain ⟨w, hw, rfl⟩ : ∃ w : Nat, w < 300 ∧ d = lN w := ⟨d.toInt.toNat, by omega, l_eq.mpr (by rw [pk_lT (by omega)]; omega)⟩
  rw [pk_lT (by omega)] at hd
  have e1 : (if 0 < u then u else -u) = lN u.toInt.natAbs := by
    by_cases h : 0 < u
    · rw [if_pos h]; have := l_lt.mp h; rw [t64_0] at this; exact l_eq.mpr (by rw [pk_lT (by omega)]; omega)
    · rw [if_neg h]; have := mt l_lt.mpr h; rw [t64_0] at this
      refine l_eq.mpr ?_
      rw [pk_lT (by omega), Int64.toInt_neg]
      have : (-u.toInt).bmod (2 ^ 64) = -u.toInt := Int.bmod_eq_of_le (by omega) (by omega)
      rw [this]; omega
  obtain ⟨h1, h2⟩ := gcd_lk 9 u.toInt.natAbs w 0 n n' (by omega) (by omega) (by omega) (by omega) (by omega) (by omega)
  have hg0 : 0 < Nat.gcd u.toInt.natAbs w := Nat.gcd_pos_of_pos_right _ (by omega)
  have hg1 : Nat.gcd u.toInt.natAbs w ≤ w := Nat.gcd_le_right _ (by omega)
  have hg2 := Nat.gcd_dvd_right u.toInt.natAbs w
  generalize Nat.gcd u.toInt.natAbs w = g at *
  refine ⟨g, by omega, by omega, by rw [e1]; exact h1, ?_, ?_, ?_⟩
  · unfold FX10_common
    by_cases h : 0 ≤ u.toInt
    · have e2 : u = lN u.toInt.natAbs := l_eq.mpr (by rw [pk_lT (by omega)]; omega)
      rw [if_pos (cmp_ge.mpr (by rw [t64_0]; exact h))]
      conv => lhs; rw [e2]
      exact h2
    · rw [if_neg (fun h9 => h (by have := cmp_ge.mp h9; rw [t64_0] at this; exact this)), bn_s]
      rw [if_neg (fun h9 => h (by have := l_lt.mp h9; rw [t64_0] at this; omega))] at e1
      rw [e1]; exact h2
  · have e3 : (u / lN g).toInt = u.toInt.tdiv g := by
      rw [Int64.toInt_div, pk_lT (by omega)]
      have h5 : (u.toInt.tdiv g).natAbs ≤ u.toInt.natAbs := by rw [Int.natAbs_tdiv]; exact Nat.div_le_self _ _
      exact Int.bmod_eq_of_le (by omega) (by omega)
    rw [e3]
    have h5 : (u.toInt.tdiv g).natAbs ≤ u.toInt.natAbs := by rw [Int.natAbs_tdiv]; exact Nat.div_le_self _ _
    omega
  · rw [pk_lDiv (by omega) (by omega) (by omega)]
    have h6 : 1 ≤ w / g := Nat.div_pos hg1 hg0
    have h7 : w / g ≤ w := Nat.div_le_self _ _
    rw [pk_lT (by omega)]; omega
theorem mul_b {a b : Int} {A B : Nat} (ha : a.natAbs ≤ A) (hb : b.natAbs ≤ B) : (a * b).natAbs ≤ A * B := by
  rw [Int.natAbs_mul]; exact Nat.mul_le_mul ha hb
theorem val_b {x t : Int32} {U D : Int64} (hx : x.toInt.natAbs ≤ 131000) (ht : 0 ≤ t.toInt ∧ t.toInt < 300) (hU : -262000 ≤ U.toInt ∧ U.toInt ≤ 262000) (hD : 1 ≤ D.toInt ∧ D.toInt ≤ 299) :
    (x.toInt64 * D - U * t.toInt64).toInt.natAbs ≤ 118000000 := by
  have h1 := mul_b (A := 131000) (B := 299) hx (show D.toInt.natAbs ≤ 299 by omega)
  have h2 := mul_b (A := 262000) (B := 299) (show U.toInt.natAbs ≤ 262000 by omega) (show t.toInt.natAbs ≤ 299 by omega)
  have e1 : (x.toInt64 * D).toInt = x.toInt * D.toInt := by rw [mul64] <;> rw [Int32.toInt_toInt64] <;> omega
  have e2 : (U * t.toInt64).toInt = U.toInt * t.toInt := by rw [mul64] <;> rw [Int32.toInt_toInt64] <;> omega
  rw [sub64] <;> rw [e1, e2] <;> omega
theorem PR.lb {p i : Nat} {T lo hi T' P E : Nat → Int32} (h : PR p T lo hi T' P E) (hi' : i < p) : (P i - E i).toInt.natAbs ≤ 131000 ∧ (P i + E i).toInt.natAbs ≤ 131000 := by
  obtain ⟨a1, a2, a3, a4, a5, a6⟩ := h.2.1 i hi'
  have e5 : (P i - E i).toInt = (P i).toInt - (E i).toInt := sub_t (by omega) (by omega)
  have e6 : (P i + E i).toInt = (P i).toInt + (E i).toInt := add_t (by omega) (by omega)
  omega
theorem mid_lk {p fr to k : Nat} {T lo hi T' P E fi le : Nat → Int32} {up dn he : Nat → Int64} {a b c d : Int64} (h : PR p T lo hi T' P E) (hto : to ≤ p) (hk : k < 20) (hU : -262000 ≤ (up k).toInt ∧ (up k).toInt ≤ 262000) (hD : 1 ≤ (dn k).toInt ∧ (dn k).toInt ≤ 299) :
    ∀ (e n n' : Nat) (x y : Int64), e ≤ to → fr < to - e → e + 1 ≤ n → e + 1 ≤ n' → x.toInt.natAbs ≤ 118000000 → y.toInt.natAbs ≤ 118000000 →
    ∃ z : Int64, z.toInt.natAbs ≤ 236000000 ∧ LX1_middleOf_49 n T lo hi (nI to) (up k) (dn k) x y (nI (to - e)) = some z ∧ LX10_line_131 n' a b c d T' P E fi le up dn he (nI k) (nI fr) (nI to) y x (nI (to - e)) = some (a, b, c, d, up, dn, vp_updL he k z) := by
  have hp := h.1
  intro e
  induction e with
  | zero =>
    intro n n' x y _ _ hn hn' hx hy
    obtain ⟨n, rfl⟩ : ∃ m, n = m + 1 := ⟨n - 1, by omega⟩
    obtain ⟨n', rfl⟩ : ∃ m, n' = m + 1 := ⟨n' - 1, by omega⟩
    refine ⟨x + y, ?_, ?_, ?_⟩
    · rw [add64] <;> omega
    · unfold LX1_middleOf_49 JX1_middleOf_49; simp (disch := omega) only [bn_s, gd_in, if_pos, if_neg, i_lt, i_le, nI_toInt, Int32.reduceToInt, Int32.reduceSub, reduceIte, nI_clamp, nI_1, nI_add, lit_mul, lit_add, add_lit, pk_mul, pk_us, pk_un, pk_uLs, pk_uLn, nI_eqL, nI_eq, one_0, ob1_s, ob2_s, ob3_s, ob4_s, ob5_s]
    · unfold LX10_line_131 JX10_line_131; simp (disch := omega) only [bn_s, gd_in, if_pos, if_neg, i_lt, i_le, nI_toInt, Int32.reduceToInt, Int32.reduceSub, reduceIte, nI_clamp, nI_1, nI_add, lit_mul, lit_add, add_lit, pk_mul, pk_us, pk_un, pk_uLs, pk_uLn, nI_eqL, nI_eq, one_0, ob1_s, ob2_s, ob3_s, ob4_s, ob5_s]; rw [Int64.add_comm]
  | succ e ih =>
    intro n n' x y he hfr hn hn' hx hy
    obtain ⟨n, rfl⟩ : ∃ m, n = m + 1 := ⟨n - 1, by omega⟩
    obtain ⟨n', rfl⟩ : ∃ m, n' = m + 1 := ⟨n' - 1, by omega⟩
    obtain ⟨a1, a2, a3, a4, a5, a6⟩ := h.2.1 (to - (e + 1)) (by omega)
    have hlb := h.lb (show to - (e + 1) < p by omega)
    have v1 := val_b (U := up k) (D := dn k) hlb.1 a4 hU hD
    have v2 := val_b (U := up k) (D := dn k) hlb.2 a4 hU hD
    unfold LX1_middleOf_49 JX1_middleOf_49 LX10_line_131 JX10_line_131 JX10_line_233
    have hne : ¬ (to - (e + 1) = fr) := by omega
    simp (disch := omega) only [bn_s, gd_in, if_pos, if_neg, i_lt, i_le, nI_toInt, Int32.reduceToInt, Int32.reduceSub, reduceIte, nI_clamp, nI_1, nI_add, lit_mul, lit_add, add_lit, pk_mul, pk_us, pk_un, pk_uLs, pk_uLn, nI_eqL, nI_eq, one_0, ob1_s, ob2_s, ob3_s, ob4_s, ob5_s, a1, a2, a3]
    rw [show to - (e + 1) + 1 = to - e by omega]
    generalize (P (to - (e + 1)) - E (to - (e + 1))).toInt64 * dn k - up k * (T' (to - (e + 1))).toInt64 = L at *
    generalize (P (to - (e + 1)) + E (to - (e + 1))).toInt64 * dn k - up k * (T' (to - (e + 1))).toInt64 = G at *
    have s1 : (if L < x then x else L) = if (lg_cmp L x).toInt ≤ 0 then x else L := by
      by_cases c1 : lg_cmp L x ≤ 0
      · have c2 := cmp_le.mp c1
        have c3 := i_le.mp c1
        rw [t_0] at c3
        rw [if_pos c3]
        by_cases c4 : L < x
        · rw [if_pos c4]
        · rw [if_neg c4]; have := mt l_lt.mpr c4; exact l_eq.mpr (by omega)
      · have c2 := mt cmp_le.mpr c1
        have c3 := mt i_le.mpr c1
        rw [t_0] at c3
        rw [if_neg c3, if_neg (fun h9 => by have := l_lt.mp h9; omega)]
    have s2 : (if G < y then G else y) = if 0 ≤ (lg_cmp G y).toInt then y else G := by
      by_cases c1 : 0 ≤ lg_cmp G y
      · have c2 := cmp_ge.mp c1
        have c3 := i_le.mp c1
        rw [t_0] at c3
        rw [if_pos c3, if_neg (fun h9 => by have := l_lt.mp h9; omega)]
      · have c2 := mt cmp_ge.mpr c1
        have c3 := mt i_le.mpr c1
        rw [t_0] at c3
        rw [if_neg c3, if_pos (l_lt.mpr (by omega))]
    rw [s1, s2]
    by_cases c1 : (lg_cmp L x).toInt ≤ 0
    · by_cases c2 : 0 ≤ (lg_cmp G y).toInt
      · simp only [if_pos c1, if_pos c2]; exact ih n n' x y (by omega) (by omega) (by omega) (by omega) hx hy
      · simp only [if_pos c1, if_neg c2]; exact ih n n' x G (by omega) (by omega) (by omega) (by omega) hx v2
    · by_cases c2 : 0 ≤ (lg_cmp G y).toInt
      · simp only [if_neg c1, if_pos c2]; exact ih n n' L y (by omega) (by omega) (by omega) (by omega) v1 hy
      · simp only [if_neg c1, if_neg c2]; exact ih n n' L G (by omega) (by omega) (by omega) (by omega) v1 v2
theorem mid_all {p fr to k n n' : Nat} {T lo hi T' P E fi le : Nat → Int32} {up dn he : Nat → Int64} {a b c d : Int64} (h : PR p T lo hi T' P E) (hfr : fr < to) (hto : to ≤ p) (hk : k < 20) (hU : -262000 ≤ (up k).toInt ∧ (up k).toInt ≤ 262000) (hD : 1 ≤ (dn k).toInt ∧ (dn k).toInt ≤ 299) (hn : 30 ≤ n) (hn' : 30 ≤ n') :
    ∃ z : Int64, z.toInt.natAbs ≤ 236000000 ∧ FX1_middleOf n T lo hi (nI fr) (nI to) (up k) (dn k) = some z ∧ LX10_line_131 n' a b c d T' P E fi le up dn he (nI k) (nI fr) (nI to) 0 0 (nI fr) = some (a, b, c, d, up, dn, vp_updL he k z) := by
  have hp := h.1
  obtain ⟨a1, a2, a3, a4, a5, a6⟩ := h.2.1 fr (by omega)
  have hlb := h.lb (show fr < p by omega)
  have v1 := val_b (U := up k) (D := dn k) hlb.1 a4 hU hD
  have v2 := val_b (U := up k) (D := dn k) hlb.2 a4 hU hD
  obtain ⟨n', rfl⟩ : ∃ m, n' = m + 1 := ⟨n' - 1, by omega⟩
  obtain ⟨z, h1, h2, h3⟩ := mid_lk (fr := fr) (fi := fi) (le := le) (he := he) (a := a) (b := b) (c := c) (d := d) h hto hk hU hD (to - fr - 1) n n' _ _ (by omega) (by omega) (by omega) (by omega) v1 v2
  rw [show to - (to - fr - 1) = fr + 1 by omega] at h2 h3
  refine ⟨z, h1, ?_, ?_⟩
  · unfold FX1_middleOf; simp (disch := omega) only [bn_s, gd_in, if_pos, if_neg, i_lt, i_le, nI_toInt, Int32.reduceToInt, Int32.reduceSub, reduceIte, nI_clamp, nI_1, nI_add, lit_mul, lit_add, add_lit, pk_mul, pk_us, pk_un, pk_uLs, pk_uLn, nI_eqL, nI_eq, one_0, ob1_s, ob2_s, ob3_s, ob4_s, ob5_s, a1, a2, a3]; exact h2
  · unfold LX10_line_131 JX10_line_131 JX10_line_233; simp (disch := omega) only [bn_s, gd_in, if_pos, if_neg, i_lt, i_le, nI_toInt, Int32.reduceToInt, Int32.reduceSub, reduceIte, nI_clamp, nI_1, nI_add, lit_mul, lit_add, add_lit, pk_mul, pk_us, pk_un, pk_uLs, pk_uLn, nI_eqL, nI_eq, one_0, ob1_s, ob2_s, ob3_s, ob4_s, ob5_s]; exact h3
theorem div1 {u : Int64} (hu : -262000 ≤ u.toInt ∧ u.toInt ≤ 262000) : u / lN 1 = u := by
  refine l_eq.mpr ?_
  rw [Int64.toInt_div, pk_lT (by omega), show ((1 : Nat) : Int) = 1 from rfl, Int.tdiv_one]
  exact Int.bmod_eq_of_le (by omega) (by omega)
theorem k72_lk {p fr to k n n' : Nat} {T lo hi T' P E fi le F Ln Up Lo : Nat → Int32} {up dn he Mi : Nat → Int64} {sz : Int32} {lU lL mU mL a b c d u0 d0 : Int64} (h : PR p T lo hi T' P E) (hfr : fr < to) (hto : to ≤ p) (hk : k < 20) (hU : -262000 ≤ u0.toInt ∧ u0.toInt ≤ 262000) (hD : 1 ≤ d0.toInt ∧ d0.toInt ≤ 299) (hn : 60 ≤ n) (hn' : 60 ≤ n') :
    ∃ u v z : Int64, (-262000 ≤ u.toInt ∧ u.toInt ≤ 262000) ∧ (1 ≤ v.toInt ∧ v.toInt ≤ 299) ∧ z.toInt.natAbs ≤ 236000000 ∧
      JX1_keepPiece_72 n sz lU lL mU mL T lo hi F Ln Up Lo Mi (nI k) (nI fr) (nI to) u0 d0 = some (nI (k + 1), lU, lL, mU, mL, upd F k (T fr), upd Ln k (nI (to - fr)), upd Up k u.toInt32, upd Lo k v.toInt32, vp_updL Mi k z) ∧
      JX10_line_91 n' a b c d T' P E fi le up dn he (nI k) (nI fr) (nI to) u0 d0 = some (a, b, c, d, vp_updL up k u, vp_updL dn k v, vp_updL he k z) := by
  have hp := h.1
  obtain ⟨g, g1, g2, h1, h2, h3, h4⟩ := common_lk (n := n) (n' := n') hU hD (by omega) (by omega)
  have hg0 : ¬ lN g = 0 := lN_ne (by omega) (by omega)
  obtain ⟨z, z1, z2, z3⟩ := mid_all (n := n) (n' := n') (k := k) (up := vp_updL up k (u0 / lN g)) (dn := vp_updL dn k (d0 / lN g)) (he := he) (fi := fi) (le := le) (a := a) (b := b) (c := c) (d := d) h hfr hto hk (by rw [pk_uLs]; exact h3) (by rw [pk_uLs]; exact h4) (by omega) (by omega)
  rw [pk_uLs, pk_uLs] at z2
  refine ⟨u0 / lN g, d0 / lN g, z, h3, h4, z1, ?_, ?_⟩
  · have hs : nI to - nI fr = nI (to - fr) := pk_sub (by omega)
    unfold JX1_keepPiece_72 JX1_keepPiece_105
    rw [h1, ob1_s]
    by_cases e : g = 1
    · subst e
      rw [div1 hU, div1 (by omega)] at *
      have : (lg_cmp (lN 1) 1).toInt ≤ 0 := by decide
      simp (disch := omega) only [bn_s, gd_in, if_pos, if_neg, i_lt, i_le, nI_toInt, Int32.reduceToInt, Int32.reduceSub, reduceIte, nI_clamp, nI_1, nI_add, lit_mul, lit_add, add_lit, pk_mul, pk_us, pk_un, pk_uLs, pk_uLn, nI_eqL, nI_eq, one_0, ob1_s, ob2_s, ob3_s, ob4_s, ob5_s, z2, hs]
    · have : ¬ (lg_cmp (lN g) 1).toInt ≤ 0 := fun h9 => by
        have := cmp_le.mp (i_le.mpr (by rw [t_0]; exact h9))
        rw [pk_lT (by omega), t64_1] at this; omega
      simp (disch := omega) only [bn_s, gd_in, if_pos, if_neg, i_lt, i_le, nI_toInt, Int32.reduceToInt, Int32.reduceSub, reduceIte, nI_clamp, nI_1, nI_add, lit_mul, lit_add, add_lit, pk_mul, pk_us, pk_un, pk_uLs, pk_uLn, nI_eqL, nI_eq, one_0, ob1_s, ob2_s, ob3_s, ob4_s, ob5_s, z2, hs, gd_t hg0]
  · unfold JX10_line_91
    simp (disch := omega) only [bn_s, gd_in, if_pos, if_neg, i_lt, i_le, nI_toInt, Int32.reduceToInt, Int32.reduceSub, reduceIte, nI_clamp, nI_1, nI_add, lit_mul, lit_add, add_lit, pk_mul, pk_us, pk_un, pk_uLs, pk_uLn, nI_eqL, nI_eq, one_0, ob1_s, ob2_s, ob3_s, ob4_s, ob5_s, h2, gd_t hg0]
    exact z3
theorem keep_lk {p fr to k n n' : Nat} {T lo hi T' P E fi le F Ln Up Lo : Nat → Int32} {up dn he Mi : Nat → Int64} {sz : Int32} {lU lL mU mL a b c d : Int64} (h : PR p T lo hi T' P E) (hfr : fr < to) (hto : to ≤ p) (hk : k < 20) (hfi : fi k = nI fr) (hle : le k = nI (to - fr)) (hn : 60 ≤ n) (hn' : 60 ≤ n') :
    ∃ (u v z lU' lL' mU' mL' a' b' c' d' : Int64), (-262000 ≤ u.toInt ∧ u.toInt ≤ 262000) ∧ (1 ≤ v.toInt ∧ v.toInt ≤ 299) ∧ z.toInt.natAbs ≤ 236000000 ∧
      FX1_keepPiece n sz lU lL mU mL T lo hi F Ln Up Lo Mi (nI k) (nI fr) (nI to) = some (nI (k + 1), lU', lL', mU', mL', upd F k (T fr), upd Ln k (nI (to - fr)), upd Up k u.toInt32, upd Lo k v.toInt32, vp_updL Mi k z) ∧
      FX10_line n' a b c d T' P E fi le up dn he (nI k) = some (a', b', c', d', vp_updL up k u, vp_updL dn k v, vp_updL he k z) := by
  have hp := h.1
  have hs : nI to - nI fr = nI (to - fr) := pk_sub (by omega)
  obtain ⟨any, lU1, lL1, mU1, mL1, a1, b1, c1, d1, r, hS, h2, h3, h4, h5, _⟩ := fits_lk (fr := fr) (to := to) (n := n) (n' := n') (lU := lU) (lL := lL) (mU := mU) (mL := mL) (a := a) (b := b) (c := c) (d := d) h (by omega) hto (by omega) (by omega)
  unfold FX1_keepPiece FX10_line
  simp (disch := omega) only [bn_s, gd_in, if_pos, if_neg, i_lt, i_le, nI_toInt, Int32.reduceToInt, Int32.reduceSub, reduceIte, nI_clamp, nI_1, nI_add, lit_mul, lit_add, add_lit, pk_mul, pk_us, pk_un, pk_uLs, pk_uLn, nI_eqL, nI_eq, one_0, ob1_s, ob2_s, ob3_s, ob4_s, ob5_s, hfi, hle, h4, hs]
  rw [show fr + (to - fr) = to by omega, h5, ob4_s]
  have key : ∀ (u0 d0 : Int64), (-262000 ≤ u0.toInt ∧ u0.toInt ≤ 262000) → (1 ≤ d0.toInt ∧ d0.toInt ≤ 299) → _ := fun u0 d0 hU hD =>
    k72_lk (n := n) (n' := n') (sz := sz) (lU := lU1) (lL := lL1) (mU := mU1) (mL := mL1) (a := a1) (b := b1) (c := c1) (d := d1) (F := F) (Ln := Ln) (Up := Up) (Lo := Lo) (Mi := Mi) (up := up) (dn := dn) (he := he) (fi := fi) (le := le) (k := k) h hfr hto hk hU hD hn hn'
  rcases hS with ⟨rfl, rfl, rfl⟩ | ⟨rfl, rfl, rfl, rfl, rfl, hB⟩
  · have e1 : to = fr + 1 := by
      by_cases e : fr + 2 ≤ to
      · exact absurd (h2 e) (by decide)
      · omega
    obtain ⟨u, v, z, q1, q2, q3, q4, q5⟩ := key 0 1 (by decide) (by decide)
    have s0 : (lg_cmp 0 0).toInt ≤ 0 := by decide
    refine ⟨u, v, z, lU1, lL1, mU1, mL1, a1, 0, c1, 0, q1, q2, q3, ?_, ?_⟩
    · unfold JX1_keepPiece_44
      simp (disch := omega) only [bn_s, gd_in, if_pos, if_neg, i_lt, i_le, nI_toInt, Int32.reduceToInt, Int32.reduceSub, reduceIte, nI_clamp, nI_1, nI_add, lit_mul, lit_add, add_lit, pk_mul, pk_us, pk_un, pk_uLs, pk_uLn, nI_eqL, nI_eq, one_0, ob1_s, ob2_s, ob3_s, ob4_s, ob5_s, hs]
      exact q4
    · unfold JX10_line_61
      simp (disch := omega) only [bn_s, gd_in, if_pos, if_neg, i_lt, i_le, nI_toInt, Int32.reduceToInt, Int32.reduceSub, reduceIte, nI_clamp, nI_1, nI_add, lit_mul, lit_add, add_lit, pk_mul, pk_us, pk_un, pk_uLs, pk_uLn, nI_eqL, nI_eq, one_0, ob1_s, ob2_s, ob3_s, ob4_s, ob5_s]
      exact q5
  · have e1 : fr + 2 ≤ to := by
      by_cases e : to ≤ fr + 1
      · exact absurd (h3 e) (by decide)
      · omega
    obtain ⟨b1, b2, b3, b4⟩ := hB
    have p1 : ¬ (lg_cmp lL1 0).toInt ≤ 0 := fun h9 => by have := cmp_le.mp (i_le.mpr (by rw [t_0]; exact h9)); rw [t64_0] at this; omega
    have p2 : ¬ (lg_cmp mL1 0).toInt ≤ 0 := fun h9 => by have := cmp_le.mp (i_le.mpr (by rw [t_0]; exact h9)); rw [t64_0] at this; omega
    by_cases s1 : (lg_cmp lU1 0).toInt ≤ 0
    · by_cases s2 : 0 ≤ (lg_cmp mU1 0).toInt
      · obtain ⟨u, v, z, q1, q2, q3, q4, q5⟩ := key 0 1 (by decide) (by decide)
        refine ⟨u, v, z, lU1, lL1, mU1, mL1, lU1, lL1, mU1, mL1, q1, q2, q3, ?_, ?_⟩
        · unfold JX1_keepPiece_44
          simp (disch := omega) only [bn_s, gd_in, if_pos, if_neg, i_lt, i_le, nI_toInt, Int32.reduceToInt, Int32.reduceSub, reduceIte, nI_clamp, nI_1, nI_add, lit_mul, lit_add, add_lit, pk_mul, pk_us, pk_un, pk_uLs, pk_uLn, nI_eqL, nI_eq, one_0, ob1_s, ob2_s, ob3_s, ob4_s, ob5_s, hs]
          exact q4
        · unfold JX10_line_61
          simp (disch := omega) only [bn_s, gd_in, if_pos, if_neg, i_lt, i_le, nI_toInt, Int32.reduceToInt, Int32.reduceSub, reduceIte, nI_clamp, nI_1, nI_add, lit_mul, lit_add, add_lit, pk_mul, pk_us, pk_un, pk_uLs, pk_uLn, nI_eqL, nI_eq, one_0, ob1_s, ob2_s, ob3_s, ob4_s, ob5_s]
          exact q5
      · obtain ⟨u, v, z, q1, q2, q3, q4, q5⟩ := key mU1 mL1 b3 b4
        refine ⟨u, v, z, lU1, lL1, mU1, mL1, lU1, lL1, mU1, mL1, q1, q2, q3, ?_, ?_⟩
        · unfold JX1_keepPiece_44
          simp (disch := omega) only [bn_s, gd_in, if_pos, if_neg, i_lt, i_le, nI_toInt, Int32.reduceToInt, Int32.reduceSub, reduceIte, nI_clamp, nI_1, nI_add, lit_mul, lit_add, add_lit, pk_mul, pk_us, pk_un, pk_uLs, pk_uLn, nI_eqL, nI_eq, one_0, ob1_s, ob2_s, ob3_s, ob4_s, ob5_s, hs]
          exact q4
        · unfold JX10_line_61
          simp (disch := omega) only [bn_s, gd_in, if_pos, if_neg, i_lt, i_le, nI_toInt, Int32.reduceToInt, Int32.reduceSub, reduceIte, nI_clamp, nI_1, nI_add, lit_mul, lit_add, add_lit, pk_mul, pk_us, pk_un, pk_uLs, pk_uLn, nI_eqL, nI_eq, one_0, ob1_s, ob2_s, ob3_s, ob4_s, ob5_s]
          exact q5
    · obtain ⟨u, v, z, q1, q2, q3, q4, q5⟩ := key lU1 lL1 b1 b2
      refine ⟨u, v, z, lU1, lL1, mU1, mL1, lU1, lL1, mU1, mL1, q1, q2, q3, ?_, ?_⟩
      · simp (disch := omega) only [bn_s, gd_in, if_pos, if_neg, i_lt, i_le, nI_toInt, Int32.reduceToInt, Int32.reduceSub, reduceIte, nI_clamp, nI_1, nI_add, lit_mul, lit_add, add_lit, pk_mul, pk_us, pk_un, pk_uLs, pk_uLn, nI_eqL, nI_eq, one_0, ob1_s, ob2_s, ob3_s, ob4_s, ob5_s]
        exact q4
      · simp (disch := omega) only [bn_s, gd_in, if_pos, if_neg, i_lt, i_le, nI_toInt, Int32.reduceToInt, Int32.reduceSub, reduceIte, nI_clamp, nI_1, nI_add, lit_mul, lit_add, add_lit, pk_mul, pk_us, pk_un, pk_uLs, pk_uLn, nI_eqL, nI_eq, one_0, ob1_s, ob2_s, ob3_s, ob4_s, ob5_s]
        exact q5
