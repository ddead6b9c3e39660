/-- the points of both -/
def PR (p : Nat) (T lo hi T' P E : Nat → Int32) : Prop := p ≤ 20 ∧ (∀ i, i < p → T i = T' i ∧ lo i = P i - E i ∧ hi i = P i + E i ∧ (0 ≤ (T' i).toInt ∧ (T' i).toInt < 300) ∧ (-130000 ≤ (P i).toInt ∧ (P i).toInt ≤ 130000) ∧ (0 ≤ (E i).toInt ∧ (E i).toInt ≤ 1000)) ∧ ∀ i j, i < j → j < p → (T' i).toInt < (T' j).toInt
def Bd (a b c d : Int64) : Prop := (-262000 ≤ a.toInt ∧ a.toInt ≤ 262000) ∧ (1 ≤ b.toInt ∧ b.toInt ≤ 299) ∧ (-262000 ≤ c.toInt ∧ c.toInt ≤ 262000) ∧ (1 ≤ d.toInt ∧ d.toInt ≤ 299)
def SlR (any : Int32) (lU lL mU mL a b c d : Int64) : Prop := (any = 0 ∧ b = 0 ∧ d = 0) ∨ (any = 1 ∧ lU = a ∧ lL = b ∧ mU = c ∧ mL = d ∧ Bd a b c d)
theorem pair {p i j : Nat} {T lo hi T' P E : Nat → Int32} (h : PR p T lo hi T' P E) (hij : i < j) (hj : j < p) :
    (lo j - hi i).toInt64 = (P j - P i).toInt64 - (E i + E j).toInt64 ∧ (hi j - lo i).toInt64 = (P j - P i).toInt64 + (E i + E j).toInt64 ∧ T j - T i = T' j - T' i ∧
    (1 ≤ (T' j - T' i).toInt64.toInt ∧ (T' j - T' i).toInt64.toInt ≤ 299) ∧ (-262000 ≤ ((P j - P i).toInt64 - (E i + E j).toInt64).toInt ∧ ((P j - P i).toInt64 - (E i + E j).toInt64).toInt ≤ 262000) ∧ (-262000 ≤ ((P j - P i).toInt64 + (E i + E j).toInt64).toInt ∧ ((P j - P i).toInt64 + (E i + E j).toInt64).toInt ≤ 262000) := by
  obtain ⟨a1, a2, a3, a4, a5, a6⟩ := h.2.1 i (by omega)
  obtain ⟨b1, b2, b3, b4, b5, b6⟩ := h.2.1 j hj
  have ht := h.2.2 i j hij hj
  have e1 : (P j - P i).toInt = (P j).toInt - (P i).toInt := sub_t (by omega) (by omega)
  have e2 : (E i + E j).toInt = (E i).toInt + (E j).toInt := add_t (by omega) (by omega)
  have e3 : (lo j).toInt = (P j).toInt - (E j).toInt := by rw [b2]; exact sub_t (by omega) (by omega)
  have e4 : (hi j).toInt = (P j).toInt + (E j).toInt := by rw [b3]; exact add_t (by omega) (by omega)
  have e5 : (lo i).toInt = (P i).toInt - (E i).toInt := by rw [a2]; exact sub_t (by omega) (by omega)
  have e6 : (hi i).toInt = (P i).toInt + (E i).toInt := by rw [a3]; exact add_t (by omega) (by omega)
  have e7 : (lo j - hi i).toInt = (lo j).toInt - (hi i).toInt := sub_t (by omega) (by omega)
  have e8 : (hi j - lo i).toInt = (hi j).toInt - (lo i).toInt := sub_t (by omega) (by omega)
  have e9 : (T' j - T' i).toInt = (T' j).toInt - (T' i).toInt := sub_t (by omega) (by omega)
  have f1 : ((P j - P i).toInt64 - (E i + E j).toInt64).toInt = (P j).toInt - (P i).toInt - ((E i).toInt + (E j).toInt) := by
    rw [sub64] <;> rw [Int32.toInt_toInt64, Int32.toInt_toInt64, e1, e2] <;> omega
  have f2 : ((P j - P i).toInt64 + (E i + E j).toInt64).toInt = (P j).toInt - (P i).toInt + ((E i).toInt + (E j).toInt) := by
    rw [add64] <;> rw [Int32.toInt_toInt64, Int32.toInt_toInt64, e1, e2] <;> omega
  refine ⟨l_eq.mpr ?_, l_eq.mpr ?_, by rw [a1, b1], ?_, ?_, ?_⟩
  · rw [f1, Int32.toInt_toInt64]; omega
  · rw [f2, Int32.toInt_toInt64]; omega
  · rw [Int32.toInt_toInt64]; omega
  · rw [f1]; omega
  · rw [f2]; omega
theorem step_lk {k5 : Int64 → Int64 → Int64 → Int64 → (Nat → Int32) → (Nat → Int32) → (Nat → Int32) → Int32 → Int32 → Int32 → Option (Int32 × Int64 × Int64 × Int64 × Int64)}
    {k17 : Int64 → Int64 → Int64 → Int64 → (Nat → Int32) → (Nat → Int32) → (Nat → Int32) → Int32 → Int32 → Int32 → Int32 → Option (Int32 × Int64 × Int64 × Int64 × Int64)}
    {k24 : Int64 → Int64 → Int64 → Int64 → (Nat → Int32) → (Nat → Int32) → (Nat → Int32) → Int32 → Int32 → Option (Int64 × Int64 × Int64 × Int64)}
    {k34 : Int64 → Int64 → Int64 → Int64 → (Nat → Int32) → (Nat → Int32) → (Nat → Int32) → Int32 → Int32 → Int32 → Option (Int64 × Int64 × Int64 × Int64)}
    {n n' p i j to : Nat} {T lo hi T' P E : Nat → Int32} {any : Int32} {lU lL mU mL a b c d : Int64} (h : PR p T lo hi T' P E) (hij : i < j) (hj : j < to) (hto : to ≤ p) (hS : SlR any lU lL mU mL a b c d) :
    ∃ a' b' c' d', Bd a' b' c' d' ∧ JX1_fits_17 k5 k17 n lU lL mU mL T lo hi (nI to) any (nI i) (nI j) = k17 a' b' c' d' T lo hi (nI to) 1 (nI i) (nI (j + 1)) ∧
      JX10_slopes_34 k24 k34 n' a b c d T' P E (nI to) (nI i) (nI j) = k34 a' b' c' d' T' P E (nI to) (nI i) (nI (j + 1)) := by
  have hp := h.1
  obtain ⟨e1, e2, e3, q1, q2, q3⟩ := pair h hij (show j < p by omega)
  have q0 : ¬ (T' j - T' i).toInt64 = 0 := fun e => by rw [e, t64_0] at q1; omega
  unfold JX1_fits_17 JX10_slopes_34 JX1_fits_99 JX1_fits_111 JX10_slopes_121 JX10_slopes_136
  simp (disch := omega) only [bn_s, gd_in, if_pos, if_neg, i_lt, i_le, nI_toInt, Int32.reduceToInt, Int32.reduceSub, reduceIte, nI_clamp, nI_1, nI_add, lit_mul, lit_add, add_lit, pk_mul, pk_us, pk_un, pk_uLs, pk_uLn, nI_eqL, nI_eq, one_0, ob1_s, ob2_s, ob3_s, ob4_s, ob5_s, e1, e2, e3]
  generalize (T' j - T' i).toInt64 = D at *
  generalize (P j - P i).toInt64 = U at *
  generalize (E i + E j).toInt64 = V at *
  rcases hS with ⟨rfl, rfl, rfl⟩ | ⟨rfl, rfl, rfl, rfl, rfl, hB⟩
  · refine ⟨U - V, D, U + V, D, ⟨q2, q1, q3, q1⟩, ?_, ?_⟩
    · rfl
    · rw [if_pos (cmp_eq.mpr rfl), if_pos (cmp_eq.mpr rfl)]
  · obtain ⟨b1, b2, b3, b4⟩ := hB
    have n1 : ¬ lg_cmp lL 0 = 0 := fun h9 => by have := cmp_eq.mp h9; rw [this, t64_0] at b2; omega
    have n2 : ¬ lg_cmp mL 0 = 0 := fun h9 => by have := cmp_eq.mp h9; rw [this, t64_0] at b4; omega
    simp only [if_neg n1, if_neg n2, one_0, reduceIte]
    by_cases c1 : (lg_cmp ((U - V) * lL) (lU * D)).toInt ≤ 0
    · by_cases c2 : 0 ≤ (lg_cmp ((U + V) * mL) (mU * D)).toInt
      · refine ⟨lU, lL, mU, mL, ⟨b1, b2, b3, b4⟩, ?_, ?_⟩
        · rw [if_pos c1, if_pos c2]
        · rw [if_pos c1, if_pos c2]
      · refine ⟨lU, lL, U + V, D, ⟨b1, b2, q3, q1⟩, ?_, ?_⟩
        · rw [if_pos c1, if_neg c2]
        · rw [if_pos c1, if_neg c2]
    · by_cases c2 : 0 ≤ (lg_cmp ((U + V) * mL) (mU * D)).toInt
      · refine ⟨U - V, D, mU, mL, ⟨q2, q1, b3, b4⟩, ?_, ?_⟩
        · rw [if_neg c1, if_pos c2]
        · rw [if_neg c1, if_pos c2]
      · refine ⟨U - V, D, U + V, D, ⟨q2, q1, q3, q1⟩, ?_, ?_⟩
        · rw [if_neg c1, if_neg c2]
        · rw [if_neg c1, if_neg c2]
theorem in_lk {k5 : Int64 → Int64 → Int64 → Int64 → (Nat → Int32) → (Nat → Int32) → (Nat → Int32) → Int32 → Int32 → Int32 → Option (Int32 × Int64 × Int64 × Int64 × Int64)}
    {k24 : Int64 → Int64 → Int64 → Int64 → (Nat → Int32) → (Nat → Int32) → (Nat → Int32) → Int32 → Int32 → Option (Int64 × Int64 × Int64 × Int64)}
    {p i to : Nat} {T lo hi T' P E : Nat → Int32} (h : PR p T lo hi T' P E) (hto : to ≤ p) : ∀ (e n n' : Nat) (any : Int32) (lU lL mU mL a b c d : Int64), e ≤ to → i < to - e → e + 1 ≤ n → e + 1 ≤ n' → SlR any lU lL mU mL a b c d →
    ∃ any' lU' lL' mU' mL' a' b' c' d', SlR any' lU' lL' mU' mL' a' b' c' d' ∧ (0 < e ∨ any = 1 → any' = 1) ∧ (e = 0 → any' = any) ∧ LX1_fits_17 k5 n lU lL mU mL T lo hi (nI to) any (nI i) (nI (to - e)) = k5 lU' lL' mU' mL' T lo hi (nI to) any' (nI (i + 1)) ∧
      LX10_slopes_34 k24 n' a b c d T' P E (nI to) (nI i) (nI (to - e)) = k24 a' b' c' d' T' P E (nI to) (nI (i + 1)) := by
  have hp := h.1
  intro e
  induction e with
  | zero =>
    intro n n' any lU lL mU mL a b c d _ hi hn hn' hS
    obtain ⟨n, rfl⟩ : ∃ m, n = m + 1 := ⟨n - 1, by omega⟩
    obtain ⟨n', rfl⟩ : ∃ m, n' = m + 1 := ⟨n' - 1, by omega⟩
    refine ⟨any, lU, lL, mU, mL, a, b, c, d, hS, fun h => by rcases h with h | h; omega; exact h, fun _ => rfl, ?_, ?_⟩
    · unfold LX1_fits_17 JX1_fits_17; simp (disch := omega) only [bn_s, gd_in, if_pos, if_neg, i_lt, i_le, nI_toInt, Int32.reduceToInt, Int32.reduceSub, reduceIte, nI_clamp, nI_1, nI_add, lit_mul, lit_add, add_lit, pk_mul, pk_us, pk_un, pk_uLs, pk_uLn, nI_eqL, nI_eq, one_0, ob1_s, ob2_s, ob3_s, ob4_s, ob5_s]
    · unfold LX10_slopes_34 JX10_slopes_34; simp (disch := omega) only [bn_s, gd_in, if_pos, if_neg, i_lt, i_le, nI_toInt, Int32.reduceToInt, Int32.reduceSub, reduceIte, nI_clamp, nI_1, nI_add, lit_mul, lit_add, add_lit, pk_mul, pk_us, pk_un, pk_uLs, pk_uLn, nI_eqL, nI_eq, one_0, ob1_s, ob2_s, ob3_s, ob4_s, ob5_s]
  | succ e ih =>
    intro n n' any lU lL mU mL a b c d he hi hn hn' hS
    obtain ⟨n, rfl⟩ : ∃ m, n = m + 1 := ⟨n - 1, by omega⟩
    obtain ⟨n', rfl⟩ : ∃ m, n' = m + 1 := ⟨n' - 1, by omega⟩
    obtain ⟨a1, b1, c1, d1, hB, h1, h2⟩ := step_lk (k5 := k5) (k17 := LX1_fits_17 k5 n) (k24 := k24) (k34 := LX10_slopes_34 k24 n') (n := n) (n' := n') (i := i) (j := to - (e + 1)) h (by omega) (by omega) hto hS
    obtain ⟨any2, lU2, lL2, mU2, mL2, a2, b2, c2, d2, hS2, h3, _, h4, h5⟩ := ih n n' 1 a1 b1 c1 d1 a1 b1 c1 d1 (by omega) (by omega) (by omega) (by omega) (Or.inr ⟨rfl, rfl, rfl, rfl, rfl, hB⟩)
    refine ⟨any2, lU2, lL2, mU2, mL2, a2, b2, c2, d2, hS2, fun _ => h3 (Or.inr rfl), fun h => by omega, ?_, ?_⟩
    · unfold LX1_fits_17; rw [h1, ← h4, show to - (e + 1) + 1 = to - e by omega]
    · unfold LX10_slopes_34; rw [h2, ← h5, show to - (e + 1) + 1 = to - e by omega]
theorem out_lk {p to : Nat} {T lo hi T' P E : Nat → Int32} (h : PR p T lo hi T' P E) (hto : to ≤ p) : ∀ (e n n' : Nat) (any : Int32) (lU lL mU mL a b c d : Int64), e ≤ to → e + 25 ≤ n → e + 25 ≤ n' → SlR any lU lL mU mL a b c d →
    ∃ any' lU' lL' mU' mL' a' b' c' d' r, SlR any' lU' lL' mU' mL' a' b' c' d' ∧ (2 ≤ e ∨ any = 1 → any' = 1) ∧ (e ≤ 1 → any' = any) ∧ LX1_fits_5 n lU lL mU mL T lo hi (nI to) any (nI (to - e)) = some (r, lU', lL', mU', mL') ∧
      LX10_slopes_24 n' a b c d T' P E (nI to) (nI (to - e)) = some (a', b', c', d') ∧ r = (if lg_cmp b' 0 = 0 then 1 else if 0 < lg_cmp (a' * d') (c' * b') then 0 else 1) := by
  have hp := h.1
  intro e
  induction e with
  | zero =>
    intro n n' any lU lL mU mL a b c d _ hn hn' hS
    obtain ⟨n, rfl⟩ : ∃ m, n = m + 1 := ⟨n - 1, by omega⟩
    obtain ⟨n', rfl⟩ : ∃ m, n' = m + 1 := ⟨n' - 1, by omega⟩
    have h2 : LX10_slopes_24 (n' + 1) a b c d T' P E (nI to) (nI (to - 0)) = some (a, b, c, d) := by unfold LX10_slopes_24 JX10_slopes_24; simp (disch := omega) only [bn_s, gd_in, if_pos, if_neg, i_lt, i_le, nI_toInt, Int32.reduceToInt, Int32.reduceSub, reduceIte, nI_clamp, nI_1, nI_add, lit_mul, lit_add, add_lit, pk_mul, pk_us, pk_un, pk_uLs, pk_uLn, nI_eqL, nI_eq, one_0, ob1_s, ob2_s, ob3_s, ob4_s, ob5_s]
    rcases hS with ⟨rfl, rfl, rfl⟩ | ⟨rfl, rfl, rfl, rfl, rfl, hB⟩
    · refine ⟨0, lU, lL, mU, mL, a, 0, c, 0, 1, Or.inl ⟨rfl, rfl, rfl⟩, fun h => by rcases h with h | h; omega; exact h, fun _ => rfl, ?_, h2, ?_⟩
      · unfold LX1_fits_5 JX1_fits_5; simp (disch := omega) only [bn_s, gd_in, if_pos, if_neg, i_lt, i_le, nI_toInt, Int32.reduceToInt, Int32.reduceSub, reduceIte, nI_clamp, nI_1, nI_add, lit_mul, lit_add, add_lit, pk_mul, pk_us, pk_un, pk_uLs, pk_uLn, nI_eqL, nI_eq, one_0, ob1_s, ob2_s, ob3_s, ob4_s, ob5_s]
      · rw [if_pos (cmp_eq.mpr rfl)]
    · have n1 : ¬ lg_cmp lL 0 = 0 := fun h9 => by have := cmp_eq.mp h9; have h8 := hB.2.1; rw [this, t64_0] at h8; omega
      by_cases c1 : 0 < lg_cmp (lU * mL) (mU * lL)
      · refine ⟨1, lU, lL, mU, mL, lU, lL, mU, mL, 0, Or.inr ⟨rfl, rfl, rfl, rfl, rfl, hB⟩, fun _ => rfl, fun _ => rfl, ?_, h2, ?_⟩
        · have c1' := i_lt.mp c1; rw [t_0] at c1'; unfold LX1_fits_5 JX1_fits_5; simp (disch := omega) only [bn_s, gd_in, if_pos, if_neg, i_lt, i_le, nI_toInt, Int32.reduceToInt, Int32.reduceSub, reduceIte, nI_clamp, nI_1, nI_add, lit_mul, lit_add, add_lit, pk_mul, pk_us, pk_un, pk_uLs, pk_uLn, nI_eqL, nI_eq, one_0, ob1_s, ob2_s, ob3_s, ob4_s, ob5_s]
        · rw [if_neg n1, if_pos c1]
      · refine ⟨1, lU, lL, mU, mL, lU, lL, mU, mL, 1, Or.inr ⟨rfl, rfl, rfl, rfl, rfl, hB⟩, fun _ => rfl, fun _ => rfl, ?_, h2, ?_⟩
        · have c1' := mt i_lt.mpr c1; rw [t_0] at c1'; unfold LX1_fits_5 JX1_fits_5; simp (disch := omega) only [bn_s, gd_in, if_pos, if_neg, i_lt, i_le, nI_toInt, Int32.reduceToInt, Int32.reduceSub, reduceIte, nI_clamp, nI_1, nI_add, lit_mul, lit_add, add_lit, pk_mul, pk_us, pk_un, pk_uLs, pk_uLn, nI_eqL, nI_eq, one_0, ob1_s, ob2_s, ob3_s, ob4_s, ob5_s]
        · rw [if_neg n1, if_neg c1]
  | succ e ih =>
    intro n n' any lU lL mU mL a b c d he hn hn' hS
    obtain ⟨n, rfl⟩ : ∃ m, n = m + 1 := ⟨n - 1, by omega⟩
    obtain ⟨n', rfl⟩ : ∃ m, n' = m + 1 := ⟨n' - 1, by omega⟩
    obtain ⟨any1, lU1, lL1, mU1, mL1, a1, b1, c1, d1, hS1, h1, h2, h3, h4⟩ := in_lk (k5 := LX1_fits_5 n) (k24 := LX10_slopes_24 n') (i := to - (e + 1)) h hto e n n' any lU lL mU mL a b c d (by omega) (by omega) (by omega) (by omega) hS
    obtain ⟨any2, lU2, lL2, mU2, mL2, a2, b2, c2, d2, r, hS2, h5, h6, h7, h8, h9⟩ := ih n n' any1 lU1 lL1 mU1 mL1 a1 b1 c1 d1 (by omega) (by omega) (by omega) hS1
    refine ⟨any2, lU2, lL2, mU2, mL2, a2, b2, c2, d2, r, hS2, fun h => h5 (Or.inr (h1 ?_)), fun h => ?_, ?_, ?_, h9⟩
    · rcases h with h | h
      · exact Or.inl (by omega)
      · exact Or.inr h
    · rw [h6 (by omega), h2 (by omega)]
    · unfold LX1_fits_5 JX1_fits_5
      simp (disch := omega) only [bn_s, gd_in, if_pos, if_neg, i_lt, i_le, nI_toInt, Int32.reduceToInt, Int32.reduceSub, reduceIte, nI_clamp, nI_1, nI_add, lit_mul, lit_add, add_lit, pk_mul, pk_us, pk_un, pk_uLs, pk_uLn, nI_eqL, nI_eq, one_0, ob1_s, ob2_s, ob3_s, ob4_s, ob5_s]
      rw [show to - (e + 1) + 1 = to - e by omega, h3, show to - (e + 1) + 1 = to - e by omega]; exact h7
    · unfold LX10_slopes_24 JX10_slopes_24
      simp (disch := omega) only [bn_s, gd_in, if_pos, if_neg, i_lt, i_le, nI_toInt, Int32.reduceToInt, Int32.reduceSub, reduceIte, nI_clamp, nI_1, nI_add, lit_mul, lit_add, add_lit, pk_mul, pk_us, pk_un, pk_uLs, pk_uLn, nI_eqL, nI_eq, one_0, ob1_s, ob2_s, ob3_s, ob4_s, ob5_s]
      rw [show to - (e + 1) + 1 = to - e by omega, h4, show to - (e + 1) + 1 = to - e by omega]; exact h8
theorem fits_lk {p fr to n n' : Nat} {T lo hi T' P E : Nat → Int32} {lU lL mU mL a b c d : Int64} (h : PR p T lo hi T' P E) (hfr : fr ≤ to) (hto : to ≤ p) (hn : 50 ≤ n) (hn' : 50 ≤ n') :
    ∃ any' lU' lL' mU' mL' a' b' c' d' r, SlR any' lU' lL' mU' mL' a' b' c' d' ∧ (fr + 2 ≤ to → any' = 1) ∧ (to ≤ fr + 1 → any' = 0) ∧ FX1_fits n lU lL mU mL T lo hi (nI fr) (nI to) = some (r, lU', lL', mU', mL') ∧
      FX10_slopes n' a b c d T' P E (nI fr) (nI to) = some (a', b', c', d') ∧ FX10_canBe n' a b c d T' P E (nI fr) (nI to) = some (r, a', b', c', d') := by
  have hp := h.1
  obtain ⟨any2, lU2, lL2, mU2, mL2, a2, b2, c2, d2, r, hS2, h5, h6, h7, h8, h9⟩ := out_lk h hto (to - fr) n n' 0 lU lL mU mL (-1) 0 1 0 (by omega) (by omega) (by omega) (Or.inl ⟨rfl, rfl, rfl⟩)
  rw [show to - (to - fr) = fr by omega] at h7 h8
  refine ⟨any2, lU2, lL2, mU2, mL2, a2, b2, c2, d2, r, hS2, fun h => h5 (Or.inl (by omega)), fun h => h6 (by omega), h7, h8, ?_⟩
  unfold FX10_canBe FX10_slopes
  rw [h8, ob4_s, h9]
  split
  · rfl
  · split <;> rfl
