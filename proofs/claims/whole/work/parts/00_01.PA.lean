/-- nothing changed but row r -/
def Fr (R M R' M' : Nat → Int32) (r : Nat) : Prop := (∀ j, j ≠ r → M' j = M j) ∧ ∀ j i, j ≠ r → i < 300 → R' (300 * j + i) = R (300 * j + i)
theorem RowR.fr {f : Nat → Int32} {sz : Int32} {R M R' M' : Nat → Int32} {r j k : Nat} (h : RowR f sz R M j k) (hF : Fr R M R' M' r) (hj : j ≠ r) : RowR f sz R' M' j k := by
  obtain ⟨h1, h2, h3, h4, h5⟩ := h
  refine ⟨h1, h2, (hF.1 j hj).trans h3, fun i hi => ?_, fun i hi => ?_⟩
  · rw [h4 i hi]
    by_cases h : i < k
    · rw [if_pos h, if_pos h, hF.2 j i hj hi]
    · rw [if_neg h, if_neg h]
  · rw [hF.2 j i hj (by omega)]; exact h5 i hi
theorem read_M {n s t k : Nat} {th v : Int32} {R M : Nat → Int32} (hs : s < 2) (ht : t < 3) (hv : rng v) (hk : k ≤ 300) (hM : M (3 * s + t) = nI k) :
    FX10_read n th R M (nI s) (nI t) v = if k < 300 then some (nI (k + 1), 0, upd R (300 * (3 * s + t) + k) v, upd M (3 * s + t) (nI (k + 1))) else some (-1, 0, R, M) := by
  have h1 := hv.1
  have h2 := hv.2
  unfold FX10_read
  by_cases h : k < 300
  · simp (disch := omega) only [bn_s, gd_in, if_pos, if_neg, i_lt, i_le, nI_toInt, Int32.reduceToInt, Int32.reduceSub, reduceIte, nI_clamp, nI_1, nI_add, lit_mul, lit_add, add_lit, pk_mul, pk_us, pk_un, pk_uLs, pk_uLn, nI_eqL, nI_eq, one_0, ob1_s, ob2_s, ob3_s, ob4_s, ob5_s, isRow_s, JX10_read_29, bad0, rowOf_s, hM]
  · have h3 : k = 300 := by omega
    simp (disch := omega) only [bn_s, gd_in, if_pos, if_neg, i_lt, i_le, nI_toInt, Int32.reduceToInt, Int32.reduceSub, reduceIte, nI_clamp, nI_1, nI_add, lit_mul, lit_add, add_lit, pk_mul, pk_us, pk_un, pk_uLs, pk_uLn, nI_eqL, nI_eq, one_0, ob1_s, ob2_s, ob3_s, ob4_s, ob5_s, isRow_s, JX10_read_29, bad0, rowOf_s, hM]
theorem read_M2 {n s t : Nat} {th v : Int32} {R M : Nat → Int32} (hs : s < 2) (ht : t < 3) (hv : ¬ rng v) :
    FX10_read n th R M (nI s) (nI t) v = some (0, 2, R, M) := by
  unfold FX10_read rng at *
  by_cases h : v.toInt < -30000
  · simp (disch := omega) only [bn_s, gd_in, if_pos, if_neg, i_lt, i_le, nI_toInt, Int32.reduceToInt, Int32.reduceSub, reduceIte, nI_clamp, nI_1, nI_add, lit_mul, lit_add, add_lit, pk_mul, pk_us, pk_un, pk_uLs, pk_uLn, nI_eqL, nI_eq, one_0, ob1_s, ob2_s, ob3_s, ob4_s, ob5_s, isRow_s, JX10_read_24, JX10_read_29, bad1]
  · simp (disch := omega) only [bn_s, gd_in, if_pos, if_neg, i_lt, i_le, nI_toInt, Int32.reduceToInt, Int32.reduceSub, reduceIte, nI_clamp, nI_1, nI_add, lit_mul, lit_add, add_lit, pk_mul, pk_us, pk_un, pk_uLs, pk_uLn, nI_eqL, nI_eq, one_0, ob1_s, ob2_s, ob3_s, ob4_s, ob5_s, isRow_s, JX10_read_24, JX10_read_29, bad1]
theorem read_M1 {n : Nat} {th p q v : Int32} {R M : Nat → Int32} (h : ¬ ((0 ≤ p.toInt ∧ p.toInt < 2) ∧ (0 ≤ q.toInt ∧ q.toInt < 3))) :
    FX10_read n th R M p q v = some (0, 1, R, M) := by
  unfold FX10_read
  simp (disch := omega) only [bn_s, gd_in, if_pos, if_neg, i_lt, i_le, nI_toInt, Int32.reduceToInt, Int32.reduceSub, reduceIte, nI_clamp, nI_1, nI_add, lit_mul, lit_add, add_lit, pk_mul, pk_us, pk_un, pk_uLs, pk_uLn, nI_eqL, nI_eq, one_0, ob1_s, ob2_s, ob3_s, ob4_s, ob5_s, isRow_s]
theorem RowR.add {f : Nat → Int32} {sz v : Int32} {R M : Nat → Int32} {r k : Nat} (h : RowR f sz R M r k) (hk : k < 300) (hv : rng v) :
    RowR (upd f k v) (nI (k + 1)) (upd R (300 * r + k) v) (upd M r (nI (k + 1))) r (k + 1) ∧ Fr R M (upd R (300 * r + k) v) (upd M r (nI (k + 1))) r := by
  obtain ⟨h1, h2, h3, h4, h5⟩ := h
  refine ⟨⟨hk, rfl, pk_us, fun i hi => ?_, fun i hi => ?_⟩, fun j hj => pk_un hj, fun j i hj hi => pk_un (by omega)⟩
  · by_cases e : i = k
    · subst e; rw [pk_us, if_pos (by omega), pk_us]
    · rw [pk_un e, h4 i hi]
      by_cases h : i < k
      · rw [if_pos h, if_pos (by omega), pk_un (by omega)]
      · rw [if_neg h, if_neg (by omega)]
  · by_cases e : i = k
    · subst e; rw [pk_us]; exact Or.inr hv
    · rw [pk_un (by omega)]; exact h5 i (by omega)
theorem addLost_s {n k m : Nat} (hk : k ≤ 300) (hm : m ≤ 300) : FX2_addLost n (nI k) (nI m) = if k + m ≤ 300 then some (nI (k + m), nI (k + m)) else some (-1, nI k) := by
  unfold FX2_addLost
  have : (300 - nI k : Int32) = nI (300 - k) := pk_sub (a := 300) hk
  rw [this]
  by_cases h : k + m ≤ 300 <;> simp (disch := omega) only [bn_s, gd_in, if_pos, if_neg, i_lt, i_le, nI_toInt, Int32.reduceToInt, Int32.reduceSub, reduceIte, nI_clamp, nI_1, nI_add, lit_mul, lit_add, add_lit, pk_mul, pk_us, pk_un, pk_uLs, pk_uLn, nI_eqL, nI_eq, one_0, ob1_s, ob2_s, ob3_s, ob4_s, ob5_s]
theorem lost_L {r m : Nat} {th : Int32} (hr : r < 6) (hm : m ≤ 300) : ∀ d n k (R M : Nat → Int32), d ≤ m → d + 1 ≤ n → M r = nI k → k + d ≤ 300 →
    ∃ R' M', LX10_lost_63 n th R M (nI m) (nI r) (nI (m - d)) = some (nI (k + d), th, R', M') ∧ Fr R M R' M' r ∧ M' r = nI (k + d) ∧ ∀ i, i < 300 → R' (300 * r + i) = if k ≤ i ∧ i < k + d then -2000000000 else R (300 * r + i) := by
  intro d
  induction d with
  | zero =>
    intro n k R M hd hn hM hk
    obtain ⟨n, rfl⟩ : ∃ n', n = n' + 1 := ⟨n - 1, by omega⟩
    refine ⟨R, M, ?_, ⟨fun _ _ => rfl, fun _ _ _ _ => rfl⟩, hM, fun i hi => (if_neg (by omega)).symm⟩
    unfold LX10_lost_63 JX10_lost_63
    simp (disch := omega) only [bn_s, gd_in, if_pos, if_neg, i_lt, i_le, nI_toInt, Int32.reduceToInt, Int32.reduceSub, reduceIte, nI_clamp, nI_1, nI_add, lit_mul, lit_add, add_lit, pk_mul, pk_us, pk_un, pk_uLs, pk_uLn, nI_eqL, nI_eq, one_0, ob1_s, ob2_s, ob3_s, ob4_s, ob5_s, hM]
    rfl
  | succ d ih =>
    intro n k R M hd hn hM hk
    obtain ⟨n, rfl⟩ : ∃ n', n = n' + 1 := ⟨n - 1, by omega⟩
    obtain ⟨R', M', h1, h2, h3, h4⟩ := ih n (k + 1) (upd R (300 * r + k) (-2000000000)) (upd M r (nI (k + 1))) (by omega) (by omega) pk_us (by omega)
    refine ⟨R', M', ?_, ?_, ?_, ?_⟩
    · unfold LX10_lost_63 JX10_lost_63
      simp (disch := omega) only [bn_s, gd_in, if_pos, if_neg, i_lt, i_le, nI_toInt, Int32.reduceToInt, Int32.reduceSub, reduceIte, nI_clamp, nI_1, nI_add, lit_mul, lit_add, add_lit, pk_mul, pk_us, pk_un, pk_uLs, pk_uLn, nI_eqL, nI_eq, one_0, ob1_s, ob2_s, ob3_s, ob4_s, ob5_s, hM]
      rw [show m - (d + 1) + 1 = m - d by omega, h1, show k + 1 + d = k + (d + 1) by omega]
    · refine ⟨fun j hj => ?_, fun j i hj hi => ?_⟩
      · rw [h2.1 j hj, pk_un hj]
      · rw [h2.2 j i hj hi, pk_un (by omega)]
    · rw [h3, show k + 1 + d = k + (d + 1) by omega]
    · intro i hi
      rw [h4 i hi]
      by_cases e : i = k
      · subst e; rw [if_neg (by omega), if_pos (by omega), pk_us]
      · rw [pk_un (by omega)]
        by_cases h : k + 1 ≤ i ∧ i < k + 1 + d
        · rw [if_pos h, if_pos (by omega)]
        · rw [if_neg h, if_neg (by omega)]
theorem lost_M {n s t k m : Nat} {th : Int32} {R M : Nat → Int32} (hn : 400 ≤ n) (hs : s < 2) (ht : t < 3) (hm : 1 ≤ m) (hm2 : m ≤ 300) (hk : k ≤ 300) (hM : M (3 * s + t) = nI k) (hkm : k + m ≤ 300) :
    ∃ R' M', FX10_lost n th R M (nI s) (nI t) (nI m) = some (nI (k + m), 0, R', M') ∧ Fr R M R' M' (3 * s + t) ∧ M' (3 * s + t) = nI (k + m) ∧ ∀ i, i < 300 → R' (300 * (3 * s + t) + i) = if k ≤ i ∧ i < k + m then -2000000000 else R (300 * (3 * s + t) + i) := by
  obtain ⟨R', M', h1, h2⟩ := lost_L (r := 3 * s + t) (m := m) (th := 0) (by omega) hm2 m n k R M (by omega) (by omega) hM (by omega)
  refine ⟨R', M', ?_, h2⟩
  rw [Nat.sub_self] at h1
  unfold FX10_lost
  simp (disch := omega) only [bn_s, gd_in, if_pos, if_neg, i_lt, i_le, nI_toInt, Int32.reduceToInt, Int32.reduceSub, reduceIte, nI_clamp, nI_1, nI_add, lit_mul, lit_add, add_lit, pk_mul, pk_us, pk_un, pk_uLs, pk_uLn, nI_eqL, nI_eq, one_0, ob1_s, ob2_s, ob3_s, ob4_s, ob5_s, isRow_s, JX10_lost_27, bad0, rowOf_s, hM]
  exact h1
theorem lost_M0 {n s t k m : Nat} {th : Int32} {R M : Nat → Int32} (hs : s < 2) (ht : t < 3) (hm : 1 ≤ m) (hm2 : m ≤ 300) (hk : k ≤ 300) (hM : M (3 * s + t) = nI k) (hkm : 300 < k + m) :
    FX10_lost n th R M (nI s) (nI t) (nI m) = some (-1, 0, R, M) := by
  unfold FX10_lost
  simp (disch := omega) only [bn_s, gd_in, if_pos, if_neg, i_lt, i_le, nI_toInt, Int32.reduceToInt, Int32.reduceSub, reduceIte, nI_clamp, nI_1, nI_add, lit_mul, lit_add, add_lit, pk_mul, pk_us, pk_un, pk_uLs, pk_uLn, nI_eqL, nI_eq, one_0, ob1_s, ob2_s, ob3_s, ob4_s, ob5_s, isRow_s, JX10_lost_27, bad0, rowOf_s, hM]
theorem lost_M2 {n s t : Nat} {th v : Int32} {R M : Nat → Int32} (hs : s < 2) (ht : t < 3) (hv : ¬ (1 ≤ v.toInt ∧ v.toInt ≤ 300)) :
    FX10_lost n th R M (nI s) (nI t) v = some (0, 2, R, M) := by
  unfold FX10_lost
  by_cases h : v.toInt < 1
  · simp (disch := omega) only [bn_s, gd_in, if_pos, if_neg, i_lt, i_le, nI_toInt, Int32.reduceToInt, Int32.reduceSub, reduceIte, nI_clamp, nI_1, nI_add, lit_mul, lit_add, add_lit, pk_mul, pk_us, pk_un, pk_uLs, pk_uLn, nI_eqL, nI_eq, one_0, ob1_s, ob2_s, ob3_s, ob4_s, ob5_s, isRow_s, JX10_lost_22, JX10_lost_27, bad1]
  · simp (disch := omega) only [bn_s, gd_in, if_pos, if_neg, i_lt, i_le, nI_toInt, Int32.reduceToInt, Int32.reduceSub, reduceIte, nI_clamp, nI_1, nI_add, lit_mul, lit_add, add_lit, pk_mul, pk_us, pk_un, pk_uLs, pk_uLn, nI_eqL, nI_eq, one_0, ob1_s, ob2_s, ob3_s, ob4_s, ob5_s, isRow_s, JX10_lost_22, JX10_lost_27, bad1]
theorem lost_M1 {n : Nat} {th p q v : Int32} {R M : Nat → Int32} (h : ¬ ((0 ≤ p.toInt ∧ p.toInt < 2) ∧ (0 ≤ q.toInt ∧ q.toInt < 3))) :
    FX10_lost n th R M p q v = some (0, 1, R, M) := by
  unfold FX10_lost
  simp (disch := omega) only [bn_s, gd_in, if_pos, if_neg, i_lt, i_le, nI_toInt, Int32.reduceToInt, Int32.reduceSub, reduceIte, nI_clamp, nI_1, nI_add, lit_mul, lit_add, add_lit, pk_mul, pk_us, pk_un, pk_uLs, pk_uLn, nI_eqL, nI_eq, one_0, ob1_s, ob2_s, ob3_s, ob4_s, ob5_s, isRow_s]
theorem RowR.lost {f : Nat → Int32} {sz : Int32} {R M R' M' : Nat → Int32} {r k m : Nat} (h : RowR f sz R M r k) (hk : k + m ≤ 300) (hM : M' r = nI (k + m)) (hR : ∀ i, i < 300 → R' (300 * r + i) = if k ≤ i ∧ i < k + m then -2000000000 else R (300 * r + i)) :
    RowR f (nI (k + m)) R' M' r (k + m) := by
  obtain ⟨h1, h2, h3, h4, h5⟩ := h
  refine ⟨hk, rfl, hM, fun i hi => ?_, fun i hi => ?_⟩
  · rw [h4 i hi, hR i hi]
    by_cases h : i < k
    · rw [if_pos h, if_pos (by omega), if_neg (by omega)]
    · rw [if_neg h]
      by_cases h6 : i < k + m
      · rw [if_pos h6, if_pos (by omega)]
      · rw [if_neg h6]
  · rw [hR i (by omega)]
    by_cases h : i < k
    · rw [if_neg (by omega)]; exact h5 i h
    · rw [if_pos (by omega)]; exact Or.inl rfl
/-- the reading at a time, told by both -/
def rdv (f : Nat → Int32) (x : Int32) : Int32 := if 0 ≤ x.toInt ∧ x.toInt < 300 then f x.toInt.toNat else -2000000000
theorem reading_C {n : Nat} {f : Nat → Int32} {x : Int32} : FX2_reading n f x = some (rdv f x) := by
  unfold FX2_reading rdv
  by_cases h : 0 ≤ x.toInt ∧ x.toInt < 300
  · obtain ⟨j, hj, rfl⟩ := of_lt (x := x) (N := 300) (by omega) (by omega) (by omega)
    simp (disch := omega) only [bn_s, gd_in, if_pos, if_neg, i_lt, i_le, nI_toInt, Int32.reduceToInt, Int32.reduceSub, reduceIte, nI_clamp, nI_1, nI_add, lit_mul, lit_add, add_lit, pk_mul, pk_us, pk_un, pk_uLs, pk_uLn, nI_eqL, nI_eq, one_0, ob1_s, ob2_s, ob3_s, ob4_s, ob5_s]
    rw [show ((j : Int)).toNat = j by omega]
  · by_cases h1 : x.toInt < 0
    · simp (disch := omega) only [bn_s, gd_in, if_pos, if_neg, i_lt, i_le, nI_toInt, Int32.reduceToInt, Int32.reduceSub, reduceIte, nI_clamp, nI_1, nI_add, lit_mul, lit_add, add_lit, pk_mul, pk_us, pk_un, pk_uLs, pk_uLn, nI_eqL, nI_eq, one_0, ob1_s, ob2_s, ob3_s, ob4_s, ob5_s]
    · simp (disch := omega) only [bn_s, gd_in, if_pos, if_neg, i_lt, i_le, nI_toInt, Int32.reduceToInt, Int32.reduceSub, reduceIte, nI_clamp, nI_1, nI_add, lit_mul, lit_add, add_lit, pk_mul, pk_us, pk_un, pk_uLs, pk_uLn, nI_eqL, nI_eq, one_0, ob1_s, ob2_s, ob3_s, ob4_s, ob5_s]
theorem reading_M {n s t k : Nat} {f : Nat → Int32} {sz x : Int32} {R M : Nat → Int32} (hs : s < 2) (ht : t < 3) (h : RowR f sz R M (3 * s + t) k) : FX10_reading n R M (nI s) (nI t) x = some (rdv f x) := by
  obtain ⟨h1, h2, h3, h4, h5⟩ := h
  unfold FX10_reading rdv
  by_cases h : 0 ≤ x.toInt ∧ x.toInt < 300
  · obtain ⟨j, hj, rfl⟩ := of_lt (x := x) (N := 300) (by omega) (by omega) (by omega)
    have hj4 := h4 j hj
    by_cases hk : j < k
    · rw [if_pos hk] at hj4
      simp (disch := omega) only [bn_s, gd_in, if_pos, if_neg, i_lt, i_le, nI_toInt, Int32.reduceToInt, Int32.reduceSub, reduceIte, nI_clamp, nI_1, nI_add, lit_mul, lit_add, add_lit, pk_mul, pk_us, pk_un, pk_uLs, pk_uLn, nI_eqL, nI_eq, one_0, ob1_s, ob2_s, ob3_s, ob4_s, ob5_s, rowOf_s, h3]
      rw [show ((j : Int)).toNat = j by omega, hj4]
    · rw [if_neg hk] at hj4
      simp (disch := omega) only [bn_s, gd_in, if_pos, if_neg, i_lt, i_le, nI_toInt, Int32.reduceToInt, Int32.reduceSub, reduceIte, nI_clamp, nI_1, nI_add, lit_mul, lit_add, add_lit, pk_mul, pk_us, pk_un, pk_uLs, pk_uLn, nI_eqL, nI_eq, one_0, ob1_s, ob2_s, ob3_s, ob4_s, ob5_s, rowOf_s, h3]
      rw [show ((j : Int)).toNat = j by omega, hj4]
  · by_cases h1 : x.toInt < 0
    · simp (disch := omega) only [bn_s, gd_in, if_pos, if_neg, i_lt, i_le, nI_toInt, Int32.reduceToInt, Int32.reduceSub, reduceIte, nI_clamp, nI_1, nI_add, lit_mul, lit_add, add_lit, pk_mul, pk_us, pk_un, pk_uLs, pk_uLn, nI_eqL, nI_eq, one_0, ob1_s, ob2_s, ob3_s, ob4_s, ob5_s, rowOf_s]
    · simp (disch := omega) only [bn_s, gd_in, if_pos, if_neg, i_lt, i_le, nI_toInt, Int32.reduceToInt, Int32.reduceSub, reduceIte, nI_clamp, nI_1, nI_add, lit_mul, lit_add, add_lit, pk_mul, pk_us, pk_un, pk_uLs, pk_uLn, nI_eqL, nI_eq, one_0, ob1_s, ob2_s, ob3_s, ob4_s, ob5_s, rowOf_s, h3]
theorem rdv_n {f : Nat → Int32} {j : Nat} (h : j < 300) : rdv f (nI j) = f j := by
  unfold rdv
  simp (disch := omega) only [bn_s, gd_in, if_pos, if_neg, i_lt, i_le, nI_toInt, Int32.reduceToInt, Int32.reduceSub, reduceIte, nI_clamp, nI_1, nI_add, lit_mul, lit_add, add_lit, pk_mul, pk_us, pk_un, pk_uLs, pk_uLn, nI_eqL, nI_eq, one_0, ob1_s, ob2_s, ob3_s, ob4_s, ob5_s]
  rw [show ((j : Int)).toNat = j by omega]
theorem rdv_r {f : Nat → Int32} {sz x : Int32} {R M : Nat → Int32} {r k : Nat} (h : RowR f sz R M r k) : rdv f x = -2000000000 ∨ rng (rdv f x) := by
  unfold rdv
  obtain ⟨h1, h2, h3, h4, h5⟩ := h
  by_cases h : 0 ≤ x.toInt ∧ x.toInt < 300
  · rw [if_pos h, h4 _ (by omega)]
    by_cases hk : x.toInt.toNat < k
    · rw [if_pos hk]; exact h5 _ hk
    · rw [if_neg hk]; exact Or.inl rfl
  · rw [if_neg h]; exact Or.inl rfl
theorem at_M {n s t k : Nat} {f : Nat → Int32} {sz x th : Int32} {R M : Nat → Int32} (hs : s < 2) (ht : t < 3) (h : RowR f sz R M (3 * s + t) k) : FX10_at n th R M (nI s) (nI t) x = some (rdv f x, 0) := by
  unfold FX10_at
  simp (disch := omega) only [bn_s, gd_in, if_pos, if_neg, i_lt, i_le, nI_toInt, Int32.reduceToInt, Int32.reduceSub, reduceIte, nI_clamp, nI_1, nI_add, lit_mul, lit_add, add_lit, pk_mul, pk_us, pk_un, pk_uLs, pk_uLn, nI_eqL, nI_eq, one_0, ob1_s, ob2_s, ob3_s, ob4_s, ob5_s, isRow_s, reading_M hs ht h]
theorem at_M1 {n : Nat} {th p q v : Int32} {R M : Nat → Int32} (h : ¬ ((0 ≤ p.toInt ∧ p.toInt < 2) ∧ (0 ≤ q.toInt ∧ q.toInt < 3))) :
    FX10_at n th R M p q v = some (0, 1) := by
  unfold FX10_at
  simp (disch := omega) only [bn_s, gd_in, if_pos, if_neg, i_lt, i_le, nI_toInt, Int32.reduceToInt, Int32.reduceSub, reduceIte, nI_clamp, nI_1, nI_add, lit_mul, lit_add, add_lit, pk_mul, pk_us, pk_un, pk_uLs, pk_uLn, nI_eqL, nI_eq, one_0, ob1_s, ob2_s, ob3_s, ob4_s, ob5_s, isRow_s]
