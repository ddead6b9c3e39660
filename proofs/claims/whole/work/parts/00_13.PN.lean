/-- a move may be -/
def okE (f : Nat → Int32) (by_ : Int32) (i : Nat) : Prop := f i = -2000000000 ∨ rng (f i + by_)
def cnt (f : Nat → Int32) : Nat → Nat
  | 0 => 0
  | d + 1 => (if f (300 - (d + 1)) = -2000000000 then 0 else 1) + cnt f d
theorem canMove_A {f : Nat → Int32} {b : Int32} : ∀ d n, d ≤ 300 → d + 1 ≤ n → (∀ i, 300 - d ≤ i → i < 300 → okE f b i) → LX2_canMove_2 n f b (nI (300 - d)) = some 1 := by
  intro d
  induction d with
  | zero =>
    intro n _ hn _
    obtain ⟨n, rfl⟩ : ∃ m, n = m + 1 := ⟨n - 1, by omega⟩
    unfold LX2_canMove_2 JX2_canMove_2; simp (disch := omega) only [bn_s, gd_in, if_pos, if_neg, i_lt, i_le, nI_toInt, Int32.reduceToInt, Int32.reduceSub, reduceIte, nI_clamp, nI_1, nI_add, lit_mul, lit_add, add_lit, pk_mul, pk_us, pk_un, pk_uLs, pk_uLn, nI_eqL, nI_eq, one_0, ob1_s, ob2_s, ob3_s, ob4_s, ob5_s]
  | succ d ih =>
    intro n hd hn ho
    obtain ⟨n, rfl⟩ : ∃ m, n = m + 1 := ⟨n - 1, by omega⟩
    have i1 := ih n (by omega) (by omega) (fun i h1 h2 => ho i (by omega) h2)
    rw [show 300 - d = 300 - (d + 1) + 1 by omega] at i1
    have o := ho (300 - (d + 1)) (by omega) (by omega)
    unfold okE rng at o
    unfold LX2_canMove_2 JX2_canMove_2
    by_cases c : f (300 - (d + 1)) = -2000000000
    · simp (disch := omega) only [bn_s, gd_in, if_pos, if_neg, i_lt, i_le, nI_toInt, Int32.reduceToInt, Int32.reduceSub, reduceIte, nI_clamp, nI_1, nI_add, lit_mul, lit_add, add_lit, pk_mul, pk_us, pk_un, pk_uLs, pk_uLn, nI_eqL, nI_eq, one_0, ob1_s, ob2_s, ob3_s, ob4_s, ob5_s, reading_C, rdv_n, c]; exact i1
    · have o2 := o.resolve_left c
      simp (disch := omega) only [bn_s, gd_in, if_pos, if_neg, i_lt, i_le, nI_toInt, Int32.reduceToInt, Int32.reduceSub, reduceIte, nI_clamp, nI_1, nI_add, lit_mul, lit_add, add_lit, pk_mul, pk_us, pk_un, pk_uLs, pk_uLn, nI_eqL, nI_eq, one_0, ob1_s, ob2_s, ob3_s, ob4_s, ob5_s, reading_C, rdv_n, c, within_s, one_0]; exact i1
theorem canMove_B {f : Nat → Int32} {b : Int32} : ∀ d n, d ≤ 300 → d + 1 ≤ n → (∃ i, 300 - d ≤ i ∧ i < 300 ∧ ¬ okE f b i) → LX2_canMove_2 n f b (nI (300 - d)) = some 0 := by
  intro d
  induction d with
  | zero => intro n _ _ ho; obtain ⟨i, h1, h2, _⟩ := ho; omega
  | succ d ih =>
    intro n hd hn ho
    obtain ⟨n, rfl⟩ : ∃ m, n = m + 1 := ⟨n - 1, by omega⟩
    unfold LX2_canMove_2 JX2_canMove_2
    by_cases o : okE f b (300 - (d + 1))
    · have i1 := ih n (by omega) (by omega) (by
        obtain ⟨i, h1, h2, h3⟩ := ho
        refine ⟨i, ?_, h2, h3⟩
        by_cases e : i = 300 - (d + 1)
        · subst e; exact absurd o h3
        · omega)
      rw [show 300 - d = 300 - (d + 1) + 1 by omega] at i1
      unfold okE rng at o
      by_cases c : f (300 - (d + 1)) = -2000000000
      · simp (disch := omega) only [bn_s, gd_in, if_pos, if_neg, i_lt, i_le, nI_toInt, Int32.reduceToInt, Int32.reduceSub, reduceIte, nI_clamp, nI_1, nI_add, lit_mul, lit_add, add_lit, pk_mul, pk_us, pk_un, pk_uLs, pk_uLn, nI_eqL, nI_eq, one_0, ob1_s, ob2_s, ob3_s, ob4_s, ob5_s, reading_C, rdv_n, c]; exact i1
      · have o2 := o.resolve_left c
        simp (disch := omega) only [bn_s, gd_in, if_pos, if_neg, i_lt, i_le, nI_toInt, Int32.reduceToInt, Int32.reduceSub, reduceIte, nI_clamp, nI_1, nI_add, lit_mul, lit_add, add_lit, pk_mul, pk_us, pk_un, pk_uLs, pk_uLn, nI_eqL, nI_eq, one_0, ob1_s, ob2_s, ob3_s, ob4_s, ob5_s, reading_C, rdv_n, c, within_s, one_0]; exact i1
    · unfold okE rng at o
      have c : ¬ f (300 - (d + 1)) = -2000000000 := fun h => o (Or.inl h)
      have o2 : ¬ _ := fun h => o (Or.inr h)
      simp (disch := omega) only [bn_s, gd_in, if_pos, if_neg, i_lt, i_le, nI_toInt, Int32.reduceToInt, Int32.reduceSub, reduceIte, nI_clamp, nI_1, nI_add, lit_mul, lit_add, add_lit, pk_mul, pk_us, pk_un, pk_uLs, pk_uLn, nI_eqL, nI_eq, one_0, ob1_s, ob2_s, ob3_s, ob4_s, ob5_s, reading_C, rdv_n, c, within_s]
theorem cnt_e {f g : Nat → Int32} : ∀ d, d ≤ 300 → (∀ i, 300 - d ≤ i → i < 300 → f i = g i) → cnt f d = cnt g d := by
  intro d
  induction d with
  | zero => intro _ _; rfl
  | succ d ih =>
    intro hd h
    unfold cnt
    rw [ih (by omega) (fun i h1 h2 => h i (by omega) h2), h _ (by omega) (by omega)]
theorem cnt_le {f : Nat → Int32} : ∀ d, cnt f d ≤ d := by
  intro d
  induction d with
  | zero => exact Nat.le_refl _
  | succ d ih =>
    unfold cnt
    by_cases c : f (300 - (d + 1)) = -2000000000
    · rw [if_pos c]; omega
    · rw [if_neg c]; omega
theorem cnt_0 {f : Nat → Int32} : ∀ d, d ≤ 300 → (∀ i, 300 - d ≤ i → i < 300 → f i = -2000000000) → cnt f d = 0 := by
  intro d
  induction d with
  | zero => intro _ _; rfl
  | succ d ih =>
    intro hd h
    unfold cnt
    rw [ih (by omega) (fun i h1 h2 => h i (by omega) h2), if_pos (h _ (by omega) (by omega))]
theorem move_L {b : Int32} : ∀ d n m (f : Nat → Int32), d ≤ 300 → d + 1 ≤ n → ∃ f', LX2_move_20 n f b (nI m) (nI (300 - d)) = some (nI (m + cnt f d), f') ∧ ∀ i, i < 300 → f' i = if 300 - d ≤ i ∧ ¬ f i = -2000000000 then f i + b else f i := by
  intro d
  induction d with
  | zero =>
    intro n m f _ hn
    obtain ⟨n, rfl⟩ : ∃ m, n = m + 1 := ⟨n - 1, by omega⟩
    refine ⟨f, ?_, fun i hi => by rw [if_neg (by omega)]⟩
    unfold LX2_move_20 JX2_move_20 cnt; simp (disch := omega) only [bn_s, gd_in, if_pos, if_neg, i_lt, i_le, nI_toInt, Int32.reduceToInt, Int32.reduceSub, reduceIte, nI_clamp, nI_1, nI_add, lit_mul, lit_add, add_lit, pk_mul, pk_us, pk_un, pk_uLs, pk_uLn, nI_eqL, nI_eq, one_0, ob1_s, ob2_s, ob3_s, ob4_s, ob5_s]; rfl
  | succ d ih =>
    intro n m f hd hn
    obtain ⟨n, rfl⟩ : ∃ m, n = m + 1 := ⟨n - 1, by omega⟩
    unfold LX2_move_20 JX2_move_20
    by_cases c : f (300 - (d + 1)) = -2000000000
    · obtain ⟨f', i1, i2⟩ := ih n m f (by omega) (by omega)
      rw [show 300 - d = 300 - (d + 1) + 1 by omega] at i1
      refine ⟨f', ?_, fun i hi => ?_⟩
      · simp (disch := omega) only [bn_s, gd_in, if_pos, if_neg, i_lt, i_le, nI_toInt, Int32.reduceToInt, Int32.reduceSub, reduceIte, nI_clamp, nI_1, nI_add, lit_mul, lit_add, add_lit, pk_mul, pk_us, pk_un, pk_uLs, pk_uLn, nI_eqL, nI_eq, one_0, ob1_s, ob2_s, ob3_s, ob4_s, ob5_s, c]
        rw [show m + cnt f (d + 1) = m + cnt f d by conv => { lhs; unfold cnt }; rw [if_pos c]; omega]; exact i1
      · rw [i2 i hi]
        by_cases e : i = 300 - (d + 1)
        · subst e; rw [if_neg (by omega), if_neg (fun h => h.2 c)]
        · by_cases e2 : 300 - d ≤ i ∧ ¬ f i = -2000000000
          · rw [if_pos e2, if_pos ⟨by omega, e2.2⟩]
          · rw [if_neg e2, if_neg (fun h => e2 ⟨by omega, h.2⟩)]
    · obtain ⟨f', i1, i2⟩ := ih n (m + 1) (upd f (300 - (d + 1)) (f (300 - (d + 1)) + b)) (by omega) (by omega)
      rw [cnt_e (g := f) d (by omega) (fun i h1 h2 => pk_un (by omega)), show 300 - d = 300 - (d + 1) + 1 by omega] at i1
      refine ⟨f', ?_, fun i hi => ?_⟩
      · simp (disch := omega) only [bn_s, gd_in, if_pos, if_neg, i_lt, i_le, nI_toInt, Int32.reduceToInt, Int32.reduceSub, reduceIte, nI_clamp, nI_1, nI_add, lit_mul, lit_add, add_lit, pk_mul, pk_us, pk_un, pk_uLs, pk_uLn, nI_eqL, nI_eq, one_0, ob1_s, ob2_s, ob3_s, ob4_s, ob5_s, c]
        rw [show m + cnt f (d + 1) = m + 1 + cnt f d by conv => { lhs; unfold cnt }; rw [if_neg c]; omega]; exact i1
      · rw [i2 i hi]
        by_cases e : i = 300 - (d + 1)
        · subst e; rw [if_neg (by omega), pk_us, if_pos ⟨by omega, c⟩]
        · rw [pk_un e]
          by_cases e2 : 300 - d ≤ i ∧ ¬ f i = -2000000000
          · rw [if_pos e2, if_pos ⟨by omega, e2.2⟩]
          · rw [if_neg e2, if_neg (fun h => e2 ⟨by omega, h.2⟩)]
theorem moveM_L {r k : Nat} {b x6 th : Int32} {M : Nat → Int32} (hr : r < 6) (hk : k ≤ 300) (hM : M r = nI k) : ∀ d n (R : Nat → Int32), d ≤ 300 → d + 1 ≤ n → ∃ R', LX10_shift_129 n th R M b (nI r) x6 (nI (300 - d)) = some (x6, th, R') ∧ Fr R M R' M r ∧ ∀ i, i < 300 → R' (300 * r + i) = if 300 - d ≤ i ∧ i < k ∧ ¬ R (300 * r + i) = -2000000000 then R (300 * r + i) + b else R (300 * r + i) := by
  intro d
  induction d with
  | zero =>
    intro n R _ hn
    obtain ⟨n, rfl⟩ : ∃ m, n = m + 1 := ⟨n - 1, by omega⟩
    refine ⟨R, ?_, ⟨fun _ _ => rfl, fun _ _ _ _ => rfl⟩, fun i hi => by rw [if_neg (by omega)]⟩
    unfold LX10_shift_129 JX10_shift_129; simp (disch := omega) only [bn_s, gd_in, if_pos, if_neg, i_lt, i_le, nI_toInt, Int32.reduceToInt, Int32.reduceSub, reduceIte, nI_clamp, nI_1, nI_add, lit_mul, lit_add, add_lit, pk_mul, pk_us, pk_un, pk_uLs, pk_uLn, nI_eqL, nI_eq, one_0, ob1_s, ob2_s, ob3_s, ob4_s, ob5_s, hM]
  | succ d ih =>
    intro n R hd hn
    obtain ⟨n, rfl⟩ : ∃ m, n = m + 1 := ⟨n - 1, by omega⟩
    unfold LX10_shift_129 JX10_shift_129
    by_cases ck : k ≤ 300 - (d + 1)
    · refine ⟨R, by simp (disch := omega) only [bn_s, gd_in, if_pos, if_neg, i_lt, i_le, nI_toInt, Int32.reduceToInt, Int32.reduceSub, reduceIte, nI_clamp, nI_1, nI_add, lit_mul, lit_add, add_lit, pk_mul, pk_us, pk_un, pk_uLs, pk_uLn, nI_eqL, nI_eq, one_0, ob1_s, ob2_s, ob3_s, ob4_s, ob5_s, hM], ⟨fun _ _ => rfl, fun _ _ _ _ => rfl⟩, fun i hi => by rw [if_neg (by omega)]⟩
    · by_cases c : R (300 * r + (300 - (d + 1))) = -2000000000
      · obtain ⟨R', i1, i3, i2⟩ := ih n R (by omega) (by omega)
        rw [show 300 - d = 300 - (d + 1) + 1 by omega] at i1
        refine ⟨R', ?_, i3, fun i hi => ?_⟩
        · simp (disch := omega) only [bn_s, gd_in, if_pos, if_neg, i_lt, i_le, nI_toInt, Int32.reduceToInt, Int32.reduceSub, reduceIte, nI_clamp, nI_1, nI_add, lit_mul, lit_add, add_lit, pk_mul, pk_us, pk_un, pk_uLs, pk_uLn, nI_eqL, nI_eq, one_0, ob1_s, ob2_s, ob3_s, ob4_s, ob5_s, hM, c]; exact i1
        · rw [i2 i hi]
          by_cases e : i = 300 - (d + 1)
          · subst e; rw [if_neg (by omega), if_neg (fun h => h.2.2 c)]
          · by_cases e2 : 300 - d ≤ i ∧ i < k ∧ ¬ R (300 * r + i) = -2000000000
            · rw [if_pos e2, if_pos ⟨by omega, e2.2⟩]
            · rw [if_neg e2, if_neg (fun h => e2 ⟨by omega, h.2⟩)]
      · obtain ⟨R', i1, i3, i2⟩ := ih n (upd R (300 * r + (300 - (d + 1))) (R (300 * r + (300 - (d + 1))) + b)) (by omega) (by omega)
        rw [show 300 - d = 300 - (d + 1) + 1 by omega] at i1
        refine ⟨R', ?_, ⟨fun _ _ => rfl, fun j i hj hi => by rw [i3.2 j i hj hi, pk_un (by omega)]⟩, fun i hi => ?_⟩
        · simp (disch := omega) only [bn_s, gd_in, if_pos, if_neg, i_lt, i_le, nI_toInt, Int32.reduceToInt, Int32.reduceSub, reduceIte, nI_clamp, nI_1, nI_add, lit_mul, lit_add, add_lit, pk_mul, pk_us, pk_un, pk_uLs, pk_uLn, nI_eqL, nI_eq, one_0, ob1_s, ob2_s, ob3_s, ob4_s, ob5_s, hM, c]; exact i1
        · rw [i2 i hi]
          by_cases e : i = 300 - (d + 1)
          · subst e; rw [if_neg (by omega), pk_us, if_pos ⟨by omega, by omega, c⟩]
          · rw [pk_un (by omega)]
            by_cases e2 : 300 - d ≤ i ∧ i < k ∧ ¬ R (300 * r + i) = -2000000000
            · rw [if_pos e2, if_pos ⟨by omega, e2.2⟩]
            · rw [if_neg e2, if_neg (fun h => e2 ⟨by omega, h.2⟩)]
theorem chkM_A {r k : Nat} {b th x3 z : Int32} {f R M : Nat → Int32} (hr : r < 6) (h : RowR f z R M r k) : ∀ d n m, d ≤ 300 → d + 1 ≤ n → (∀ i, 300 - d ≤ i → i < 300 → okE f b i) → ∃ n', n - d - 1 ≤ n' ∧ LX10_shift_55 n th R M x3 b (nI r) (nI m) (nI (300 - d)) = LX10_shift_129 n' th R M b (nI r) (nI (m + cnt f d)) x3 := by
  obtain ⟨hk, _, hM, hf, _⟩ := h
  intro d
  induction d with
  | zero =>
    intro n m _ hn _
    obtain ⟨n, rfl⟩ : ∃ m, n = m + 1 := ⟨n - 1, by omega⟩
    refine ⟨n, by omega, ?_⟩
    unfold LX10_shift_55 JX10_shift_55 cnt; simp (disch := omega) only [bn_s, gd_in, if_pos, if_neg, i_lt, i_le, nI_toInt, Int32.reduceToInt, Int32.reduceSub, reduceIte, nI_clamp, nI_1, nI_add, lit_mul, lit_add, add_lit, pk_mul, pk_us, pk_un, pk_uLs, pk_uLn, nI_eqL, nI_eq, one_0, ob1_s, ob2_s, ob3_s, ob4_s, ob5_s, hM]; rfl
  | succ d ih =>
    intro n m hd hn ho
    obtain ⟨n, rfl⟩ : ∃ m, n = m + 1 := ⟨n - 1, by omega⟩
    by_cases ck : k ≤ 300 - (d + 1)
    · refine ⟨n, by omega, ?_⟩
      rw [cnt_0 (d + 1) hd (fun i h1 h2 => by rw [hf i h2, if_neg (by omega)])]
      unfold LX10_shift_55 JX10_shift_55; simp (disch := omega) only [bn_s, gd_in, if_pos, if_neg, i_lt, i_le, nI_toInt, Int32.reduceToInt, Int32.reduceSub, reduceIte, nI_clamp, nI_1, nI_add, lit_mul, lit_add, add_lit, pk_mul, pk_us, pk_un, pk_uLs, pk_uLn, nI_eqL, nI_eq, one_0, ob1_s, ob2_s, ob3_s, ob4_s, ob5_s, hM]; rfl
    · have e := hf (300 - (d + 1)) (by omega)
      rw [if_pos (by omega)] at e
      have o := ho (300 - (d + 1)) (by omega) (by omega)
      unfold okE rng at o
      by_cases c : f (300 - (d + 1)) = -2000000000
      · obtain ⟨n', i0, i1⟩ := ih n m (by omega) (by omega) (fun i h1 h2 => ho i (by omega) h2)
        rw [show 300 - d = 300 - (d + 1) + 1 by omega] at i1
        refine ⟨n', by omega, ?_⟩
        rw [show m + cnt f (d + 1) = m + cnt f d by conv => { lhs; unfold cnt }; rw [if_pos c]; omega, ← i1]
        conv => lhs; unfold LX10_shift_55 JX10_shift_55
        rw [e] at c
        simp (disch := omega) only [bn_s, gd_in, if_pos, if_neg, i_lt, i_le, nI_toInt, Int32.reduceToInt, Int32.reduceSub, reduceIte, nI_clamp, nI_1, nI_add, lit_mul, lit_add, add_lit, pk_mul, pk_us, pk_un, pk_uLs, pk_uLn, nI_eqL, nI_eq, one_0, ob1_s, ob2_s, ob3_s, ob4_s, ob5_s, hM, c]
      · obtain ⟨n', i0, i1⟩ := ih n (m + 1) (by omega) (by omega) (fun i h1 h2 => ho i (by omega) h2)
        rw [show 300 - d = 300 - (d + 1) + 1 by omega] at i1
        refine ⟨n', by omega, ?_⟩
        rw [show m + cnt f (d + 1) = m + 1 + cnt f d by conv => { lhs; unfold cnt }; rw [if_neg c]; omega, ← i1]
        conv => lhs; unfold LX10_shift_55 JX10_shift_55
        have o2 := o.resolve_left c
        rw [e] at c o2
        simp (disch := omega) only [bn_s, gd_in, if_pos, if_neg, i_lt, i_le, nI_toInt, Int32.reduceToInt, Int32.reduceSub, reduceIte, nI_clamp, nI_1, nI_add, lit_mul, lit_add, add_lit, pk_mul, pk_us, pk_un, pk_uLs, pk_uLn, nI_eqL, nI_eq, one_0, ob1_s, ob2_s, ob3_s, ob4_s, ob5_s, hM, c]
theorem chkM_B {r k : Nat} {b th x3 z : Int32} {f R M : Nat → Int32} (hr : r < 6) (h : RowR f z R M r k) : ∀ d n m, d ≤ 300 → d + 1 ≤ n → (∃ i, 300 - d ≤ i ∧ i < 300 ∧ ¬ okE f b i) → LX10_shift_55 n th R M x3 b (nI r) (nI m) (nI (300 - d)) = some (-1, th, R) := by
  obtain ⟨hk, _, hM, hf, _⟩ := h
  intro d
  induction d with
  | zero => intro n m _ _ ho; obtain ⟨i, h1, h2, _⟩ := ho; omega
  | succ d ih =>
    intro n m hd hn ho
    obtain ⟨n, rfl⟩ : ∃ m, n = m + 1 := ⟨n - 1, by omega⟩
    have ck : 300 - (d + 1) < k := by
      obtain ⟨i, h1, h2, h3⟩ := ho
      by_cases e : i < k
      · omega
      · exact absurd (Or.inl (by rw [hf i h2, if_neg e])) h3
    have e := hf (300 - (d + 1)) (by omega)
    rw [if_pos (by omega)] at e
    unfold LX10_shift_55 JX10_shift_55
    by_cases o : okE f b (300 - (d + 1))
    · have i1 := fun m => ih n m (by omega) (by omega) (by
        obtain ⟨i, h1, h2, h3⟩ := ho
        refine ⟨i, ?_, h2, h3⟩
        by_cases e : i = 300 - (d + 1)
        · subst e; exact absurd o h3
        · omega)
      rw [show 300 - d = 300 - (d + 1) + 1 by omega] at i1
      unfold okE rng at o
      by_cases c : f (300 - (d + 1)) = -2000000000
      · rw [e] at c
        simp (disch := omega) only [bn_s, gd_in, if_pos, if_neg, i_lt, i_le, nI_toInt, Int32.reduceToInt, Int32.reduceSub, reduceIte, nI_clamp, nI_1, nI_add, lit_mul, lit_add, add_lit, pk_mul, pk_us, pk_un, pk_uLs, pk_uLn, nI_eqL, nI_eq, one_0, ob1_s, ob2_s, ob3_s, ob4_s, ob5_s, hM, c]; exact i1 m
      · have o2 := o.resolve_left c
        rw [e] at c o2
        simp (disch := omega) only [bn_s, gd_in, if_pos, if_neg, i_lt, i_le, nI_toInt, Int32.reduceToInt, Int32.reduceSub, reduceIte, nI_clamp, nI_1, nI_add, lit_mul, lit_add, add_lit, pk_mul, pk_us, pk_un, pk_uLs, pk_uLn, nI_eqL, nI_eq, one_0, ob1_s, ob2_s, ob3_s, ob4_s, ob5_s, hM, c]; exact i1 (m + 1)
    · unfold okE rng at o
      rw [e] at o
      have c : ¬ R (300 * r + (300 - (d + 1))) = -2000000000 := fun h => o (Or.inl h)
      have o2 : ¬ _ := fun h => o (Or.inr h)
      by_cases c2 : (R (300 * r + (300 - (d + 1))) + b).toInt < -30000
      · simp (disch := omega) only [bn_s, gd_in, if_pos, if_neg, i_lt, i_le, nI_toInt, Int32.reduceToInt, Int32.reduceSub, reduceIte, nI_clamp, nI_1, nI_add, lit_mul, lit_add, add_lit, pk_mul, pk_us, pk_un, pk_uLs, pk_uLn, nI_eqL, nI_eq, one_0, ob1_s, ob2_s, ob3_s, ob4_s, ob5_s, hM, c]
      · simp (disch := omega) only [bn_s, gd_in, if_pos, if_neg, i_lt, i_le, nI_toInt, Int32.reduceToInt, Int32.reduceSub, reduceIte, nI_clamp, nI_1, nI_add, lit_mul, lit_add, add_lit, pk_mul, pk_us, pk_un, pk_uLs, pk_uLn, nI_eqL, nI_eq, one_0, ob1_s, ob2_s, ob3_s, ob4_s, ob5_s, hM, c]
theorem RowR.move {f f' : Nat → Int32} {z b : Int32} {R R' M : Nat → Int32} {r k j : Nat} (h : RowR f z R M r k) (ho : ∀ i, j ≤ i → i < 300 → okE f b i) (hf : ∀ i, i < 300 → f' i = if j ≤ i ∧ ¬ f i = -2000000000 then f i + b else f i) (hR : ∀ i, i < 300 → R' (300 * r + i) = if j ≤ i ∧ i < k ∧ ¬ R (300 * r + i) = -2000000000 then R (300 * r + i) + b else R (300 * r + i)) :
    RowR f' z R' M r k := by
  obtain ⟨h1, h2, h3, h4, h5⟩ := h
  refine ⟨h1, h2, h3, fun i hi => ?_, fun i hi => ?_⟩
  · rw [hf i hi, hR i hi]
    have e := h4 i hi
    by_cases ck : i < k
    · rw [if_pos ck] at e ⊢
      rw [← e]
      by_cases c : j ≤ i ∧ ¬ f i = -2000000000
      · rw [if_pos c, if_pos ⟨c.1, ck, c.2⟩]
      · rw [if_neg c, if_neg (fun h => c ⟨h.1, h.2.2⟩)]
    · rw [if_neg ck] at e ⊢
      rw [if_neg (fun h => h.2 e), e]
  · rw [hR i (by omega)]
    have e := h4 i (by omega)
    rw [if_pos hi] at e
    by_cases c : j ≤ i ∧ i < k ∧ ¬ R (300 * r + i) = -2000000000
    · rw [if_pos c]
      have o := ho i c.1 (by omega)
      unfold okE at o
      rw [e] at o
      exact Or.inr (o.resolve_left c.2.2)
    · rw [if_neg c]; exact h5 i hi
