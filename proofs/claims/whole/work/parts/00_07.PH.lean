theorem i32_of64 {y : Int64} (h1 : -2147483648 ≤ y.toInt) (h2 : y.toInt ≤ 2147483647) : y.toInt32.toInt = y.toInt := by
  rw [Int64.toInt_toInt32]; exact Int.bmod_eq_of_le (by omega) (by omega)
theorem r64 {y : Int64} (h1 : -2147483648 ≤ y.toInt) (h2 : y.toInt ≤ 2147483647) : y.toInt32.toInt64 = y := by
  refine l_eq.mpr ?_
  rw [Int32.toInt_toInt64, i32_of64 h1 h2]
theorem last_of (q : Nat) (hq : 0 < q) (P : Nat → Prop) (hm : ∀ j k, j < k → k < q → P k → P j) : ∃ kk, kk < q ∧ (∀ j, 1 ≤ j → j ≤ kk → P j) ∧ ∀ j, kk < j → j < q → ¬ P j := by
  induction q with
  | zero => omega
  | succ q ih =>
    by_cases h0 : q = 0
    · subst h0; exact ⟨0, by omega, fun j _ _ => by omega, fun j _ _ => by omega⟩
    · obtain ⟨kk, h1, h2, h3⟩ := ih (by omega) (fun j k h h' => hm j k h (by omega))
      by_cases hp : P q
      · refine ⟨q, by omega, fun j h4 h5 => ?_, fun j _ _ => by omega⟩
        by_cases e : j = q
        · subst e; exact hp
        · exact hm j q (by omega) (by omega) hp
      · refine ⟨kk, by omega, h2, fun j h4 h5 => ?_⟩
        by_cases e : j = q
        · subst e; exact hp
        · exact h3 j h4 (by omega)
theorem hC_L {q kk : Nat} {F Up Lo : Nat → Int32} {Mi : Nat → Int64} {x : Int32} (hq : q ≤ 20) (hk : kk < q) (h1 : ∀ j, 1 ≤ j → j ≤ kk → (F j).toInt ≤ x.toInt) (h2 : ∀ j, kk < j → j < q → ¬ (F j).toInt ≤ x.toInt) :
    ∀ e n, e ≤ kk → e + 1 ≤ n → ∃ n', n - e - 1 ≤ n' ∧ LX1_height_23 n (nI q) F Up Lo Mi x (nI (kk - e)) = JX1_height_51 n' (nI q) F Up Lo Mi x (nI kk) := by
  intro e
  induction e with
  | zero =>
    intro n _ hn
    obtain ⟨n, rfl⟩ : ∃ m, n = m + 1 := ⟨n - 1, by omega⟩
    refine ⟨n, by omega, ?_⟩
    unfold LX1_height_23 JX1_height_23
    by_cases c : q ≤ kk + 1
    · simp (disch := omega) only [bn_s, gd_in, if_pos, if_neg, i_lt, i_le, nI_toInt, Int32.reduceToInt, Int32.reduceSub, reduceIte, nI_clamp, nI_1, nI_add, lit_mul, lit_add, add_lit, pk_mul, pk_us, pk_un, pk_uLs, pk_uLn, nI_eqL, nI_eq, one_0, ob1_s, ob2_s, ob3_s, ob4_s, ob5_s]; rfl
    · have := h2 (kk + 1) (by omega) (by omega)
      rw [show kk - 0 = kk by omega]
      simp (disch := omega) only [bn_s, gd_in, if_pos, if_neg, i_lt, i_le, nI_toInt, Int32.reduceToInt, Int32.reduceSub, reduceIte, nI_clamp, nI_1, nI_add, lit_mul, lit_add, add_lit, pk_mul, pk_us, pk_un, pk_uLs, pk_uLn, nI_eqL, nI_eq, one_0, ob1_s, ob2_s, ob3_s, ob4_s, ob5_s]
  | succ e ih =>
    intro n he hn
    obtain ⟨n, rfl⟩ : ∃ m, n = m + 1 := ⟨n - 1, by omega⟩
    obtain ⟨n', i1, i2⟩ := ih n (by omega) (by omega)
    refine ⟨n', by omega, ?_⟩
    have := h1 (kk - (e + 1) + 1) (by omega) (by omega)
    unfold LX1_height_23 JX1_height_23
    simp (disch := omega) only [bn_s, gd_in, if_pos, if_neg, i_lt, i_le, nI_toInt, Int32.reduceToInt, Int32.reduceSub, reduceIte, nI_clamp, nI_1, nI_add, lit_mul, lit_add, add_lit, pk_mul, pk_us, pk_un, pk_uLs, pk_uLn, nI_eqL, nI_eq, one_0, ob1_s, ob2_s, ob3_s, ob4_s, ob5_s]
    rw [show kk - (e + 1) + 1 = kk - e by omega]
    exact i2
theorem bM_L {q kk : Nat} {T' F fi : Nat → Int32} {up dn he : Nat → Int64} {g : Nat → Nat} {x : Int32} (hq : q ≤ 20) (hk : kk < q) (hg : ∀ k, k < q → g k < 20 ∧ fi k = nI (g k) ∧ F k = T' (g k)) (h1 : ∀ j, 1 ≤ j → j ≤ kk → (F j).toInt ≤ x.toInt) (h2 : ∀ j, kk < j → j < q → ¬ (F j).toInt ≤ x.toInt) :
    ∀ e n, e + 1 ≤ q → e + 1 ≤ n → ∃ n', n - e - 1 ≤ n' ∧ LX10_base_4 n (nI q) T' fi up dn he x (nI (if q - e - 1 ≤ kk then q - e - 1 else kk)) (nI (q - e)) = ob1 (FX10_floor n' (((2 * (up kk)) * (x.toInt64)) + (he kk)) (2 * (dn kk))) (fun r5 => some r5) := by
  intro e
  induction e with
  | zero =>
    intro n _ hn
    obtain ⟨n, rfl⟩ : ∃ m, n = m + 1 := ⟨n - 1, by omega⟩
    refine ⟨n, by omega, ?_⟩
    have e1 : (if q - 0 - 1 ≤ kk then q - 0 - 1 else kk) = kk := by
      by_cases c : q - 0 - 1 ≤ kk
      · rw [if_pos c]; omega
      · rw [if_neg c]
    rw [e1]
    unfold LX10_base_4 JX10_base_4
    simp (disch := omega) only [bn_s, gd_in, if_pos, if_neg, i_lt, i_le, nI_toInt, Int32.reduceToInt, Int32.reduceSub, reduceIte, nI_clamp, nI_1, nI_add, lit_mul, lit_add, add_lit, pk_mul, pk_us, pk_un, pk_uLs, pk_uLn, nI_eqL, nI_eq, one_0, ob1_s, ob2_s, ob3_s, ob4_s, ob5_s]
  | succ e ih =>
    intro n he hn
    obtain ⟨n, rfl⟩ : ∃ m, n = m + 1 := ⟨n - 1, by omega⟩
    obtain ⟨n', i1, i2⟩ := ih n (by omega) (by omega)
    refine ⟨n', by omega, ?_⟩
    obtain ⟨g1, g2, g3⟩ := hg (q - (e + 1)) (by omega)
    rw [← i2]
    conv => lhs; unfold LX10_base_4 JX10_base_4
    by_cases c : q - (e + 1) ≤ kk
    · have h3 := h1 (q - (e + 1)) (by omega) c
      rw [g3] at h3
      have e2 : (if q - e - 1 ≤ kk then q - e - 1 else kk) = q - (e + 1) := by rw [if_pos (by omega)]; omega
      rw [e2]
      simp (disch := omega) only [bn_s, gd_in, if_pos, if_neg, i_lt, i_le, nI_toInt, Int32.reduceToInt, Int32.reduceSub, reduceIte, nI_clamp, nI_1, nI_add, lit_mul, lit_add, add_lit, pk_mul, pk_us, pk_un, pk_uLs, pk_uLn, nI_eqL, nI_eq, one_0, ob1_s, ob2_s, ob3_s, ob4_s, ob5_s, g2]
      rw [show q - (e + 1) + 1 = q - e by omega]
    · have h3 := h2 (q - (e + 1)) (by omega) (by omega)
      rw [g3] at h3
      have e2 : (if q - e - 1 ≤ kk then q - e - 1 else kk) = kk := by rw [if_neg (by omega)]
      have e3 : (if q - (e + 1) - 1 ≤ kk then q - (e + 1) - 1 else kk) = kk := by
        by_cases c2 : q - (e + 1) - 1 ≤ kk
        · rw [if_pos c2]; omega
        · rw [if_neg c2]
      rw [e2, e3]
      simp (disch := omega) only [bn_s, gd_in, if_pos, if_neg, i_lt, i_le, nI_toInt, Int32.reduceToInt, Int32.reduceSub, reduceIte, nI_clamp, nI_1, nI_add, lit_mul, lit_add, add_lit, pk_mul, pk_us, pk_un, pk_uLs, pk_uLn, nI_eqL, nI_eq, one_0, ob1_s, ob2_s, ob3_s, ob4_s, ob5_s, g2]
      rw [show q - (e + 1) + 1 = q - e by omega]
theorem base_lk {p q : Nat} {g : Nat → Nat} {T lo hi T' P E F Ln Up Lo fi le : Nat → Int32} {Mi up dn he : Nat → Int64} {x : Int32} (h : PR p T lo hi T' P E) (hR : PcR q p g T' F Ln Up Lo Mi fi le up dn he) (hq : q ≤ p) (hq0 : 0 < q) (hx : 0 ≤ x.toInt ∧ x.toInt < 300) :
    ∃ y : Int64, y.toInt.natAbs ≤ 400000000 ∧ (∀ n, 40 ≤ n → FX1_height n (nI q) F Up Lo Mi x = some y.toInt32) ∧ ∀ n, 40 ≤ n → FX10_base n (nI q) T' fi up dn he x = some y := by
  have hp := h.1
  obtain ⟨kk, k1, k2, k3⟩ := last_of q hq0 (fun k => (F k).toInt ≤ x.toInt) (fun j k hj hk hle => by
    have a := (hR.1 j (by omega)); have b := (hR.1 k hk)
    have c := h.2.2 (g j) (g k) (hR.2 j k hj hk) b.1
    show (F j).toInt ≤ x.toInt
    have hle : (F k).toInt ≤ x.toInt := hle
    rw [a.2.2.1]; rw [b.2.2.1] at hle; omega)
  obtain ⟨b1, b2, b3, b4, b5, b6, b7, b8, b9, b10⟩ := hR.1 kk k1
  have m1 := mul_b (A := 262000) (B := 299) (show (up kk).toInt.natAbs ≤ 262000 by omega) (show x.toInt.natAbs ≤ 299 by omega)
  have t2 : (2 : Int64).toInt = 2 := by decide
  have e1 : (2 * up kk).toInt = 2 * (up kk).toInt := by rw [mul64] <;> rw [t2] <;> omega
  have e2 : (2 * up kk * x.toInt64).toInt = 2 * ((up kk).toInt * x.toInt) := by
    rw [mul64] <;> rw [e1, Int32.toInt_toInt64, Int.mul_assoc] <;> omega
  have e3 : (2 * up kk * x.toInt64 + he kk).toInt = 2 * ((up kk).toInt * x.toInt) + (he kk).toInt := by rw [add64] <;> rw [e2] <;> omega
  have e4 : (2 * dn kk).toInt = 2 * (dn kk).toInt := by rw [mul64] <;> rw [t2] <;> omega
  generalize hN : 2 * up kk * x.toInt64 + he kk = N at *
  have hNb : N.toInt.natAbs ≤ 393000000 := by omega
  obtain ⟨y, y1, y2⟩ := fdiv64 (n := 0) (x := N) (d := 2 * dn kk) (by omega) (by omega)
  have yb : y.toInt.natAbs ≤ 393000000 := by
    rw [y2]
    have hd : 0 < (2 * dn kk).toInt := by omega
    generalize (2 * dn kk).toInt = d at hd
    by_cases c : 0 ≤ N.toInt
    · have := Int.ediv_nonneg c (show 0 ≤ d by omega)
      have := Int.ediv_le_self d c
      omega
    · have a1 : N.toInt / d < 0 := Int.ediv_neg_of_neg_of_pos (by omega) hd
      have a2 : N.toInt ≤ N.toInt / d := (Int.le_ediv_iff_mul_le hd).mpr (by
        have := Int.mul_le_mul_of_nonpos_left (a := N.toInt) (b := d) (c := 1) (by omega) (by omega)
        omega)
      omega
  refine ⟨y, by omega, fun n hn => ?_, fun n hn => ?_⟩
  · have hq1 : ¬ q = 0 := by omega
    obtain ⟨n', i1, i2⟩ := hC_L (F := F) (Up := Up) (Lo := Lo) (Mi := Mi) (x := x) (by omega) k1 k2 k3 kk n (by omega) (by omega)
    rw [show kk - kk = 0 by omega] at i2
    obtain ⟨z, z1, z2⟩ := fdiv64 (n := n') (x := N) (d := 2 * dn kk) (by omega) (by omega)
    have : z = y := l_eq.mpr (by rw [z2, y2])
    subst this
    have u1 : (Up kk).toInt64 = up kk := by rw [b5]; exact r64 (by omega) (by omega)
    have u2 : (Lo kk).toInt64 = dn kk := by rw [b6]; exact r64 (by omega) (by omega)
    have u3 : (Lo kk).toInt = (dn kk).toInt := by rw [b6]; exact i32_of64 (by omega) (by omega)
    unfold FX1_height
    simp (disch := omega) only [bn_s, gd_in, if_pos, if_neg, i_lt, i_le, nI_toInt, Int32.reduceToInt, Int32.reduceSub, reduceIte, nI_clamp, nI_1, nI_add, lit_mul, lit_add, add_lit, pk_mul, pk_us, pk_un, pk_uLs, pk_uLn, nI_eqL, nI_eq, one_0, ob1_s, ob2_s, ob3_s, ob4_s, ob5_s]
    rw [show (0 : Int32) = nI 0 from rfl, i2]
    unfold JX1_height_51
    simp (disch := omega) only [bn_s, gd_in, if_pos, if_neg, i_lt, i_le, nI_toInt, Int32.reduceToInt, Int32.reduceSub, reduceIte, nI_clamp, nI_1, nI_add, lit_mul, lit_add, add_lit, pk_mul, pk_us, pk_un, pk_uLs, pk_uLn, nI_eqL, nI_eq, one_0, ob1_s, ob2_s, ob3_s, ob4_s, ob5_s, u1, u2, u3, b7, hN, z1]
  · obtain ⟨n', i1, i2⟩ := bM_L (T' := T') (F := F) (fi := fi) (up := up) (dn := dn) (he := he) (g := g) (x := x) (by omega) k1 (fun k hk => ⟨by have := (hR.1 k hk).1; omega, (hR.1 k hk).2.1, (hR.1 k hk).2.2.1⟩) k2 k3 (q - 1) n (by omega) (by omega)
    rw [show q - (q - 1) - 1 = 0 by omega, if_pos (by omega), show q - (q - 1) = 1 by omega, hN] at i2
    obtain ⟨z, z1, z2⟩ := floor64 (n := n') (x := N) (d := 2 * dn kk) (by omega) (by omega)
    have : z = y := l_eq.mpr (by rw [z2, y2])
    subst this
    rw [z1, ob1_s] at i2
    exact i2
