def gl (v : Int32) : Prop := v = -2000000000 ∨ rng v
def jstep (nr a b h : Int32) : Int32 :=
  if a = -2000000000 then b else if b = -2000000000 then a else
  if nr.toInt < (a.toInt - b.toInt).natAbs then (if h = -2000000000 then a else if (a.toInt - h.toInt).natAbs ≤ (b.toInt - h.toInt).natAbs then a else b)
  else Int32.ofInt ((a.toInt + b.toInt) / 2)
theorem ofInt_t {z : Int} (h1 : -2147483648 ≤ z) (h2 : z ≤ 2147483647) : (Int32.ofInt z).toInt = z := by
  rw [Int32.toInt_ofInt, show Int32.size = 4294967296 from rfl]; exact Int.bmod_eq_of_le (by omega) (by omega)
theorem gl_b {v : Int32} (h : gl v) : v.toInt = -2000000000 ∨ (-30000 ≤ v.toInt ∧ v.toInt ≤ 30000) := by
  rcases h with h | h
  · rw [h]; exact Or.inl LOSTt
  · exact Or.inr h
theorem gl_r {v : Int32} (h : gl v) (hn : ¬ v = -2000000000) : rng v := by
  rcases h with h | h
  · exact absurd h hn
  · exact h
theorem half_r {a b : Int32} (ha : rng a) (hb : rng b) : (Int32.ofInt ((a.toInt + b.toInt) / 2)).toInt = (a.toInt + b.toInt) / 2 ∧ rng (Int32.ofInt ((a.toInt + b.toInt) / 2)) := by
  unfold rng at *
  have e := ofInt_t (z := (a.toInt + b.toInt) / 2) (by omega) (by omega)
  rw [e]
  exact ⟨rfl, by omega, by omega⟩
theorem jstep_g {nr a b h : Int32} (ha : gl a) (hb : gl b) : gl (jstep nr a b h) := by
  unfold jstep
  by_cases h1 : a = -2000000000
  · rw [if_pos h1]; exact hb
  · rw [if_neg h1]
    by_cases h2 : b = -2000000000
    · rw [if_pos h2]; exact ha
    · rw [if_neg h2]
      split
      · split
        · exact ha
        · split
          · exact ha
          · exact hb
      · exact Or.inr (half_r (gl_r ha h1) (gl_r hb h2)).2
theorem abs_t {a b : Int32} (ha : rng a) (hb : rng b) : (if 0 ≤ (a - b) then (a - b) else 0 - (a - b) : Int32).toInt = (a.toInt - b.toInt).natAbs := by
  unfold rng at *
  have e : (a - b).toInt = a.toInt - b.toInt := sub_t (by omega) (by omega)
  by_cases h : 0 ≤ a - b
  · rw [if_pos h, e]; have := i_le.mp h; rw [t_0, e] at this; omega
  · rw [if_neg h, sub_t (by rw [t_0, e]; omega) (by rw [t_0, e]; omega), t_0, e]
    have := mt i_le.mpr h; rw [t_0, e] at this; omega
theorem apart_s {n : Nat} {a b : Int32} (ha : rng a) (hb : rng b) : ∃ y, FX10_apart n a b = some y ∧ y.toInt = (a.toInt - b.toInt).natAbs := by
  unfold rng at *
  unfold FX10_apart
  have e : (a - b).toInt = a.toInt - b.toInt := sub_t (by omega) (by omega)
  have e2 : (b - a).toInt = b.toInt - a.toInt := sub_t (by omega) (by omega)
  by_cases h : b ≤ a
  · rw [if_pos h]; refine ⟨_, rfl, ?_⟩; have := i_le.mp h; omega
  · rw [if_neg h]; refine ⟨_, rfl, ?_⟩; have := mt i_le.mpr h; omega
theorem join_C {n : Nat} {nr a b h : Int32} (ha : gl a) (hb : gl b) (hh : gl h) : FX6_join n a b h nr = some (jstep nr a b h) := by
  unfold FX6_join jstep
  by_cases h1 : a = -2000000000
  · rw [if_pos h1, if_pos h1]
  · rw [if_neg h1, if_neg h1]
    by_cases h2 : b = -2000000000
    · rw [if_pos h2, if_pos h2]
    · rw [if_neg h2, if_neg h2]
      have ra := gl_r ha h1
      have rb := gl_r hb h2
      have eab := abs_t ra rb
      by_cases h3 : nr.toInt < (a.toInt - b.toInt).natAbs
      · rw [if_pos h3, if_pos (i_lt.mpr (by rw [eab]; exact h3))]
        by_cases h4 : h = -2000000000
        · rw [if_pos h4, if_pos h4]
        · rw [if_neg h4, if_neg h4]
          have rh := gl_r hh h4
          have e1 := abs_t ra rh
          have e2 := abs_t rb rh
          by_cases h5 : (a.toInt - h.toInt).natAbs ≤ (b.toInt - h.toInt).natAbs
          · rw [if_pos h5, if_pos (i_le.mpr (by rw [e1, e2]; omega))]
          · rw [if_neg h5, if_neg (fun h9 => h5 (by have := i_le.mp h9; rw [e1, e2] at this; omega))]
      · rw [if_neg h3, if_neg (fun h9 => h3 (by have := i_lt.mp h9; rw [eab] at this; exact this))]
        obtain ⟨y, hy, hy2⟩ := fdiv32 (n := n) (x := a + b) (d := 2) (by decide)
        rw [hy, ob1_s]
        congr 1
        refine i_eq.mpr ?_
        unfold rng at ra rb
        rw [hy2, (half_r ra rb).1, add_t (by omega) (by omega)]
        rfl
def jn (nr : Int32) (a b : Nat → Int32) : Nat → Int32
  | 0 => -2000000000
  | i + 1 => jstep nr (a i) (b i) (jn nr a b i)
theorem jn_g {nr : Int32} {a b : Nat → Int32} (ha : ∀ i, i < 300 → gl (a i)) (hb : ∀ i, i < 300 → gl (b i)) : ∀ i, i ≤ 300 → gl (jn nr a b i)
  | 0, _ => Or.inl rfl
  | i + 1, h => by unfold jn; exact jstep_g (ha i (by omega)) (hb i (by omega))
theorem jn_L {nr : Int32} {a b : Nat → Int32} {k i : Nat} (hk : k ≤ i) (ha : a i = -2000000000) (hb : b i = -2000000000) : jn nr a b (i + 1) = -2000000000 := by
  unfold jn jstep; rw [if_pos ha, hb]
theorem RowR.gl {f : Nat → Int32} {sz : Int32} {R M : Nat → Int32} {r k : Nat} (h : RowR f sz R M r k) : ∀ i, i < 300 → gl (f i) := by
  intro i hi
  have := rdv_r (x := nI i) h
  rw [rdv_n hi] at this
  exact this
theorem joins_L {n t k0 k1 : Nat} {nr z0 z1 : Int32} {R M f0 f1 : Nat → Int32} (ht : t < 3) (h0 : RowR f0 z0 R M (3 * 0 + t) k0) (h1 : RowR f1 z1 R M (3 * 1 + t) k1) :
    ∀ d n (J : Nat → Int32), d ≤ 300 → d + 1 ≤ n → ∃ J', LX10_joins_5 n nr R M J (nI t) (jn nr f0 f1 (300 - d)) (nI (300 - d)) = some J' ∧ (∀ i, i < 300 → J' (300 * t + i) = if 300 - d ≤ i then jn nr f0 f1 (i + 1) else J (300 * t + i)) := by
  intro d
  induction d with
  | zero =>
    intro n J _ hn
    obtain ⟨n, rfl⟩ : ∃ n', n = n' + 1 := ⟨n - 1, by omega⟩
    refine ⟨J, ?_, fun i hi => (if_neg (by omega)).symm⟩
    unfold LX10_joins_5 JX10_joins_5
    simp (disch := omega) only [bn_s, gd_in, if_pos, if_neg, i_lt, i_le, nI_toInt, Int32.reduceToInt, Int32.reduceSub, reduceIte, nI_clamp, nI_1, nI_add, lit_mul, lit_add, add_lit, pk_mul, pk_us, pk_un, pk_uLs, pk_uLn, nI_eqL, nI_eq, one_0, ob1_s, ob2_s, ob3_s, ob4_s, ob5_s]
  | succ d ih =>
    intro n J hd hn
    obtain ⟨n, rfl⟩ : ∃ n', n = n' + 1 := ⟨n - 1, by omega⟩
    have g0 := h0.gl (300 - (d + 1)) (by omega)
    have g1 := h1.gl (300 - (d + 1)) (by omega)
    have gj := jn_g (nr := nr) h0.gl h1.gl (300 - (d + 1)) (by omega)
    generalize hv : jn nr f0 f1 (300 - (d + 1)) = hd0 at gj
    have hj : jn nr f0 f1 (300 - d) = jstep nr (f0 (300 - (d + 1))) (f1 (300 - (d + 1))) hd0 := by
      rw [show 300 - d = 300 - (d + 1) + 1 by omega]; show jstep nr _ _ (jn nr f0 f1 _) = _; rw [hv]
    obtain ⟨J', hJ1, hJ2⟩ := ih n (upd J (300 * t + (300 - (d + 1))) (jn nr f0 f1 (300 - d))) (by omega) (by omega)
    refine ⟨J', ?_, ?_⟩
    · rw [hj, show 300 - d = 300 - (d + 1) + 1 by omega] at hJ1
      unfold LX10_joins_5 JX10_joins_5
      have r0 := reading_M (n := n) (s := 0) (x := nI (300 - (d + 1))) (by omega) ht h0
      have r1 := reading_M (n := n) (s := 1) (x := nI (300 - (d + 1))) (by omega) ht h1
      rw [rdv_n (by omega)] at r0 r1
      simp (disch := omega) only [bn_s, gd_in, if_pos, if_neg, i_lt, i_le, nI_toInt, Int32.reduceToInt, Int32.reduceSub, reduceIte, nI_clamp, nI_1, nI_add, lit_mul, lit_add, add_lit, pk_mul, pk_us, pk_un, pk_uLs, pk_uLn, nI_eqL, nI_eq, one_0, ob1_s, ob2_s, ob3_s, ob4_s, ob5_s, show FX10_reading n R M 0 (nI t) (nI (300 - (d + 1))) = _ from r0, show FX10_reading n R M 1 (nI t) (nI (300 - (d + 1))) = _ from r1]
      generalize f0 (300 - (d + 1)) = a at *
      generalize f1 (300 - (d + 1)) = b at *
      unfold JX10_joins_44
      unfold jstep at hJ1
      by_cases c1 : a = -2000000000
      · rw [if_pos c1] at hJ1
        simp (disch := omega) only [bn_s, gd_in, if_pos, if_neg, i_lt, i_le, nI_toInt, Int32.reduceToInt, Int32.reduceSub, reduceIte, nI_clamp, nI_1, nI_add, lit_mul, lit_add, add_lit, pk_mul, pk_us, pk_un, pk_uLs, pk_uLn, nI_eqL, nI_eq, one_0, ob1_s, ob2_s, ob3_s, ob4_s, ob5_s, c1, hJ1]
      · rw [if_neg c1] at hJ1
        by_cases c2 : b = -2000000000
        · rw [if_pos c2] at hJ1
          simp (disch := omega) only [bn_s, gd_in, if_pos, if_neg, i_lt, i_le, nI_toInt, Int32.reduceToInt, Int32.reduceSub, reduceIte, nI_clamp, nI_1, nI_add, lit_mul, lit_add, add_lit, pk_mul, pk_us, pk_un, pk_uLs, pk_uLn, nI_eqL, nI_eq, one_0, ob1_s, ob2_s, ob3_s, ob4_s, ob5_s, c1, c2, hJ1]
        · rw [if_neg c2] at hJ1
          have ra := gl_r g0 c1
          have rb := gl_r g1 c2
          obtain ⟨y, hy, hy2⟩ := apart_s (n := n) ra rb
          by_cases c3 : nr.toInt < (a.toInt - b.toInt).natAbs
          · rw [if_pos c3] at hJ1
            by_cases c4 : hd0 = -2000000000
            · rw [if_pos c4] at hJ1
              simp (disch := omega) only [bn_s, gd_in, if_pos, if_neg, i_lt, i_le, nI_toInt, Int32.reduceToInt, Int32.reduceSub, reduceIte, nI_clamp, nI_1, nI_add, lit_mul, lit_add, add_lit, pk_mul, pk_us, pk_un, pk_uLs, pk_uLn, nI_eqL, nI_eq, one_0, ob1_s, ob2_s, ob3_s, ob4_s, ob5_s, c1, c2, hy, hy2, c4]
              exact hJ1
            · rw [if_neg c4] at hJ1
              have rh := gl_r gj c4
              obtain ⟨y1, hy1, hz1⟩ := apart_s (n := n) rb rh
              obtain ⟨y2, hy2', hz2⟩ := apart_s (n := n) ra rh
              by_cases c5 : (a.toInt - hd0.toInt).natAbs ≤ (b.toInt - hd0.toInt).natAbs
              · rw [if_pos c5] at hJ1
                simp (disch := omega) only [bn_s, gd_in, if_pos, if_neg, i_lt, i_le, nI_toInt, Int32.reduceToInt, Int32.reduceSub, reduceIte, nI_clamp, nI_1, nI_add, lit_mul, lit_add, add_lit, pk_mul, pk_us, pk_un, pk_uLs, pk_uLn, nI_eqL, nI_eq, one_0, ob1_s, ob2_s, ob3_s, ob4_s, ob5_s, c1, c2, hy, hy2, c4, hy1, hy2', hz1, hz2, hJ1]
              · rw [if_neg c5] at hJ1
                simp (disch := omega) only [bn_s, gd_in, if_pos, if_neg, i_lt, i_le, nI_toInt, Int32.reduceToInt, Int32.reduceSub, reduceIte, nI_clamp, nI_1, nI_add, lit_mul, lit_add, add_lit, pk_mul, pk_us, pk_un, pk_uLs, pk_uLn, nI_eqL, nI_eq, one_0, ob1_s, ob2_s, ob3_s, ob4_s, ob5_s, c1, c2, hy, hy2, c4, hy1, hy2', hz1, hz2, hJ1]
          · rw [if_neg c3] at hJ1
            have hh := half_r ra rb
            have e9 : (a + b) >>> (1 &&& 31 : Int32) = Int32.ofInt ((a.toInt + b.toInt) / 2) := by
              unfold rng at ra rb
              refine i_eq.mpr ?_
              rw [hh.1, pk_shr _ _ 1 (by decide), add_t (by omega) (by omega), Int.shiftRight_eq_div_pow]
              rfl
            simp (disch := omega) only [bn_s, gd_in, if_pos, if_neg, i_lt, i_le, nI_toInt, Int32.reduceToInt, Int32.reduceSub, reduceIte, nI_clamp, nI_1, nI_add, lit_mul, lit_add, add_lit, pk_mul, pk_us, pk_un, pk_uLs, pk_uLn, nI_eqL, nI_eq, one_0, ob1_s, ob2_s, ob3_s, ob4_s, ob5_s, c1, c2, hy, hy2, e9, hJ1]
    · intro i hi
      rw [hJ2 i hi]
      by_cases e : i = 300 - (d + 1)
      · subst e
        rw [if_neg (by omega), if_pos (by omega), pk_us, show 300 - d = 300 - (d + 1) + 1 by omega]
      · rw [pk_un (by omega)]
        by_cases e2 : 300 - d ≤ i
        · rw [if_pos e2, if_pos (by omega)]
        · rw [if_neg e2, if_neg (by omega)]
theorem joins_M {n t k0 k1 : Nat} {nr z0 z1 : Int32} {R M f0 f1 J : Nat → Int32} (hn : 301 ≤ n) (ht : t < 3) (h0 : RowR f0 z0 R M (3 * 0 + t) k0) (h1 : RowR f1 z1 R M (3 * 1 + t) k1) :
    ∃ J', FX10_joins n nr R M J (nI t) = some J' ∧ ∀ i, i < 300 → J' (300 * t + i) = jn nr f0 f1 (i + 1) := by
  obtain ⟨J', h2, h3⟩ := joins_L (n := n) (nr := nr) ht h0 h1 300 n J (by omega) (by omega)
  refine ⟨J', h2, fun i hi => ?_⟩
  rw [h3 i hi, if_pos (by omega)]
