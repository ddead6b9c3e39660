theorem add0_s {n m : Nat} {ti me le en : Nat → Int32} {a b c d : Int32} (hm : m ≤ 20) : FX0_add n (nI m) ti me le en a b c d = if m < 20 then (if m = 0 ∨ (ti (m - 1)).toInt < a.toInt then some (nI m, nI (m + 1), upd ti m a, upd me m b, upd le m c, upd en m d) else some (-2, nI m, ti, me, le, en)) else some (-1, nI m, ti, me, le, en) := by
  unfold FX0_add JX0_add_36
  by_cases h : m < 20
  · by_cases h0 : m = 0
    · subst h0
      simp (disch := omega) only [bn_s, gd_in, if_pos, if_neg, i_lt, i_le, nI_toInt, Int32.reduceToInt, Int32.reduceSub, reduceIte, nI_clamp, nI_1, nI_add, lit_mul, lit_add, add_lit, pk_mul, pk_us, pk_un, pk_uLs, pk_uLn, nI_eqL, nI_eq, one_0, ob1_s, ob2_s, ob3_s, ob4_s, ob5_s]
      rfl
    · have e1 : nI m - 1 = nI (m - 1) := pk_sub (a := m) (b := 1) (by omega)
      have e2 : nI (m + 1) - 1 = nI m := pk_sub (a := m + 1) (b := 1) (by omega)
      by_cases h1 : (ti (m - 1)).toInt < a.toInt
      · simp (disch := omega) only [bn_s, gd_in, if_pos, if_neg, i_lt, i_le, nI_toInt, Int32.reduceToInt, Int32.reduceSub, reduceIte, nI_clamp, nI_1, nI_add, lit_mul, lit_add, add_lit, pk_mul, pk_us, pk_un, pk_uLs, pk_uLn, nI_eqL, nI_eq, one_0, ob1_s, ob2_s, ob3_s, ob4_s, ob5_s, e1, e2]
      · simp (disch := omega) only [bn_s, gd_in, if_pos, if_neg, i_lt, i_le, nI_toInt, Int32.reduceToInt, Int32.reduceSub, reduceIte, nI_clamp, nI_1, nI_add, lit_mul, lit_add, add_lit, pk_mul, pk_us, pk_un, pk_uLs, pk_uLn, nI_eqL, nI_eq, one_0, ob1_s, ob2_s, ob3_s, ob4_s, ob5_s, e1, e2]
  · simp (disch := omega) only [bn_s, gd_in, if_pos, if_neg, i_lt, i_le, nI_toInt, Int32.reduceToInt, Int32.reduceSub, reduceIte, nI_clamp, nI_1, nI_add, lit_mul, lit_add, add_lit, pk_mul, pk_us, pk_un, pk_uLs, pk_uLn, nI_eqL, nI_eq, one_0, ob1_s, ob2_s, ob3_s, ob4_s, ob5_s]
def measset (x : TS) (a b c d : Nat → Int32) (z : Int32) : TS := (tg0 x, tg1 x, tg2 x, tg3 x, a, b, c, d, z, tg9 x, tg10 x, tg11 x, tg12 x, tg13 x, tg14 x, tg15 x, tg16 x, tg17 x, tg18 x, tg19 x, tg20 x, tg21 x, tg22 x, tg23 x, tg24 x, tg25 x, -1)
theorem isPos_C {n : Nat} {p : Int32} : FX9_isPosition n p = some (if -100000 ≤ p.toInt ∧ p.toInt ≤ 100000 then 1 else 0) := by
  unfold FX9_isPosition
  rw [within_s, ob1_s]
  by_cases h : -100000 ≤ p.toInt ∧ p.toInt ≤ 100000
  · simp (disch := omega) only [bn_s, gd_in, if_pos, if_neg, i_lt, i_le, nI_toInt, Int32.reduceToInt, Int32.reduceSub, reduceIte, nI_clamp, nI_1, nI_add, lit_mul, lit_add, add_lit, pk_mul, pk_us, pk_un, pk_uLs, pk_uLn, nI_eqL, nI_eq, one_0, ob1_s, ob2_s, ob3_s, ob4_s, ob5_s]; exact gd_t rfl
  · simp (disch := omega) only [bn_s, gd_in, if_pos, if_neg, i_lt, i_le, nI_toInt, Int32.reduceToInt, Int32.reduceSub, reduceIte, nI_clamp, nI_1, nI_add, lit_mul, lit_add, add_lit, pk_mul, pk_us, pk_un, pk_uLs, pk_uLn, nI_eqL, nI_eq, one_0, ob1_s, ob2_s, ob3_s, ob4_s, ob5_s]; exact gd_t rfl
theorem isPos_M {n : Nat} {p : Int32} : FX10_isPosition n p = some (if -100000 ≤ p.toInt ∧ p.toInt ≤ 100000 then 1 else 0) := by
  unfold FX10_isPosition
  by_cases h : -100000 ≤ p.toInt ∧ p.toInt ≤ 100000
  · simp (disch := omega) only [bn_s, gd_in, if_pos, if_neg, i_lt, i_le, nI_toInt, Int32.reduceToInt, Int32.reduceSub, reduceIte, nI_clamp, nI_1, nI_add, lit_mul, lit_add, add_lit, pk_mul, pk_us, pk_un, pk_uLs, pk_uLn, nI_eqL, nI_eq, one_0, ob1_s, ob2_s, ob3_s, ob4_s, ob5_s]
  · by_cases h2 : p.toInt < -100000
    · simp (disch := omega) only [bn_s, gd_in, if_pos, if_neg, i_lt, i_le, nI_toInt, Int32.reduceToInt, Int32.reduceSub, reduceIte, nI_clamp, nI_1, nI_add, lit_mul, lit_add, add_lit, pk_mul, pk_us, pk_un, pk_uLs, pk_uLn, nI_eqL, nI_eq, one_0, ob1_s, ob2_s, ob3_s, ob4_s, ob5_s]
    · simp (disch := omega) only [bn_s, gd_in, if_pos, if_neg, i_lt, i_le, nI_toInt, Int32.reduceToInt, Int32.reduceSub, reduceIte, nI_clamp, nI_1, nI_add, lit_mul, lit_add, add_lit, pk_mul, pk_us, pk_un, pk_uLs, pk_uLn, nI_eqL, nI_eq, one_0, ob1_s, ob2_s, ob3_s, ob4_s, ob5_s]
def Psn (p : Int32) : Prop := -100000 ≤ p.toInt ∧ p.toInt ≤ 100000
theorem wi1 {n : Nat} {p a b : Int32} (h : a.toInt ≤ p.toInt ∧ p.toInt ≤ b.toInt) {β : Type} (f : Int32 → Option β) : ob1 (FX9_within n p a b) f = f 1 := by rw [within_s, if_pos h]; rfl
theorem wi0 {n : Nat} {p a b : Int32} (h : ¬ (a.toInt ≤ p.toInt ∧ p.toInt ≤ b.toInt)) {β : Type} (f : Int32 → Option β) : ob1 (FX9_within n p a b) f = f 0 := by rw [within_s, if_neg h]; rfl
theorem ps1 {n : Nat} {p : Int32} (h : Psn p) {β : Type} (f : Int32 → Option β) : ob1 (FX9_isPosition n p) f = f 1 := by unfold Psn at h; rw [isPos_C, if_pos h]; rfl
theorem ps0 {n : Nat} {p : Int32} (h : ¬ Psn p) {β : Type} (f : Int32 → Option β) : ob1 (FX9_isPosition n p) f = f 0 := by unfold Psn at h; rw [isPos_C, if_neg h]; rfl
theorem pm1 {n : Nat} {p : Int32} (h : Psn p) {β : Type} (f : Int32 → Option β) : ob1 (FX10_isPosition n p) f = f 1 := by unfold Psn at h; rw [isPos_M, if_pos h]; rfl
theorem pm0 {n : Nat} {p : Int32} (h : ¬ Psn p) {β : Type} (f : Int32 → Option β) : ob1 (FX10_isPosition n p) f = f 0 := by unfold Psn at h; rw [isPos_M, if_neg h]; rfl
theorem tr0 {n : Nat} {β : Type} (f : Unit → Option β) : ob1 (FX9_trackOf_0 n) f = f () := rfl
theorem tr1 {n : Nat} {β : Type} (f : Unit → Option β) : ob1 (FX9_trackOf_1 n) f = f () := rfl
theorem tr2 {n : Nat} {β : Type} (f : Unit → Option β) : ob1 (FX9_trackOf_2 n) f = f () := rfl
theorem dm1 {n : Nat} {β : Type} (f : Unit → Option β) : ob1 (FX9_demand_t n 1) f = f () := by rw [demand_1]; rfl
theorem un1 {n : Nat} {x : Int32} {β : Type} (f : Int32 → Option β) : ob1 (FX6_unsettle n x) f = f (-1) := rfl
theorem ifz {α : Type} {a b : α} : (if (0 : Int32) = 0 then a else b) = a := rfl
theorem ifo {α : Type} {a b : α} : (if (1 : Int32) = 0 then a else b) = b := rfl
theorem ift {α : Type} {a b : α} {p : Prop} [Decidable p] (h : p = False) : (if p then a else b) = b := by rw [if_neg (by rw [h]; exact id)]
theorem n00 {α : Type} {a b : α} : (if nI 0 = 0 then a else b) = a := rfl
theorem n10 {α : Type} {a b : α} : (if nI 1 = 0 then a else b) = b := rfl
theorem n11 {α : Type} {a b : α} : (if nI 1 = 1 then a else b) = a := rfl
theorem n20 {α : Type} {a b : α} : (if nI 2 = 0 then a else b) = b := rfl
theorem n21 {α : Type} {a b : α} : (if nI 2 = 1 then a else b) = b := rfl
theorem n22 {α : Type} {a b : α} : (if nI 2 = 2 then a else b) = a := rfl
theorem measure_C {n t m : Nat} {x0 x1 x2 : TS} {e v a b c d : Int32} (ht : t < 3) (hz : tg8 (sel t x0 x1 x2) = nI m) (hv : 0 ≤ v.toInt ∧ v.toInt ≤ 299) (ha : Psn a) (hb : Psn b) (hc : Psn c) (hd : Psn d) {r z : Int32} {f1 f2 f3 f4 : Nat → Int32} {y : Int32} (hy : FJ9_floorDiv_7cf53 n (a + b + c + d) 4 = some y)
    (h : FX0_add n (nI m) (tg4 (sel t x0 x1 x2)) (tg5 (sel t x0 x1 x2)) (tg6 (sel t x0 x1 x2)) (tg7 (sel t x0 x1 x2)) v y (if 0 ≤ a + b - c - d then a + b - c - d else 0 - (a + b - c - d)) e = some (r, z, f1, f2, f3, f4)) :
    FX9_measure n e x0 x1 x2 (nI t) v a b c d = some (0, r, putT 0 t (measset (sel t x0 x1 x2) f1 f2 f3 f4 z) x0, putT 1 t (measset (sel t x0 x1 x2) f1 f2 f3 f4 z) x1, putT 2 t (measset (sel t x0 x1 x2) f1 f2 f3 f4 z) x2) := by
  have hw : (0 : Int32).toInt ≤ v.toInt ∧ v.toInt ≤ (299 : Int32).toInt := hv
  unfold FX9_measure
  rw [ift (tOf_no ht)]
  rcases (show t = 0 ∨ t = 1 ∨ t = 2 by omega) with rfl | rfl | rfl
  · have hz : tg8 x0 = nI m := hz
    rw [n00, tr0, wi1 hw, ifo, ps1 ha, ifo, ps1 hb, ifo, ps1 hc, ifo, ps1 hd, ifo, dm1, un1, hy, ob1_s, bn_s, hz]
    have h : FX0_add n (nI m) (tg4 x0) (tg5 x0) (tg6 x0) (tg7 x0) v y _ e = _ := h
    rw [h]; rfl
  · have hz : tg8 x1 = nI m := hz
    rw [n10, n11, tr1, wi1 hw, ifo, ps1 ha, ifo, ps1 hb, ifo, ps1 hc, ifo, ps1 hd, ifo, dm1, un1, hy, ob1_s, bn_s, hz]
    have h : FX0_add n (nI m) (tg4 x1) (tg5 x1) (tg6 x1) (tg7 x1) v y _ e = _ := h
    rw [h]; rfl
  · have hz : tg8 x2 = nI m := hz
    rw [n20, n21, n22, tr2, wi1 hw, ifo, ps1 ha, ifo, ps1 hb, ifo, ps1 hc, ifo, ps1 hd, ifo, dm1, un1, hy, ob1_s, bn_s, hz]
    have h : FX0_add n (nI m) (tg4 x2) (tg5 x2) (tg6 x2) (tg7 x2) v y _ e = _ := h
    rw [h]; rfl
theorem measure_C2 {n t : Nat} {x0 x1 x2 : TS} {e v a b c d : Int32} (ht : t < 3) (hn : ¬ ((0 ≤ v.toInt ∧ v.toInt ≤ 299) ∧ Psn a ∧ Psn b ∧ Psn c ∧ Psn d)) : FX9_measure n e x0 x1 x2 (nI t) v a b c d = some (2, 0, x0, x1, x2) := by
  unfold FX9_measure
  rw [ift (tOf_no ht)]
  by_cases h1 : (0 : Int32).toInt ≤ v.toInt ∧ v.toInt ≤ (299 : Int32).toInt
  · by_cases h2 : Psn a
    · by_cases h3 : Psn b
      · by_cases h4 : Psn c
        · have h5 : ¬ Psn d := fun h => hn ⟨h1, h2, h3, h4, h⟩
          rcases (show t = 0 ∨ t = 1 ∨ t = 2 by omega) with rfl | rfl | rfl
          · rw [n00, tr0, wi1 h1, ifo, ps1 h2, ifo, ps1 h3, ifo, ps1 h4, ifo, ps0 h5, ifz]
          · rw [n10, n11, tr1, wi1 h1, ifo, ps1 h2, ifo, ps1 h3, ifo, ps1 h4, ifo, ps0 h5, ifz]
          · rw [n20, n21, n22, tr2, wi1 h1, ifo, ps1 h2, ifo, ps1 h3, ifo, ps1 h4, ifo, ps0 h5, ifz]
        · rcases (show t = 0 ∨ t = 1 ∨ t = 2 by omega) with rfl | rfl | rfl
          · rw [n00, tr0, wi1 h1, ifo, ps1 h2, ifo, ps1 h3, ifo, ps0 h4, ifz]
          · rw [n10, n11, tr1, wi1 h1, ifo, ps1 h2, ifo, ps1 h3, ifo, ps0 h4, ifz]
          · rw [n20, n21, n22, tr2, wi1 h1, ifo, ps1 h2, ifo, ps1 h3, ifo, ps0 h4, ifz]
      · rcases (show t = 0 ∨ t = 1 ∨ t = 2 by omega) with rfl | rfl | rfl
        · rw [n00, tr0, wi1 h1, ifo, ps1 h2, ifo, ps0 h3, ifz]
        · rw [n10, n11, tr1, wi1 h1, ifo, ps1 h2, ifo, ps0 h3, ifz]
        · rw [n20, n21, n22, tr2, wi1 h1, ifo, ps1 h2, ifo, ps0 h3, ifz]
    · rcases (show t = 0 ∨ t = 1 ∨ t = 2 by omega) with rfl | rfl | rfl
      · rw [n00, tr0, wi1 h1, ifo, ps0 h2, ifz]
      · rw [n10, n11, tr1, wi1 h1, ifo, ps0 h2, ifz]
      · rw [n20, n21, n22, tr2, wi1 h1, ifo, ps0 h2, ifz]
  · rcases (show t = 0 ∨ t = 1 ∨ t = 2 by omega) with rfl | rfl | rfl
    · rw [n00, tr0, wi0 h1, ifz]
    · rw [n10, n11, tr1, wi0 h1, ifz]
    · rw [n20, n21, n22, tr2, wi0 h1, ifz]
theorem it1 {n t : Nat} (ht : t < 3) {β : Type} (f : Int32 → Option β) : ob1 (FX10_isTrace n (nI t)) f = f 1 := by rw [isTrace_s, if_pos (by rw [nI_toInt (by omega)]; omega)]; rfl
theorem bd0 {n : Nat} {t w : Int32} {β : Type} (f : Int32 → Int32 → Option β) : ob2 (FX10_bad n t 0 w) f = f 0 t := by rw [bad0]; rfl
theorem bd1 {n : Nat} {t w : Int32} {β : Type} (f : Int32 → Int32 → Option β) : ob2 (FX10_bad n t 1 w) f = f 1 w := by rw [bad1]; rfl
theorem m69 {n : Nat} {W Me Lf En Ms : Nat → Int32} {e v a b c d t : Int32} : JX10_measure_69 n 0 e W Me Lf En Ms t v a b c d = some (0, 2, W, Me, Lf, En, Ms) := by
  unfold JX10_measure_69 JX10_measure_74
  rw [bd1, ifo]
theorem measure_M2 {n t : Nat} {W Me Lf En Ms : Nat → Int32} {e th v a b c d : Int32} (ht : t < 3) (hn : ¬ ((0 ≤ v.toInt ∧ v.toInt ≤ 299) ∧ Psn a ∧ Psn b ∧ Psn c ∧ Psn d)) : FX10_measure n th e W Me Lf En Ms (nI t) v a b c d = some (0, 2, W, Me, Lf, En, Ms) := by
  unfold FX10_measure JX10_measure_19
  rw [it1 ht, ifo, bd0, ifz]
  by_cases h2 : Psn a
  · by_cases h3 : Psn b
    · by_cases h4 : Psn c
      · by_cases h5 : Psn d
        · have h1 : ¬ (0 ≤ v.toInt ∧ v.toInt ≤ 299) := fun h => hn ⟨h, h2, h3, h4, h5⟩
          rw [pm1 h2, ifo, pm1 h3, ifo, pm1 h4, ifo, pm1 h5, ifo]
          by_cases h6 : v < 0
          · rw [if_pos h6, m69]
          · rw [if_neg h6, if_neg (fun h => h1 (by have := i_lt.mp h; have := mt i_lt.mpr h6; rw [t_0] at this; have e : (300 : Int32).toInt = 300 := rfl; omega)), m69]
        · rw [pm1 h2, ifo, pm1 h3, ifo, pm1 h4, ifo, pm0 h5, ifz, m69]
      · rw [pm1 h2, ifo, pm1 h3, ifo, pm0 h4, ifz, m69]
    · rw [pm1 h2, ifo, pm0 h3, ifz, m69]
  · rw [pm0 h2, ifz, m69]
theorem apart_g {n : Nat} {a b : Int32} (ha : -1000000 ≤ a.toInt ∧ a.toInt ≤ 1000000) (hb : -1000000 ≤ b.toInt ∧ b.toInt ≤ 1000000) : ∃ y, FX10_apart n a b = some y ∧ y.toInt = (a.toInt - b.toInt).natAbs := by
  unfold FX10_apart
  have e : (a - b).toInt = a.toInt - b.toInt := sub_t (by omega) (by omega)
  have e2 : (b - a).toInt = b.toInt - a.toInt := sub_t (by omega) (by omega)
  by_cases h : b ≤ a
  · rw [if_pos h]; refine ⟨_, rfl, ?_⟩; have := i_le.mp h; omega
  · rw [if_neg h]; refine ⟨_, rfl, ?_⟩; have := mt i_le.mpr h; omega
theorem mean_s {n : Nat} {a b c d : Int32} (ha : Psn a) (hb : Psn b) (hc : Psn c) (hd : Psn d) : FJ9_floorDiv_7cf53 n (a + b + c + d) 4 = some ((a + b + c + d) >>> (2 &&& 31)) ∧ (-100000 ≤ ((a + b + c + d) >>> (2 &&& 31 : Int32)).toInt ∧ ((a + b + c + d) >>> (2 &&& 31 : Int32)).toInt ≤ 100000) := by
  unfold Psn at *
  have e1 : (a + b).toInt = a.toInt + b.toInt := add_t (by omega) (by omega)
  have e2 : (a + b + c).toInt = a.toInt + b.toInt + c.toInt := by rw [add_t] <;> rw [e1] <;> omega
  have e3 : (a + b + c + d).toInt = a.toInt + b.toInt + c.toInt + d.toInt := by rw [add_t] <;> rw [e2] <;> omega
  have e4 : ((a + b + c + d) >>> (2 &&& 31 : Int32)).toInt = (a.toInt + b.toInt + c.toInt + d.toInt) / 4 := by
    rw [pk_shr _ _ 2 (by decide), e3, Int.shiftRight_eq_div_pow]; rfl
  obtain ⟨y, hy, hy2⟩ := fdiv32 (n := n) (x := a + b + c + d) (d := 4) (by decide)
  refine ⟨?_, by rw [e4]; omega, by rw [e4]; omega⟩
  rw [hy]
  congr 1
  refine i_eq.mpr ?_
  rw [hy2, e4, e3]; rfl
theorem left_s {n : Nat} {a b c d : Int32} (ha : Psn a) (hb : Psn b) (hc : Psn c) (hd : Psn d) : FX10_apart n (a + b) (c + d) = some (if 0 ≤ a + b - c - d then a + b - c - d else 0 - (a + b - c - d)) := by
  unfold Psn at *
  have e1 : (a + b).toInt = a.toInt + b.toInt := add_t (by omega) (by omega)
  have e2 : (c + d).toInt = c.toInt + d.toInt := add_t (by omega) (by omega)
  have e3 : (a + b - c).toInt = a.toInt + b.toInt - c.toInt := by rw [sub_t] <;> rw [e1] <;> omega
  have e4 : (a + b - c - d).toInt = a.toInt + b.toInt - c.toInt - d.toInt := by rw [sub_t] <;> rw [e3] <;> omega
  obtain ⟨y, hy, hy2⟩ := apart_g (n := n) (a := a + b) (b := c + d) (by omega) (by omega)
  rw [hy]
  congr 1
  refine i_eq.mpr ?_
  rw [hy2, e1, e2]
  by_cases h : 0 ≤ a + b - c - d
  · rw [if_pos h, e4]; have := i_le.mp h; rw [t_0, e4] at this; omega
  · rw [if_neg h, sub_t (by rw [t_0, e4]; omega) (by rw [t_0, e4]; omega), t_0, e4]
    have := mt i_le.mpr h; rw [t_0, e4] at this; omega
theorem measure_M {n t m : Nat} {W Me Lf En Ms : Nat → Int32} {e th v a b c d : Int32} (ht : t < 3) (hm : m ≤ 20) (hMs : Ms t = nI m) (hv : 0 ≤ v.toInt ∧ v.toInt ≤ 299) (ha : Psn a) (hb : Psn b) (hc : Psn c) (hd : Psn d) :
    FX10_measure n th e W Me Lf En Ms (nI t) v a b c d = if m < 20 then (if m = 0 ∨ (W (20 * t + m - 1)).toInt < v.toInt then some (nI m, (0 : Int32), upd W (20 * t + m) v, upd Me (20 * t + m) ((a + b + c + d) >>> (2 &&& 31)), upd Lf (20 * t + m) (if 0 ≤ a + b - c - d then a + b - c - d else 0 - (a + b - c - d)), upd En (20 * t + m) e, upd Ms t (nI (m + 1))) else some (-2, (0 : Int32), W, Me, Lf, En, Ms)) else some (-1, (0 : Int32), W, Me, Lf, En, Ms) := by
  have hl := left_s (n := n) ha hb hc hd
  generalize (if 0 ≤ a + b - c - d then a + b - c - d else 0 - (a + b - c - d)) = L at hl ⊢
  unfold FX10_measure JX10_measure_19
  rw [it1 ht, ifo, bd0, ifz, pm1 ha, ifo, pm1 hb, ifo, pm1 hc, ifo, pm1 hd, ifo, if_neg (fun h => by have := i_lt.mp h; rw [t_0] at this; omega), if_pos (i_lt.mpr (by have e : (300 : Int32).toInt = 300 := rfl; omega))]
  unfold JX10_measure_74
  rw [bd0, ifz]
  have h126 : JX10_measure_126 n 0 e W Me Lf En Ms (nI t) v a b c d (nI m) = if m < 20 then some (nI m, (0 : Int32), upd W (20 * t + m) v, upd Me (20 * t + m) ((a + b + c + d) >>> (2 &&& 31)), upd Lf (20 * t + m) L, upd En (20 * t + m) e, upd Ms t (nI (m + 1))) else JX10_measure_126 n 0 e W Me Lf En Ms (nI t) v a b c d (nI m) := by
    by_cases h : m < 20
    · rw [if_pos h]
      unfold JX10_measure_126
      rw [hl]
      simp (disch := omega) only [bn_s, gd_in, if_pos, if_neg, i_lt, i_le, nI_toInt, Int32.reduceToInt, Int32.reduceSub, reduceIte, nI_clamp, nI_1, nI_add, lit_mul, lit_add, add_lit, pk_mul, pk_us, pk_un, pk_uLs, pk_uLn, nI_eqL, nI_eq, one_0, ob1_s, ob2_s, ob3_s, ob4_s, ob5_s, hMs]
    · rw [if_neg h]
  by_cases h : m < 20
  · rw [if_pos h] at h126
    by_cases h0 : m = 0
    · subst h0
      rw [if_pos h, if_pos (Or.inl rfl), ← h126]
      simp (disch := omega) only [bn_s, gd_in, if_pos, if_neg, i_lt, i_le, nI_toInt, Int32.reduceToInt, Int32.reduceSub, reduceIte, nI_clamp, nI_1, nI_add, lit_mul, lit_add, add_lit, pk_mul, pk_us, pk_un, pk_uLs, pk_uLn, nI_eqL, nI_eq, one_0, ob1_s, ob2_s, ob3_s, ob4_s, ob5_s, hMs]
    · have e1 : nI (20 * t + m) - 1 = nI (20 * t + m - 1) := pk_sub (a := 20 * t + m) (b := 1) (by omega)
      by_cases h1 : (W (20 * t + m - 1)).toInt < v.toInt
      · simp (disch := omega) only [bn_s, gd_in, if_pos, if_neg, i_lt, i_le, nI_toInt, Int32.reduceToInt, Int32.reduceSub, reduceIte, nI_clamp, nI_1, nI_add, lit_mul, lit_add, add_lit, pk_mul, pk_us, pk_un, pk_uLs, pk_uLn, nI_eqL, nI_eq, one_0, ob1_s, ob2_s, ob3_s, ob4_s, ob5_s, hMs, e1]
        exact h126
      · simp (disch := omega) only [bn_s, gd_in, if_pos, if_neg, i_lt, i_le, nI_toInt, Int32.reduceToInt, Int32.reduceSub, reduceIte, nI_clamp, nI_1, nI_add, lit_mul, lit_add, add_lit, pk_mul, pk_us, pk_un, pk_uLs, pk_uLn, nI_eqL, nI_eq, one_0, ob1_s, ob2_s, ob3_s, ob4_s, ob5_s, hMs, e1]
  · have : m = 20 := by omega
    subst this
    simp (disch := omega) only [bn_s, gd_in, if_pos, if_neg, i_lt, i_le, nI_toInt, Int32.reduceToInt, Int32.reduceSub, reduceIte, nI_clamp, nI_1, nI_add, lit_mul, lit_add, add_lit, pk_mul, pk_us, pk_un, pk_uLs, pk_uLn, nI_eqL, nI_eq, one_0, ob1_s, ob2_s, ob3_s, ob4_s, ob5_s, hMs]
theorem MeR.push {t m : Nat} {sz e v y l : Int32} {ti me le en Ms W Me Lf En : Nat → Int32} (h : MeR t m sz ti me le en Ms W Me Lf En) (hm : m < 20) (ho : m = 0 ∨ (W (20 * t + m - 1)).toInt < v.toInt) (hv : 0 ≤ v.toInt ∧ v.toInt ≤ 299) (hy : -100000 ≤ y.toInt ∧ y.toInt ≤ 100000) (he : 0 ≤ e.toInt ∧ e.toInt ≤ 1000) :
    MeR t (m + 1) (nI (m + 1)) (upd ti m v) (upd me m y) (upd le m l) (upd en m e) (upd Ms t (nI (m + 1))) (upd W (20 * t + m) v) (upd Me (20 * t + m) y) (upd Lf (20 * t + m) l) (upd En (20 * t + m) e) := by
  obtain ⟨h1, h2, h3, h4, h5⟩ := h
  refine ⟨by omega, rfl, pk_us, fun i hi => ?_, fun i j hij hj => ?_⟩
  · by_cases c : i = m
    · subst c
      simp only [pk_us]
      exact ⟨trivial, trivial, trivial, trivial, ⟨hv.1, by omega⟩, hy, he⟩
    · have e1 : 20 * t + i ≠ 20 * t + m := by omega
      simp only [pk_un c, pk_un e1]
      exact h4 i (by omega)
  · have e1 : 20 * t + i ≠ 20 * t + m := by omega
    rw [pk_un e1]
    by_cases c : j = m
    · subst c
      rw [pk_us]
      rcases ho with ho | ho
      · omega
      · by_cases c2 : i = j - 1
        · subst c2; rw [show 20 * t + (j - 1) = 20 * t + j - 1 by omega]; exact ho
        · have := h5 i (j - 1) (by omega) (by omega)
          rw [show 20 * t + (j - 1) = 20 * t + j - 1 by omega] at this
          omega
    · have e2 : 20 * t + j ≠ 20 * t + m := by omega
      rw [pk_un e2]; exact h5 i j hij (by omega)
theorem MeR.fr {t t' m m' : Nat} {sz e v y l u : Int32} {ti me le en Ms W Me Lf En : Nat → Int32} (h : MeR t' m' sz ti me le en Ms W Me Lf En) (hm : m < 20) (hne : t' ≠ t) :
    MeR t' m' sz ti me le en (upd Ms t u) (upd W (20 * t + m) v) (upd Me (20 * t + m) y) (upd Lf (20 * t + m) l) (upd En (20 * t + m) e) := by
  obtain ⟨h1, h2, h3, h4, h5⟩ := h
  refine ⟨h1, h2, by rw [pk_un hne]; exact h3, fun i hi => ?_, fun i j hij hj => ?_⟩
  · have e1 : 20 * t' + i ≠ 20 * t + m := by omega
    simp only [pk_un e1]
    exact h4 i (by omega)
  · have e1 : 20 * t' + i ≠ 20 * t + m := by omega
    have e2 : 20 * t' + j ≠ 20 * t + m := by omega
    rw [pk_un e1, pk_un e2]; exact h5 i j hij hj
theorem TI.meas {t : Nat} {x : TS} {R M Ms W Me Lf En Ms' W' Me' Lf' En' Pb a b c d : Nat → Int32} {z : Int32} (h : TI t x R M Ms W Me Lf En Pb) (hm : ∃ m, MeR t m z a b c d Ms' W' Me' Lf' En') : TI t (measset x a b c d z) R M Ms' W' Me' Lf' En' Pb := by
  obtain ⟨h0, h1, h2, h3, h4, _⟩ := h
  exact ⟨h0, h1, hm, h3, h4, Or.inl rfl⟩
theorem TI.mfr {t t' m : Nat} {x : TS} {R M Ms W Me Lf En Pb : Nat → Int32} {e v y l u : Int32} (h : TI t' x R M Ms W Me Lf En Pb) (hm : m < 20) (hne : t' ≠ t) : TI t' x R M (upd Ms t u) (upd W (20 * t + m) v) (upd Me (20 * t + m) y) (upd Lf (20 * t + m) l) (upd En (20 * t + m) e) Pb := by
  obtain ⟨h0, h1, ⟨m', h2⟩, h3⟩ := h
  exact ⟨h0, h1, ⟨m', h2.fr hm hne⟩, h3⟩
theorem call_measure {n n' : Nat} {x0 x1 x2 : TS} {R M Ms W Me Lf En Pb : Nat → Int32} {e p v a b c d th : Int32} (he : 0 ≤ e.toInt ∧ e.toInt ≤ 1000) (h : IT x0 x1 x2 R M Ms W Me Lf En Pb) :
    ∃ k r y0 y1 y2 bb th' W' Me' Lf' En' Ms', FX9_measure n e x0 x1 x2 p v a b c d = some (k, r, y0, y1, y2) ∧ FX10_measure n' th e W Me Lf En Ms p v a b c d = some (bb, th', W', Me', Lf', En', Ms') ∧ IT y0 y1 y2 R M Ms' W' Me' Lf' En' Pb ∧ Ans k r bb th' := by
  by_cases h1 : 0 ≤ p.toInt ∧ p.toInt < 3
  · obtain ⟨t, ht, rfl⟩ := badtr h1
    by_cases hg : (0 ≤ v.toInt ∧ v.toInt ≤ 299) ∧ Psn a ∧ Psn b ∧ Psn c ∧ Psn d
    · obtain ⟨hv, ha, hb, hc, hd⟩ := hg
      have ht' := h.sel ht
      obtain ⟨m, hM⟩ := ht'.2.2.1
      have hm := hM.1
      have hz := hM.2.1
      have hMs := hM.2.2.1
      have y1 := mean_s (n := n) ha hb hc hd
      have hmod := measure_M (n := n') (th := th) (e := e) (W := W) (Me := Me) (Lf := Lf) (En := En) ht hm hMs hv ha hb hc hd
      have had := add0_s (n := n) (ti := tg4 (sel t x0 x1 x2)) (me := tg5 (sel t x0 x1 x2)) (le := tg6 (sel t x0 x1 x2)) (en := tg7 (sel t x0 x1 x2)) (a := v) (b := (a + b + c + d) >>> (2 &&& 31)) (c := if 0 ≤ a + b - c - d then a + b - c - d else 0 - (a + b - c - d)) (d := e) hm
      have same : MeR t m (nI m) (tg4 (sel t x0 x1 x2)) (tg5 (sel t x0 x1 x2)) (tg6 (sel t x0 x1 x2)) (tg7 (sel t x0 x1 x2)) Ms W Me Lf En := by rw [hz] at hM; exact hM
      by_cases hlt : m < 20
      · have ew : m = 0 ∨ (tg4 (sel t x0 x1 x2) (m - 1)).toInt < v.toInt ↔ m = 0 ∨ (W (20 * t + m - 1)).toInt < v.toInt := by
          by_cases h0 : m = 0
          · simp only [h0, true_or]
          · rw [(hM.2.2.2.1 (m - 1) (by omega)).1, show 20 * t + (m - 1) = 20 * t + m - 1 by omega]
        rw [if_pos hlt] at had hmod
        by_cases ho : m = 0 ∨ (W (20 * t + m - 1)).toInt < v.toInt
        · rw [if_pos (ew.mpr ho)] at had
          rw [if_pos ho] at hmod
          refine ⟨_, _, _, _, _, _, _, _, _, _, _, _, measure_C ht hz hv ha hb hc hd y1.1 had, hmod, ?_, .ok rfl rfl⟩
          have hx := ht'.meas ⟨m + 1, hM.push (l := if 0 ≤ a + b - c - d then a + b - c - d else 0 - (a + b - c - d)) hlt ho hv y1.2 he⟩
          rcases (show t = 0 ∨ t = 1 ∨ t = 2 by omega) with rfl | rfl | rfl
          · exact ⟨hx, h.2.1.mfr hlt (by omega), h.2.2.mfr hlt (by omega)⟩
          · exact ⟨h.1.mfr hlt (by omega), hx, h.2.2.mfr hlt (by omega)⟩
          · exact ⟨h.1.mfr hlt (by omega), h.2.1.mfr hlt (by omega), hx⟩
        · rw [if_neg (fun h9 => ho (ew.mp h9))] at had
          rw [if_neg ho] at hmod
          exact ⟨_, _, _, _, _, _, _, _, _, _, _, _, measure_C ht hz hv ha hb hc hd y1.1 had, hmod, h.pt0 ht (ht'.meas ⟨m, same⟩), .ok rfl rfl⟩
      · rw [if_neg hlt] at had hmod
        exact ⟨_, _, _, _, _, _, _, _, _, _, _, _, measure_C ht hz hv ha hb hc hd y1.1 had, hmod, h.pt0 ht (ht'.meas ⟨m, same⟩), .ok rfl rfl⟩
    · exact ⟨_, _, _, _, _, _, _, _, _, _, _, _, measure_C2 ht hg, measure_M2 ht hg, h, .o2⟩
  · refine ⟨1, 0, x0, x1, x2, 0, 1, W, Me, Lf, En, Ms, by unfold FX9_measure; rw [if_pos (tOf_yes h1)], ?_, h, .o1⟩
    unfold FX10_measure JX10_measure_19
    rw [isTrace_s, if_neg h1, ob1_s, ifz, bd1, ifo]
