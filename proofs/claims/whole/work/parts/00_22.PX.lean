theorem fill_L {N1 : Nat} {v : Int32} (hN : N1 < 2 ^ 31) : ∀ d n (p : Nat → Int32), d ≤ N1 → d + 1 ≤ n → ∃ p', LJ7_fill_53178_5 n N1 p v (nI (N1 - d)) (nI N1) = some p' ∧ ∀ i, i < N1 → p' i = if N1 - d ≤ i then v else p i := by
  intro d
  induction d with
  | zero =>
    intro n p _ hn
    obtain ⟨n, rfl⟩ : ∃ m, n = m + 1 := ⟨n - 1, by omega⟩
    refine ⟨p, ?_, fun i hi => by rw [if_neg (by omega)]⟩
    unfold LJ7_fill_53178_5 JJ7_fill_53178_5
    rw [Nat.sub_zero, if_pos (Int32.le_refl _)]
  | succ d ih =>
    intro n p hd hn
    obtain ⟨n, rfl⟩ : ∃ m, n = m + 1 := ⟨n - 1, by omega⟩
    obtain ⟨p', i1, i2⟩ := ih n (upd p (N1 - (d + 1)) v) (by omega) (by omega)
    rw [show N1 - d = N1 - (d + 1) + 1 by omega] at i1
    refine ⟨p', ?_, fun i hi => ?_⟩
    · unfold LJ7_fill_53178_5 JJ7_fill_53178_5
      rw [if_neg (by rw [nI_le' (by omega) (by omega)]; omega), gd_in (by omega) (by omega), bn_s, bn_s, nI_clamp (by omega), nI_1]
      exact i1
    · rw [i2 i hi]
      by_cases e : i = N1 - (d + 1)
      · subst e; rw [if_neg (by omega), pk_us, if_pos (by omega)]
      · rw [pk_un e]
        by_cases e2 : N1 - d ≤ i
        · rw [if_pos e2, if_pos (by omega)]
        · rw [if_neg e2, if_neg (by omega)]
theorem fill_s {n N1 : Nat} {v : Int32} {p : Nat → Int32} (hN : N1 < 2 ^ 31) (hn : N1 + 1 ≤ n) : ∃ p', FJ7_fill_53178 n N1 p v = some p' ∧ ∀ i, i < N1 → p' i = v := by
  obtain ⟨p', i1, i2⟩ := fill_L (v := v) hN N1 n p (by omega) hn
  rw [show N1 - N1 = 0 by omega] at i1 i2
  exact ⟨p', i1, fun i hi => by rw [i2 i hi, if_pos (by omega)]⟩
def mx (a b : Int32) : Int32 := if a < b then b else a
theorem take_L {N w k : Nat} {sh so : Int32} {fin f : Nat → Int32} {g : Nat → Int32} (hN : N ≤ 150) (hg : ∀ win, win < N → ∀ n, 100 ≤ n → FX6_rangeIn n fin sh so (nI w) f (nI win) = some (g win)) : ∀ d n (I : Nat → Int32), d ≤ N → d + 200 ≤ n → ∃ I', LX8_takeRanges_3 n (nI N) I fin sh so (nI w) f (nI (N - d)) = some I' ∧ ∀ i, i < N → I' i = if N - d ≤ i then mx (I i) (g i) else I i := by
  intro d
  induction d with
  | zero =>
    intro n I _ hn
    obtain ⟨n, rfl⟩ : ∃ m, n = m + 1 := ⟨n - 1, by omega⟩
    refine ⟨I, ?_, fun i hi => by rw [if_neg (by omega)]⟩
    unfold LX8_takeRanges_3 JX8_takeRanges_3
    rw [Nat.sub_zero, if_pos (Int32.le_refl _)]
  | succ d ih =>
    intro n I hd hn
    obtain ⟨n, rfl⟩ : ∃ m, n = m + 1 := ⟨n - 1, by omega⟩
    obtain ⟨I', i1, i2⟩ := ih n (upd I (N - (d + 1)) (mx (I (N - (d + 1))) (g (N - (d + 1))))) (by omega) (by omega)
    rw [show N - d = N - (d + 1) + 1 by omega] at i1
    refine ⟨I', ?_, fun i hi => ?_⟩
    · unfold LX8_takeRanges_3 JX8_takeRanges_3
      rw [if_neg (by rw [nI_le' (by omega) (by omega)]; omega), gd_in (by omega) (by omega), hg _ (by omega) n (by omega), ob1_s, gd_in (by omega) (by omega), bn_s, bn_s, nI_clamp (by omega), nI_1]
      exact i1
    · rw [i2 i hi]
      by_cases e : i = N - (d + 1)
      · subst e; rw [if_neg (by omega), pk_us, if_pos (by omega)]
      · rw [pk_un e]
        by_cases e2 : N - d ≤ i
        · rw [if_pos e2, if_pos (by omega)]
        · rw [if_neg e2, if_neg (by omega)]
/-- how many steps a range reaches -/
def upc (c : Nat) (st : Nat → Int32) (y : Int32) : Nat → Nat
  | 0 => 0
  | d + 1 => (if y < st (c - (d + 1)) then 0 else 1) + upc c st y d
theorem upc_le {c : Nat} {st : Nat → Int32} {y : Int32} : ∀ d, upc c st y d ≤ d
  | 0 => Nat.le_refl _
  | d + 1 => by
    have := upc_le (c := c) (st := st) (y := y) d
    unfold upc
    by_cases h : y < st (c - (d + 1))
    · rw [if_pos h]; omega
    · rw [if_neg h]; omega
theorem steps_L {c : Nat} {st : Nat → Int32} {y : Int32} (hc : c ≤ 9) : ∀ d n a, d ≤ c → d + 1 ≤ n → LX3_stepsUpTo_4 n (nI c) st y (nI a) (nI (c - d)) = some (nI (a + upc c st y d)) := by
  intro d
  induction d with
  | zero =>
    intro n a _ hn
    obtain ⟨n, rfl⟩ : ∃ m, n = m + 1 := ⟨n - 1, by omega⟩
    unfold LX3_stepsUpTo_4 JX3_stepsUpTo_4 upc
    rw [Nat.sub_zero, if_pos (Int32.le_refl _)]; rfl
  | succ d ih =>
    intro n a hd hn
    obtain ⟨n, rfl⟩ : ∃ m, n = m + 1 := ⟨n - 1, by omega⟩
    unfold LX3_stepsUpTo_4 JX3_stepsUpTo_4
    rw [if_neg (by rw [nI_le' (by omega) (by omega)]; omega), gd_in (by omega) (by omega), nI_clamp (by omega)]
    by_cases h : y < st (c - (d + 1))
    · rw [if_pos h, bn_s, nI_1, show c - (d + 1) + 1 = c - d by omega, ih n a (by omega) (by omega)]
      congr 2; conv => { rhs; unfold upc }; rw [if_pos h]; omega
    · rw [if_neg h, bn_s, bn_s, nI_1, nI_1, show c - (d + 1) + 1 = c - d by omega, ih n (a + 1) (by omega) (by omega)]
      congr 2; conv => { rhs; unfold upc }; rw [if_neg h]; omega
theorem ixM_L {c : Nat} {st ix : Nat → Int32} {y sh so w tr : Int32} {F Fr To : Nat → Int32} (hc : c ≤ 9) (he : ∀ j, j < c → st j = ix j) : ∀ d n a, d ≤ c → d + 1 ≤ n → LX10_indexOf_50 n sh so w (nI c) tr F ix Fr To y (nI a) (nI (c - d)) = some (nI (a + upc c st y d)) := by
  intro d
  induction d with
  | zero =>
    intro n a _ hn
    obtain ⟨n, rfl⟩ : ∃ m, n = m + 1 := ⟨n - 1, by omega⟩
    unfold LX10_indexOf_50 JX10_indexOf_50 upc
    rw [Nat.sub_zero, if_pos (Int32.le_refl _)]; rfl
  | succ d ih =>
    intro n a hd hn
    obtain ⟨n, rfl⟩ : ∃ m, n = m + 1 := ⟨n - 1, by omega⟩
    unfold LX10_indexOf_50 JX10_indexOf_50
    rw [if_neg (by rw [nI_le' (by omega) (by omega)]; omega), gd_in (by omega) (by omega), nI_clamp (by omega), ← he _ (by omega)]
    by_cases h : y < st (c - (d + 1))
    · rw [if_pos h, bn_s, bn_s, Int32.add_zero, nI_1, show c - (d + 1) + 1 = c - d by omega, ih n a (by omega) (by omega)]
      congr 2; conv => { rhs; unfold upc }; rw [if_pos h]; omega
    · rw [if_neg h, bn_s, bn_s, nI_1, nI_1, show c - (d + 1) + 1 = c - d by omega, ih n (a + 1) (by omega) (by omega)]
      congr 2; conv => { rhs; unfold upc }; rw [if_neg h]; omega
/-- the index out of the greatest range -/
def ixv (c : Nat) (st : Nat → Int32) (y : Int32) : Int32 := if y = -1 then -1 else nI (upc c st y c)
/-- what an index may be -/
def ixd (y : Int32) : Prop := y = -1 ∨ ∃ j : Nat, j ≤ 9 ∧ y = nI j
theorem ixv_d {c : Nat} {st : Nat → Int32} {y : Int32} (hc : c ≤ 9) : ixd (ixv c st y) := by
  unfold ixv
  by_cases h : y = -1
  · rw [if_pos h]; exact Or.inl rfl
  · rw [if_neg h]; exact Or.inr ⟨_, Nat.le_trans (upc_le c) hc, rfl⟩
theorem turn_L {N c : Nat} {st : Nat → Int32} (hN : N ≤ 150) (hc : c ≤ 9) : ∀ d n (I : Nat → Int32), d ≤ N → d + 20 ≤ n → ∃ I', LX8_turnRangesToIndices_2 n (nI N) I (nI c) st (nI (N - d)) = some I' ∧ ∀ i, i < N → I' i = if N - d ≤ i then ixv c st (I i) else I i := by
  intro d
  induction d with
  | zero =>
    intro n I _ hn
    obtain ⟨n, rfl⟩ : ∃ m, n = m + 1 := ⟨n - 1, by omega⟩
    refine ⟨I, ?_, fun i hi => by rw [if_neg (by omega)]⟩
    unfold LX8_turnRangesToIndices_2 JX8_turnRangesToIndices_2
    rw [Nat.sub_zero, if_pos (Int32.le_refl _)]
  | succ d ih =>
    intro n I hd hn
    obtain ⟨n, rfl⟩ : ∃ m, n = m + 1 := ⟨n - 1, by omega⟩
    unfold LX8_turnRangesToIndices_2 JX8_turnRangesToIndices_2
    rw [if_neg (by rw [nI_le' (by omega) (by omega)]; omega), gd_in (by omega) (by omega), nI_clamp (by omega)]
    by_cases h : I (N - (d + 1)) = -1
    · obtain ⟨I', i1, i2⟩ := ih n I (by omega) (by omega)
      rw [show N - d = N - (d + 1) + 1 by omega] at i1
      refine ⟨I', by rw [if_pos h, bn_s, nI_1]; exact i1, fun i hi => ?_⟩
      rw [i2 i hi]
      by_cases e : i = N - (d + 1)
      · subst e; rw [if_neg (by omega), if_pos (by omega)]; unfold ixv; rw [if_pos h]; exact h
      · by_cases e2 : N - d ≤ i
        · rw [if_pos e2, if_pos (by omega)]
        · rw [if_neg e2, if_neg (by omega)]
    · obtain ⟨I', i1, i2⟩ := ih n (upd I (N - (d + 1)) (nI (0 + upc c st (I (N - (d + 1))) c))) (by omega) (by omega)
      rw [show N - d = N - (d + 1) + 1 by omega] at i1
      have s := steps_L (st := st) (y := I (N - (d + 1))) hc c n 0 (by omega) (by omega)
      rw [show c - c = 0 by omega] at s
      refine ⟨I', ?_, fun i hi => ?_⟩
      · unfold FX3_stepsUpTo
        rw [if_neg h, gd_in (by omega) (by omega), show LX3_stepsUpTo_4 n (nI c) st (I (N - (d + 1))) 0 0 = _ from s, ob1_s, gd_in (by omega) (by omega), bn_s, bn_s, nI_1]; exact i1
      · rw [i2 i hi]
        by_cases e : i = N - (d + 1)
        · subst e; rw [if_neg (by omega), if_pos (by omega), pk_us]; unfold ixv; rw [if_neg h, Nat.zero_add]
        · rw [pk_un e]
          by_cases e2 : N - d ≤ i
          · rw [if_pos e2, if_pos (by omega)]
          · rw [if_neg e2, if_neg (by omega)]
theorem mx_M {a b : Int32} {β : Type} {p : Int32 → β} : (if b ≤ a then p a else p b) = p (mx a b) := by
  unfold mx
  by_cases h : a < b
  · rw [if_pos h, if_neg (fun h9 => by have := i_le.mp h9; have := i_lt.mp h; omega)]
  · rw [if_neg h, if_pos (i_le.mpr (by have := mt i_lt.mpr h; omega))]
theorem mx_r {a b : Int32} (ha : rgd a) (hb : rgd b) : rgd (mx a b) := by
  unfold mx
  by_cases h : a < b
  · rw [if_pos h]; exact hb
  · rw [if_neg h]; exact ha
theorem idxM_s {win c n : Nat} {sh so w tr r0 r1 r2 : Int32} {st F ix Fr To : Nat → Int32} (hc : c ≤ 9) (he : ∀ j, j < c → st j = ix j) (hn : 300 ≤ n) (d0 : rgd r0) (d1 : rgd r1) (d2 : rgd r2) (h0 : ∀ n, 100 ≤ n → FX10_rangeOf n sh so w tr F Fr To (nI 0) (nI win) = some r0) (h1 : ∀ n, 100 ≤ n → FX10_rangeOf n sh so w tr F Fr To (nI 1) (nI win) = some r1) (h2 : ∀ n, 100 ≤ n → FX10_rangeOf n sh so w tr F Fr To (nI 2) (nI win) = some r2) :
    FX10_indexOf n sh so w (nI c) tr F ix Fr To (nI win) = some (ixv c st (mx (mx (mx (-1) r0) r1) r2)) := by
  obtain ⟨n, rfl⟩ : ∃ m, n = m + 1 + 1 + 1 + 1 := ⟨n - 4, by omega⟩
  unfold FX10_indexOf
  unfold LX10_indexOf_7 JX10_indexOf_7
  rw [if_neg (by decide), show FX10_rangeOf (n + 1 + 1 + 1) sh so w tr F Fr To 0 (nI win) = _ from h0 _ (by omega), ob1_s]
  simp only [bn_s]
  rw [mx_M (p := fun z => LX10_indexOf_7 (n + 1 + 1 + 1) sh so w (nI c) tr F ix Fr To (nI win) z 0 (0 + 1)), show (0 + 1 : Int32) = nI 1 from rfl]
  unfold LX10_indexOf_7 JX10_indexOf_7
  rw [if_neg (by decide), h1 _ (by omega), ob1_s]
  simp only [bn_s]
  rw [mx_M (p := fun z => LX10_indexOf_7 (n + 1 + 1) sh so w (nI c) tr F ix Fr To (nI win) z 0 (nI 1 + 1)), nI_1]
  unfold LX10_indexOf_7 JX10_indexOf_7
  rw [if_neg (by decide), h2 _ (by omega), ob1_s]
  simp only [bn_s]
  rw [mx_M (p := fun z => LX10_indexOf_7 (n + 1) sh so w (nI c) tr F ix Fr To (nI win) z 0 (nI (1 + 1) + 1)), nI_1]
  unfold LX10_indexOf_7 JX10_indexOf_7
  rw [if_pos (by decide)]
  have hr := mx_r (mx_r (mx_r (Or.inl rfl : rgd (-1)) d0) d1) d2
  generalize mx (mx (mx (-1) r0) r1) r2 = y at *
  have s := ixM_L (y := y) (sh := sh) (so := so) (w := w) (tr := tr) (F := F) (Fr := Fr) (To := To) hc he c n 0 (by omega) (by omega)
  rw [show c - c = 0 by omega] at s
  unfold ixv
  by_cases h : y = -1
  · rw [if_pos h, if_neg (by rw [h]; decide)]
  · have := hr.resolve_left h
    rw [if_neg h, if_pos (i_le.mpr (by rw [t_0]; exact this))]
    rw [Nat.zero_add] at s
    exact s
theorem clr_s {n N : Nat} {z : Int32} {I : Nat → Int32} (hN : N ≤ 150) (hn : 200 ≤ n) : ∃ I', FX8_clear n z I (nI N) = some (nI N, I') ∧ ∀ i, i < 150 → I' i = -1 := by
  obtain ⟨p', i1, i2⟩ := fill_s (n := n) (N1 := 150) (v := -1) (p := I) (by omega) (by omega)
  refine ⟨p', ?_, i2⟩
  unfold FX8_clear
  have e1 : (if (150 : Int32) < nI N then 150 else nI N) = nI N := if_neg (fun h9 => by have := i_lt.mp h9; rw [nI_toInt (by omega)] at this; have e3 : (150 : Int32).toInt = 150 := rfl; omega)
  rw [e1, bn_s, i1, ob1_s]
  rw [show (if (0 : Int32) < nI N then nI N else 0) = nI (max 0 N) from if_lt (a := 0) (by omega) (by omega), Nat.max_eq_right (Nat.zero_le _)]
/-- the rules of both -/
def SpR (c : Nat) (st ix : Nat → Int32) : Prop := c ≤ 9 ∧ ∀ j, j < c → st j = ix j
theorem lay_s {n w k c : Nat} {x0 x1 x2 : TS} {R M Ms W Me Lf En Pb f Fr To st ix I : Nat → Int32} {nr sh so z : Int32} (hn : 1000 ≤ n) (hnr : 0 ≤ nr.toInt) (hw : 2 ≤ w) (hw2 : w ≤ 60) (hT : TrR k f Fr To) (hS : SpR c st ix) (h : IT x0 x1 x2 R M Ms W Me Lf En Pb) :
    ∃ (T N : Nat) (g : Nat → Int32) (u0 u1 u2 : TS), T ≤ 300 ∧ T / w = N ∧ N ≤ 150 ∧ FX9_layWindows n nr sh so (nI w) st (nI c) f I z x0 x1 x2 = some (g, nI N, u0, u1, u2) ∧ IT u0 u1 u2 R M Ms W Me Lf En Pb ∧ (tg25 u0 = tg25 x0 ∧ tg25 u1 = tg25 x1 ∧ tg25 u2 = tg25 x2) ∧ (∀ n', 10 ≤ n' → FX10_timesMany n' M = some (nI T)) ∧ (∀ i, i < N → ixd (g i)) ∧
      ∀ (n' : Nat) (pts pcs : Int32) (a b c' d : Int64) (J F T' P E fi lg : Nat → Int32) (up dn he : Nat → Int64), 1010 ≤ n' →
        ∃ (pts2 pcs2 : Int32) (a2 b2 c2 d2 : Int64) (J2 F2 T2 P2 E2 fi2 lg2 : Nat → Int32) (up2 dn2 he2 : Nat → Int64), FX10_allFinals n' pts pcs a b c' d nr R M J F W Me En Ms T' P E fi lg up dn he = some (pts2, pcs2, a2, b2, c2, d2, J2, F2, T2, P2, E2, fi2, lg2, up2, dn2, he2) ∧ ∀ m, 300 ≤ m → ∀ i, i < N → FX10_indexOf m sh so (nI w) (nI c) (nI k) F2 ix Fr To (nI i) = some (g i) := by
  obtain ⟨T, hTm, hC, hMm⟩ := times_all h
  obtain ⟨u0, e1, t1, g1, s1, _⟩ := settled_s hn (show 0 < 3 by omega) hnr h.1
  obtain ⟨u1, e2, t2, g2, s2, _⟩ := settled_s hn (show 1 < 3 by omega) hnr h.2.1
  obtain ⟨u2, e3, t3, g3, s3, _⟩ := settled_s hn (show 2 < 3 by omega) hnr h.2.2
  have hwb := fun win (h : win < T / w) => win_b hTm hw h
  have hNb : T / w ≤ 150 := by
    have : T / w ≤ T / 2 := Nat.div_le_div_left hw (by omega)
    omega
  have hwC := wins_C (n := n) (w := w) hTm hw hw2 hC
  generalize hNe : T / w = N at *
  -- the ranges, as the class finds them
  have rg : ∀ (t : Nat) (fin F : Nat → Int32), t < 3 → (∀ i, i < 300 → fin i = F (300 * t + i)) → (∀ i, i < 300 → fbd (fin i)) → ∀ win, win < N → ∃ y : Int32, rgd y ∧ (∀ n, 100 ≤ n → FX6_rangeIn n fin sh so (nI w) f (nI win) = some y) ∧ ∀ n, 100 ≤ n → FX10_rangeOf n sh so (nI w) (nI k) F Fr To (nI t) (nI win) = some y :=
    fun t fin F ht hF hb win hwin => range_s (sh := sh) (so := so) ht hw2 (hwb win hwin).1 (hwb win hwin).2 hF hb hT
  have cl : ∀ (fin : Nat → Int32), (∀ i, i < 300 → fbd (fin i)) → ∃ G : Nat → Int32, ∀ win, win < N → rgd (G win) ∧ ∀ n, 100 ≤ n → FX6_rangeIn n fin sh so (nI w) f (nI win) = some (G win) := by
    intro fin hb
    have hex : ∀ win : Nat, ∃ y : Int32, win < N → rgd y ∧ ∀ n, 100 ≤ n → FX6_rangeIn n fin sh so (nI w) f (nI win) = some y := by
      intro win
      by_cases hwin : win < N
      · obtain ⟨y, y1, y2, _⟩ := rg 0 fin fin (by omega) (fun i _ => by rw [Nat.mul_zero, Nat.zero_add]) hb win hwin
        exact ⟨y, fun _ => ⟨y1, y2⟩⟩
      · exact ⟨0, fun h9 => absurd h9 hwin⟩
    obtain ⟨G, hG⟩ := Classical.axiomOfChoice hex
    exact ⟨G, hG⟩
  obtain ⟨G0, hG0⟩ := cl (tg24 u0) (g1.fb (by omega))
  obtain ⟨G1, hG1⟩ := cl (tg24 u1) (g2.fb (by omega))
  obtain ⟨G2, hG2⟩ := cl (tg24 u2) (g3.fb (by omega))
  obtain ⟨I0, c1, c2⟩ := clr_s (n := n) (z := z) (I := I) hNb (by omega)
  obtain ⟨I1, l1, l2⟩ := take_L (k := 0) (sh := sh) (so := so) (w := w) (f := f) hNb (fun win hwin => (hG0 win hwin).2) N n I0 (by omega) (by omega)
  obtain ⟨I2, m1, m2⟩ := take_L (k := 0) (sh := sh) (so := so) (w := w) (f := f) hNb (fun win hwin => (hG1 win hwin).2) N n I1 (by omega) (by omega)
  obtain ⟨I3, n1, n2⟩ := take_L (k := 0) (sh := sh) (so := so) (w := w) (f := f) hNb (fun win hwin => (hG2 win hwin).2) N n I2 (by omega) (by omega)
  obtain ⟨g, o1, o2⟩ := turn_L (st := st) hNb hS.1 N n I3 (by omega) (by omega)
  rw [show N - N = 0 by omega] at l1 l2 m1 m2 n1 n2 o1 o2
  have hg : ∀ i, i < N → g i = ixv c st (mx (mx (mx (-1) (G0 i)) (G1 i)) (G2 i)) := fun i hi => by
    rw [o2 i hi, if_pos (by omega), n2 i hi, if_pos (by omega), m2 i hi, if_pos (by omega), l2 i hi, if_pos (by omega), c2 i (by omega)]
  refine ⟨T, N, g, u0, u1, u2, hTm, hNe, hNb, ?_, ⟨t1, t2, t3⟩, ⟨s1, s2, s3⟩, hMm, fun i hi => by rw [hg i hi]; exact ixv_d hS.1, ?_⟩
  · unfold FX9_layWindows FX8_takeRanges FX8_turnRangesToIndices
    rw [hwC, ob1_s, c1, ob2_s, e1, ob1_s, show LX8_takeRanges_3 n (nI N) I0 (tg24 u0) sh so (nI w) f 0 = _ from l1, ob1_s, set1, e2, ob1_s, show LX8_takeRanges_3 n (nI N) I1 (tg24 u1) sh so (nI w) f 0 = _ from m1, ob1_s, set2, e3, ob1_s, show LX8_takeRanges_3 n (nI N) I2 (tg24 u2) sh so (nI w) f 0 = _ from n1, ob1_s, show LX8_turnRangesToIndices_2 n (nI N) I3 (nI c) st 0 = _ from o1, ob1_s, eta25 s1, eta25 s2, eta25 s3]
  · intro n' pts pcs a b c' d J F T' P E fi lg up dn he hn'
    obtain ⟨pts2, pcs2, a2, b2, c2', d2, J2, F2, T2, P2, E2, fi2, lg2, up2, dn2, he2, w1, w2⟩ := allF (t := 0) g1 g2 g3 n' pts pcs a b c' d J F T' P E fi lg up dn he hn'
    refine ⟨pts2, pcs2, a2, b2, c2', d2, J2, F2, T2, P2, E2, fi2, lg2, up2, dn2, he2, w1, fun m hm i hi => ?_⟩
    have tie : ∀ (t : Nat) (fin G : Nat → Int32), t < 3 → (∀ i, i < 300 → fin i = F2 (300 * t + i)) → (∀ i, i < 300 → fbd (fin i)) → (∀ win, win < N → rgd (G win) ∧ ∀ n, 100 ≤ n → FX6_rangeIn n fin sh so (nI w) f (nI win) = some (G win)) → ∀ n, 100 ≤ n → FX10_rangeOf n sh so (nI w) (nI k) F2 Fr To (nI t) (nI i) = some (G i) := by
      intro t fin G ht hF hb hG n hn
      obtain ⟨y, y1, y2, y3⟩ := rg t fin F2 ht hF hb i hi
      have := (y2 100 (by omega)).symm.trans ((hG i hi).2 100 (by omega))
      rw [← Option.some.inj this]; exact y3 n hn
    rw [hg i hi]
    exact idxM_s hS.1 hS.2 hm (hG0 i hi).1 (hG1 i hi).1 (hG2 i hi).1 (tie 0 (tg24 u0) G0 (by omega) (w2 0 (by omega)) (g1.fb (by omega)) hG0) (tie 1 (tg24 u1) G1 (by omega) (w2 1 (by omega)) (g2.fb (by omega)) hG1) (tie 2 (tg24 u2) G2 (by omega) (w2 2 (by omega)) (g3.fb (by omega)) hG2)
