theorem nI_n0 {w : Nat} (h0 : 0 < w) (h : w < 2 ^ 31) : ¬ nI w = 0 := fun e => by
  have := i_eq.mp e
  rw [nI_toInt h, t_0] at this
  omega
theorem if_lt {a b : Nat} (ha : a < 2 ^ 31) (hb : b < 2 ^ 31) : (if nI a < nI b then nI b else nI a) = nI (max a b) := by
  by_cases h : a < b
  · rw [if_pos (i_lt.mpr (by rw [nI_toInt ha, nI_toInt hb]; omega)), Nat.max_eq_right (by omega)]
  · rw [if_neg (fun h9 => by have := i_lt.mp h9; rw [nI_toInt ha, nI_toInt hb] at this; omega), Nat.max_eq_left (by omega)]
theorem tmax_s {n a b : Nat} (ha : a ≤ 300) (hb : b ≤ 300) : FX6_times n (nI a) (nI b) = some (nI (max a b)) := by
  rw [times_s ha hb]
  by_cases h : a < b
  · rw [if_pos h, Nat.max_eq_right (by omega)]
  · rw [if_neg h, Nat.max_eq_left (by omega)]
theorem tM_step {n a j k : Nat} {M : Nat → Int32} (hj : j < 6) (ha : a ≤ 300) (hk : k ≤ 300) (hM : M j = nI k) : LX10_timesMany_4 (n + 1) M (nI a) (nI j) = LX10_timesMany_4 n M (nI (max a k)) (nI (j + 1)) := by
  conv => lhs; unfold LX10_timesMany_4 JX10_timesMany_4
  by_cases h : k ≤ a
  · simp (disch := omega) only [bn_s, gd_in, if_pos, if_neg, i_lt, i_le, nI_toInt, Int32.reduceToInt, Int32.reduceSub, reduceIte, nI_clamp, nI_1, nI_add, lit_mul, lit_add, add_lit, pk_mul, pk_us, pk_un, pk_uLs, pk_uLn, nI_eqL, nI_eq, one_0, ob1_s, ob2_s, ob3_s, ob4_s, ob5_s, hM]
    rw [Nat.max_eq_left h]
  · simp (disch := omega) only [bn_s, gd_in, if_pos, if_neg, i_lt, i_le, nI_toInt, Int32.reduceToInt, Int32.reduceSub, reduceIte, nI_clamp, nI_1, nI_add, lit_mul, lit_add, add_lit, pk_mul, pk_us, pk_un, pk_uLs, pk_uLn, nI_eqL, nI_eq, one_0, ob1_s, ob2_s, ob3_s, ob4_s, ob5_s, hM]
    rw [Nat.max_eq_right (by omega)]
theorem times_all {x0 x1 x2 : TS} {R M Ms W Me Lf En Pb : Nat → Int32} (h : IT x0 x1 x2 R M Ms W Me Lf En Pb) : ∃ T : Nat, T ≤ 300 ∧ (∀ n, FX9_timesNow n x0 x1 x2 = some (nI T)) ∧ ∀ n, 10 ≤ n → FX10_timesMany n M = some (nI T) := by
  obtain ⟨⟨⟨a0, ha0⟩, ⟨a1, ha1⟩, _⟩, ⟨⟨b0, hb0⟩, ⟨b1, hb1⟩, _⟩, ⟨⟨c0, hc0⟩, ⟨c1, hc1⟩, _⟩⟩ := h
  have l1 := ha0.1
  have l2 := ha1.1
  have l3 := hb0.1
  have l4 := hb1.1
  have l5 := hc0.1
  have l6 := hc1.1
  refine ⟨max (max (max 0 (max a0 a1)) (max b0 b1)) (max c0 c1), by omega, fun n => ?_, fun n hn => ?_⟩
  · unfold FX9_timesNow
    rw [ha0.2.1, ha1.2.1, hb0.2.1, hb1.2.1, hc0.2.1, hc1.2.1, tmax_s l1 l2, ob1_s, bn_s, tmax_s l3 l4, ob1_s, bn_s, tmax_s l5 l6, ob1_s, bn_s]
    rw [show (if (0 : Int32) < nI (max a0 a1) then nI (max a0 a1) else 0) = nI (max 0 (max a0 a1)) from if_lt (a := 0) (by omega) (by omega)]
    rw [if_lt (by omega) (by omega), if_lt (by omega) (by omega)]
  · obtain ⟨n, rfl⟩ : ∃ m, n = m + 1 + 1 + 1 + 1 + 1 + 1 + 1 := ⟨n - 7, by omega⟩
    unfold FX10_timesMany
    have s0 := tM_step (n := n + 1 + 1 + 1 + 1 + 1 + 1) (a := 0) (j := 0) (by omega) (by omega) l1 ha0.2.2.1
    have s0 : LX10_timesMany_4 (n + 1 + 1 + 1 + 1 + 1 + 1 + 1) M 0 0 = _ := s0
    rw [s0, tM_step (by omega) (by omega) l3 hb0.2.2.1, tM_step (by omega) (by omega) l5 hc0.2.2.1, tM_step (by omega) (by omega) l2 ha1.2.2.1, tM_step (by omega) (by omega) l4 hb1.2.2.1, tM_step (by omega) (by omega) l6 hc1.2.2.1]
    unfold LX10_timesMany_4 JX10_timesMany_4
    rw [if_pos (by decide)]
    congr 2
    omega
theorem wins_C {n T w : Nat} {x0 x1 x2 : TS} (hT : T ≤ 300) (hw : 2 ≤ w) (hw2 : w ≤ 60) (h : ∀ n, FX9_timesNow n x0 x1 x2 = some (nI T)) : FX9_windowsNow n (nI w) x0 x1 x2 = some (nI (T / w)) := by
  unfold FX9_windowsNow FX3_windowsBelow
  rw [h, ob1_s, if_pos (i_le.mpr (by rw [nI_toInt (by omega)]; have : (2 : Int32).toInt = 2 := rfl; omega)), gd_t (nI_n0 (by omega) (by omega)), ob1_s, pk_div (by omega) (by omega) (by omega)]
theorem call_count {n n' w : Nat} {x0 x1 x2 : TS} {R M Ms W Me Lf En Pb : Nat → Int32} {pb tz cl tr p th : Int32} (hn' : 1000 ≤ n') (hw : 2 ≤ w) (hw2 : w ≤ 60) (h : IT x0 x1 x2 R M Ms W Me Lf En Pb) :
    ∃ r, FX9_count n pb tz (nI w) cl tr x0 x1 x2 p = some r ∧ FX10_count n' th tz cl (nI w) tr pb M p = some (r, 0) := by
  obtain ⟨T, hT, h1, h2⟩ := times_all h
  unfold FX9_count FX10_count FX7_size FX5_size
  rw [h1, h2 n' (by omega), wins_C hT hw hw2 h1]
  simp only [ob1_s, gd_t (nI_n0 (show 0 < w by omega) (show w < 2 ^ 31 by omega)), pk_div (show T < 2 ^ 31 by omega) (show 0 < w by omega) (show w < 2 ^ 31 by omega)]
  by_cases c0 : p = 0
  · rw [if_pos c0, if_pos c0]; exact ⟨_, rfl, rfl⟩
  · rw [if_neg c0, if_neg c0]
    by_cases c1 : p = 1
    · rw [if_pos c1, if_pos c1]; exact ⟨_, rfl, rfl⟩
    · rw [if_neg c1, if_neg c1]
      by_cases c2 : p = 2
      · rw [if_pos c2, if_pos c2]; exact ⟨_, rfl, rfl⟩
      · rw [if_neg c2, if_neg c2]
        by_cases c3 : p = 3
        · rw [if_pos c3, if_pos c3]; exact ⟨_, rfl, rfl⟩
        · rw [if_neg c3, if_neg c3]
          by_cases c4 : p = 4
          · rw [if_pos c4, if_pos c4]; exact ⟨_, rfl, rfl⟩
          · rw [if_neg c4, if_neg c4]
            by_cases c5 : p = 5
            · rw [if_pos c5, if_pos c5]; exact ⟨_, rfl, rfl⟩
            · rw [if_neg c5, if_neg c5]; exact ⟨_, rfl, rfl⟩
theorem chg_neg {n : Nat} {f0 f1 : Nat → Int32} {p : Int32} (hp : p.toInt < 0) : ∀ d m, d ≤ 300 → m ≤ 300 - d → d + 1 ≤ n → LX6_changeTime_4 n f0 f1 p (nI m) (nI (300 - d)) = some (-1) := by
  intro d
  induction d generalizing n with
  | zero =>
    intro m _ _ hn
    obtain ⟨n, rfl⟩ : ∃ m, n = m + 1 := ⟨n - 1, by omega⟩
    unfold LX6_changeTime_4 JX6_changeTime_4
    simp (disch := omega) only [bn_s, gd_in, if_pos, if_neg, i_lt, i_le, nI_toInt, Int32.reduceToInt, Int32.reduceSub, reduceIte, nI_clamp, nI_1, nI_add, lit_mul, lit_add, add_lit, pk_mul, pk_us, pk_un, pk_uLs, pk_uLn, nI_eqL, nI_eq, one_0, ob1_s, ob2_s, ob3_s, ob4_s, ob5_s]
  | succ d ih =>
    intro m hd hm hn
    obtain ⟨n, rfl⟩ : ∃ m, n = m + 1 := ⟨n - 1, by omega⟩
    have i1 := ih (n := n) m (by omega) (by omega) (by omega)
    have i2 := ih (n := n) (m + 1) (by omega) (by omega) (by omega)
    rw [show 300 - d = 300 - (d + 1) + 1 by omega] at i1 i2
    have hne : ¬ nI m = p := fun h => by have := i_eq.mp h; rw [nI_toInt (by omega)] at this; omega
    unfold LX6_changeTime_4 JX6_changeTime_4
    simp (disch := omega) only [bn_s, gd_in, if_pos, if_neg, i_lt, i_le, nI_toInt, Int32.reduceToInt, Int32.reduceSub, reduceIte, nI_clamp, nI_1, nI_add, lit_mul, lit_add, add_lit, pk_mul, pk_us, pk_un, pk_uLs, pk_uLn, nI_eqL, nI_eq, one_0, ob1_s, ob2_s, ob3_s, ob4_s, ob5_s, fAt_C, kAt_C, if_neg hne]
    rw [i1, i2]; simp only [ite_self]
theorem chg_lk {n n' t : Nat} {p th pts pcs nr pb : Int32} {a b c d' : Int64} {R M J W Me En Ms T P E fi lg f0 f1 F Pb : Nat → Int32} {up dn he : Nat → Int64} (ht : t < 3) (h0 : ∀ i, i < 300 → f0 i = F (300 * t + i)) (h1 : ∀ i, i < 300 → f1 i = Pb (300 * t + i)) (hp : 0 ≤ p.toInt) : ∀ d m, d ≤ 300 → m ≤ 300 - d → d + 1 ≤ n → d + 1 ≤ n' →
    ∃ y, LX6_changeTime_4 n f0 f1 p (nI m) (nI (300 - d)) = some y ∧ LX10_changed_47 n' th pts pcs a b c d' nr pb R M J F W Me En Ms T P E fi lg up dn he Pb (nI t) p (p - nI m) (nI (300 - d)) = some (y, th, pts, pcs, a, b, c, d', J, F, T, P, E, fi, lg, up, dn, he) := by
  intro d
  induction d generalizing n n' with
  | zero =>
    intro m _ _ hn hn'
    obtain ⟨n, rfl⟩ : ∃ m, n = m + 1 := ⟨n - 1, by omega⟩
    obtain ⟨n', rfl⟩ : ∃ m, n' = m + 1 := ⟨n' - 1, by omega⟩
    unfold LX6_changeTime_4 JX6_changeTime_4 LX10_changed_47 JX10_changed_47
    refine ⟨-1, ?_, ?_⟩ <;> simp (disch := omega) only [bn_s, gd_in, if_pos, if_neg, i_lt, i_le, nI_toInt, Int32.reduceToInt, Int32.reduceSub, reduceIte, nI_clamp, nI_1, nI_add, lit_mul, lit_add, add_lit, pk_mul, pk_us, pk_un, pk_uLs, pk_uLn, nI_eqL, nI_eq, one_0, ob1_s, ob2_s, ob3_s, ob4_s, ob5_s]
  | succ d ih =>
    intro m hd hm hn hn'
    obtain ⟨n, rfl⟩ : ∃ m, n = m + 1 := ⟨n - 1, by omega⟩
    obtain ⟨n', rfl⟩ : ∃ m, n' = m + 1 := ⟨n' - 1, by omega⟩
    obtain ⟨a0, i1, i2⟩ := ih (n := n) (n' := n') m (by omega) (by omega) (by omega) (by omega)
    obtain ⟨b0, j1, j2⟩ := ih (n := n) (n' := n') (m + 1) (by omega) (by omega) (by omega) (by omega)
    rw [show 300 - d = 300 - (d + 1) + 1 by omega] at i1 i2 j1 j2
    have e0 := h0 (300 - (d + 1)) (by omega)
    have e1 := h1 (300 - (d + 1)) (by omega)
    have hx0 : ¬ (300 : Int32) ≤ nI (300 - (d + 1)) := n300 (by omega)
    have hp0 : ¬ p < 0 := fun h9 => by have := i_lt.mp h9; rw [t_0] at this; omega
    unfold LX6_changeTime_4 JX6_changeTime_4 LX10_changed_47 JX10_changed_47
    rw [if_neg hx0, if_neg hx0, if_neg hp0, fAt_C, ob1_s, kAt_C, ob1_s, rdv_n (by omega), rdv_n (by omega), show (300 : Int32) * nI t = nI (300 * t) from pk_mul 300 t, nI_add, gd_in (by omega) (by omega), gd_in (by omega) (by omega), nI_clamp (by omega), e0, e1]
    by_cases c1 : F (300 * t + (300 - (d + 1))) = Pb (300 * t + (300 - (d + 1)))
    · rw [if_pos c1, if_pos c1, bn_s, bn_s, nI_1]
      exact ⟨a0, i1, i2⟩
    · rw [if_neg c1, if_neg c1]
      by_cases c2 : nI m = p
      · rw [if_pos c2, if_pos (by rw [lft_z]; exact c2)]
        exact ⟨_, rfl, rfl⟩
      · rw [if_neg c2, if_neg (by rw [lft_z]; exact c2), lft_s, bn_s, bn_s, bn_s, bn_s, nI_1, nI_1]
        exact ⟨b0, j1, j2⟩
theorem call_changed {n n' : Nat} {x0 x1 x2 : TS} {R M Ms W Me Lf En Pb J F T P E fi lg : Nat → Int32} {up dn he : Nat → Int64} {a b c d : Int64} {nr pb p v th pts pcs : Int32} (hn : 1000 ≤ n) (hn' : 1000 ≤ n') (hnr : 0 ≤ nr.toInt) (h : IT x0 x1 x2 R M Ms W Me Lf En Pb) :
    ∃ k r y0 y1 y2 bb th' pts' pcs' a' b' c' d' J' F' T' P' E' fi' lg' up' dn' he', FX9_changed n pb nr x0 x1 x2 p v = some (k, r, y0, y1, y2) ∧ FX10_changed n' th pts pcs a b c d nr pb R M J F W Me En Ms T P E fi lg up dn he Pb p v = some (bb, th', pts', pcs', a', b', c', d', J', F', T', P', E', fi', lg', up', dn', he') ∧ IT y0 y1 y2 R M Ms W Me Lf En Pb ∧ Ans k r bb th' := by
  by_cases h1 : 0 ≤ p.toInt ∧ p.toInt < 3
  · obtain ⟨t, ht, rfl⟩ := badtr h1
    obtain ⟨x', e1, e2, e3, e4, e5⟩ := settled_all (n := n) hn ht hnr h
    obtain ⟨p, q, g, J2, fn2, T2, P2, E2, fi2, lg2, up2, dn2, he2, a2, b2, c2, d2, g1, g2, g3, g4, g5, g6, g7, g8, g9, g10, g11, g12⟩ := e5 n' pts pcs a b c d J F T P E fi lg up dn he hn'
    have hk := e4.2.2.2.1
    by_cases hpb : pb = 0
    · refine ⟨0, -1, putT 0 t x' x0, putT 1 t x' x1, putT 2 t x' x2, -1, 0, pts, pcs, a, b, c, d, J, F, T, P, E, fi, lg, up, dn, he, ?_, ?_, e3, .ok rfl rfl⟩
      · unfold FX9_changed
        rw [ift (tSx_no ht), set1, set2]
        rcases (show t = 0 ∨ t = 1 ∨ t = 2 by omega) with rfl | rfl | rfl
        · rw [n00, show FX9_settled_0 n nr x0 = some x' from e1, ob1_s, if_pos hpb, eta25 (show tg25 x' = tg25 x0 from e2)]; rfl
        · rw [n10, n11, show FX9_settled_0 n nr x1 = some x' from e1, ob1_s, if_pos hpb, eta25 (show tg25 x' = tg25 x1 from e2)]; rfl
        · rw [n20, n21, n22, show FX9_settled_0 n nr x2 = some x' from e1, ob1_s, if_pos hpb, eta25 (show tg25 x' = tg25 x2 from e2)]; rfl
      · unfold FX10_changed JX10_changed_19
        rw [it1 ht, ifo, bd0, ifz, if_pos hpb]
    · have key : ∃ y, FX6_changeTime n (tg24 x') (tg25 x') v = some y ∧ LX10_changed_47 n' 0 (nI p) (nI q) a2 b2 c2 d2 nr pb R M J2 fn2 W Me En Ms T2 P2 E2 fi2 lg2 up2 dn2 he2 Pb (nI t) v v 0 = some (y, 0, nI p, nI q, a2, b2, c2, d2, J2, fn2, T2, P2, E2, fi2, lg2, up2, dn2, he2) := by
        unfold FX6_changeTime
        by_cases hv : v.toInt < 0
        · refine ⟨-1, chg_neg (n := n) hv 300 0 (by omega) (by omega) (by omega), ?_⟩
          obtain ⟨n', rfl⟩ : ∃ m, n' = m + 1 := ⟨n' - 1, by omega⟩
          unfold LX10_changed_47 JX10_changed_47
          simp (disch := omega) only [bn_s, gd_in, if_pos, if_neg, i_lt, i_le, nI_toInt, Int32.reduceToInt, Int32.reduceSub, reduceIte, nI_clamp, nI_1, nI_add, lit_mul, lit_add, add_lit, pk_mul, pk_us, pk_un, pk_uLs, pk_uLn, nI_eqL, nI_eq, one_0, ob1_s, ob2_s, ob3_s, ob4_s, ob5_s]
        · obtain ⟨y, j1, j2⟩ := chg_lk (n := n) (n' := n') (p := v) (th := 0) (pts := nI p) (pcs := nI q) (nr := nr) (pb := pb) (a := a2) (b := b2) (c := c2) (d' := d2) (R := R) (M := M) (J := J2) (W := W) (Me := Me) (En := En) (Ms := Ms) (T := T2) (P := P2) (E := E2) (fi := fi2) (lg := lg2) (up := up2) (dn := dn2) (he := he2) ht g8 hk (by omega) 300 0 (by omega) (by omega) (by omega) (by omega)
          have e : v - nI 0 = v := Int32.sub_zero v
          rw [e] at j2
          exact ⟨y, j1, j2⟩
      obtain ⟨y, y1, y2⟩ := key
      refine ⟨0, y, putT 0 t x' x0, putT 1 t x' x1, putT 2 t x' x2, y, 0, nI p, nI q, a2, b2, c2, d2, J2, fn2, T2, P2, E2, fi2, lg2, up2, dn2, he2, ?_, ?_, e3, .ok rfl rfl⟩
      · unfold FX9_changed
        rw [ift (tSx_no ht), set1, set2]
        rw [e2] at y1
        rcases (show t = 0 ∨ t = 1 ∨ t = 2 by omega) with rfl | rfl | rfl
        · rw [n00, show FX9_settled_0 n nr x0 = some x' from e1, ob1_s, if_neg hpb, show FX6_changeTime n (tg24 x') (tg25 x0) v = _ from y1, ob1_s, eta25 (show tg25 x' = tg25 x0 from e2)]; rfl
        · rw [n10, n11, show FX9_settled_0 n nr x1 = some x' from e1, ob1_s, if_neg hpb, show FX6_changeTime n (tg24 x') (tg25 x1) v = _ from y1, ob1_s, eta25 (show tg25 x' = tg25 x1 from e2)]; rfl
        · rw [n20, n21, n22, show FX9_settled_0 n nr x2 = some x' from e1, ob1_s, if_neg hpb, show FX6_changeTime n (tg24 x') (tg25 x2) v = _ from y1, ob1_s, eta25 (show tg25 x' = tg25 x2 from e2)]; rfl
      · unfold FX10_changed JX10_changed_19
        rw [it1 ht, ifo, bd0, ifz, if_neg hpb, g12, ob16_s]
        exact y2
  · refine ⟨1, 0, x0, x1, x2, 0, 1, pts, pcs, a, b, c, d, J, F, T, P, E, fi, lg, up, dn, he, by unfold FX9_changed; rw [if_pos (tSx_yes h1)], ?_, h, .o1⟩
    unfold FX10_changed JX10_changed_19
    rw [isTrace_s, if_neg h1, ob1_s, ifz, bd1, ifo]
