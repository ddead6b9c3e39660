theorem isTrain_L {k i : Nat} {Fr To : Nat → Int32} (hk : k ≤ 10) (hi : i < 300) : ∀ d n, d ≤ k → d + 1 ≤ n → ((∃ j, k - d ≤ j ∧ j < k ∧ (Fr j).toInt ≤ i ∧ i < (To j).toInt) → LX10_isTrain_2 n (nI k) Fr To (nI i) (nI (k - d)) = some 1) ∧ ((¬ ∃ j, k - d ≤ j ∧ j < k ∧ (Fr j).toInt ≤ i ∧ i < (To j).toInt) → LX10_isTrain_2 n (nI k) Fr To (nI i) (nI (k - d)) = some 0) := by
  intro d
  induction d with
  | zero =>
    intro n _ hn
    obtain ⟨n, rfl⟩ : ∃ m, n = m + 1 := ⟨n - 1, by omega⟩
    refine ⟨fun h => by obtain ⟨j, h1, h2, _⟩ := h; omega, fun _ => ?_⟩
    unfold LX10_isTrain_2 JX10_isTrain_2
    simp (disch := omega) only [bn_s, gd_in, if_pos, if_neg, i_lt, i_le, nI_toInt, Int32.reduceToInt, Int32.reduceSub, reduceIte, nI_clamp, nI_1, nI_add, lit_mul, lit_add, add_lit, pk_mul, pk_us, pk_un, pk_uLs, pk_uLn, nI_eqL, nI_eq, one_0, ob1_s, ob2_s, ob3_s, ob4_s, ob5_s]
  | succ d ih =>
    intro n hd hn
    obtain ⟨n, rfl⟩ : ∃ m, n = m + 1 := ⟨n - 1, by omega⟩
    obtain ⟨i1, i2⟩ := ih n (by omega) (by omega)
    rw [show k - d = k - (d + 1) + 1 by omega] at i1 i2
    unfold LX10_isTrain_2 JX10_isTrain_2
    by_cases c : (Fr (k - (d + 1))).toInt ≤ i ∧ i < (To (k - (d + 1))).toInt
    · refine ⟨fun _ => ?_, fun h => absurd ⟨k - (d + 1), by omega, by omega, c⟩ h⟩
      simp (disch := omega) only [bn_s, gd_in, if_pos, if_neg, i_lt, i_le, nI_toInt, Int32.reduceToInt, Int32.reduceSub, reduceIte, nI_clamp, nI_1, nI_add, lit_mul, lit_add, add_lit, pk_mul, pk_us, pk_un, pk_uLs, pk_uLn, nI_eqL, nI_eq, one_0, ob1_s, ob2_s, ob3_s, ob4_s, ob5_s]
    · have e : (∃ j, k - (d + 1) ≤ j ∧ j < k ∧ (Fr j).toInt ≤ i ∧ i < (To j).toInt) ↔ (∃ j, k - (d + 1) + 1 ≤ j ∧ j < k ∧ (Fr j).toInt ≤ i ∧ i < (To j).toInt) := by
        refine ⟨fun ⟨j, h1, h2, h3⟩ => ?_, fun ⟨j, h1, h2, h3⟩ => ⟨j, by omega, h2, h3⟩⟩
        by_cases e : j = k - (d + 1)
        · subst e; exact absurd h3 c
        · exact ⟨j, by omega, h2, h3⟩
      rw [e]
      by_cases c1 : (i : Int) < (Fr (k - (d + 1))).toInt
      · simp (disch := omega) only [bn_s, gd_in, if_pos, if_neg, i_lt, i_le, nI_toInt, Int32.reduceToInt, Int32.reduceSub, reduceIte, nI_clamp, nI_1, nI_add, lit_mul, lit_add, add_lit, pk_mul, pk_us, pk_un, pk_uLs, pk_uLn, nI_eqL, nI_eq, one_0, ob1_s, ob2_s, ob3_s, ob4_s, ob5_s]
        exact ⟨i1, i2⟩
      · simp (disch := omega) only [bn_s, gd_in, if_pos, if_neg, i_lt, i_le, nI_toInt, Int32.reduceToInt, Int32.reduceSub, reduceIte, nI_clamp, nI_1, nI_add, lit_mul, lit_add, add_lit, pk_mul, pk_us, pk_un, pk_uLs, pk_uLn, nI_eqL, nI_eq, one_0, ob1_s, ob2_s, ob3_s, ob4_s, ob5_s]
        exact ⟨i1, i2⟩
theorem isTrain_s {n k i : Nat} {f Fr To : Nat → Int32} (hn : 20 ≤ n) (hi : i < 300) (h : TrR k f Fr To) : FX10_isTrain n (nI k) Fr To (nI i) = some (if f i = 0 then 0 else 1) := by
  obtain ⟨hk, hf⟩ := h
  obtain ⟨h1, h2⟩ := hf i hi
  obtain ⟨i1, i2⟩ := isTrain_L (Fr := Fr) (To := To) hk hi k n (by omega) (by omega)
  rw [show k - k = 0 by omega] at i1 i2
  unfold FX10_isTrain
  rcases h1 with h1 | h1
  · rw [h1, if_pos rfl]
    refine i2 (fun ⟨j, j1, j2, j3⟩ => ?_)
    have := h2.mpr ⟨j, j2, j3⟩
    rw [h1] at this
    exact absurd this (by decide)
  · rw [h1, if_neg (by decide)]
    obtain ⟨j, j1, j2⟩ := h2.mp h1
    exact i1 ⟨j, by omega, j1, j2⟩
theorem goBy_s {n i : Nat} {f : Nat → Int32} (hi : i < 300) : FX7_goBy n f (nI i) = some (if f i = 0 then 0 else 1) := by
  unfold FX7_goBy
  rw [if_neg (fun h9 => by have := i_lt.mp h9; rw [nI_toInt (by omega), t_0] at this; omega), if_neg (n300 hi), gd_in (by omega) (by omega), nI_clamp (by omega)]
  by_cases c : f i = 0
  · rw [if_pos c, if_pos c]
  · rw [if_neg c, if_neg c]
theorem nI_le' {a b : Nat} (ha : a < 2 ^ 31) (hb : b < 2 ^ 31) : (nI a ≤ nI b) = (a ≤ b) := by
  refine propext ⟨fun h => ?_, fun h => i_le.mpr (by rw [nI_toInt ha, nI_toInt hb]; omega)⟩
  have := i_le.mp h
  rw [nI_toInt ha, nI_toInt hb] at this
  omega
theorem range_lk {t win w s k : Nat} {sh so : Int32} {fin F f Fr To : Nat → Int32} (ht : t < 3) (hw2 : w ≤ 60) (hs : s = win * w) (hE : s + w ≤ 300) (hwin : win ≤ 300) (hF : ∀ i, i < 300 → fin i = F (300 * t + i)) (hb : ∀ i, i < 300 → fbd (fin i)) (hT : TrR k f Fr To) :
    ∀ d n n' a (lo hi : Int32), d ≤ w → d + 1 ≤ n → d + 30 ≤ n' → a + d ≤ w → (a = 0 ∨ (lo.toInt ≤ hi.toInt ∧ lo.toInt.natAbs ≤ 400030000 ∧ hi.toInt.natAbs ≤ 400030000)) →
    ∃ y : Int32, LX6_rangeIn_21 n fin sh so (nI w) f (nI s) (nI a) lo hi (nI (s + w - d)) = some y ∧ LX10_rangeOf_16 n' sh so (nI w) (nI k) F Fr To (nI t) (nI win) (nI a) lo hi (nI (s + w - d)) = some y ∧ (y = -1 ∨ 0 ≤ y.toInt) := by
  have em : (nI win + 1) * nI w = nI (s + w) := by
    rw [nI_1, pk_mul, hs, Nat.succ_mul]
  intro d
  induction d with
  | zero =>
    intro n n' a lo hi _ hn hn' ha hinv
    obtain ⟨n, rfl⟩ : ∃ m, n = m + 1 := ⟨n - 1, by omega⟩
    obtain ⟨n', rfl⟩ : ∃ m, n' = m + 1 := ⟨n' - 1, by omega⟩
    unfold LX6_rangeIn_21 JX6_rangeIn_21 LX10_rangeOf_16 JX10_rangeOf_16
    rw [em, nI_add, Nat.sub_zero, if_pos (Int32.le_refl _), if_pos (Int32.le_refl _)]
    by_cases c0 : a = 0
    · subst c0
      exact ⟨-1, rfl, rfl, Or.inl rfl⟩
    · have hi' := hinv.resolve_left c0
      have e0 : ¬ nI a = 0 := nI_n0 (by omega) (by omega)
      simp only [if_neg e0]
      by_cases c1 : nI w * sh ≤ nI a * so
      · simp only [if_pos c1]
        refine ⟨_, rfl, rfl, Or.inr ?_⟩
        rw [sub_t (by omega) (by omega)]; omega
      · simp only [if_neg c1]
        exact ⟨-1, rfl, rfl, Or.inl rfl⟩
  | succ d ih =>
    intro n n' a lo hi hd hn hn' ha hinv
    obtain ⟨n, rfl⟩ : ∃ m, n = m + 1 := ⟨n - 1, by omega⟩
    obtain ⟨n', rfl⟩ : ∃ m, n' = m + 1 := ⟨n' - 1, by omega⟩
    have hc : ¬ nI (s + w) ≤ nI (s + w - (d + 1)) := by rw [nI_le' (by omega) (by omega)]; omega
    have hF0 := hF (s + w - (d + 1)) (by omega)
    have hb0 := hb (s + w - (d + 1)) (by omega)
    have key := fun a' lo' hi' h1 h2 => ih n n' a' lo' hi' (by omega) (by omega) (by omega) h1 h2
    rw [show s + w - d = s + w - (d + 1) + 1 by omega] at key
    unfold LX6_rangeIn_21 JX6_rangeIn_21 LX10_rangeOf_16 JX10_rangeOf_16
    rw [em, nI_add, if_neg hc, if_neg hc, fAt_C, ob1_s, rdv_n (by omega), show (300 : Int32) * nI t = nI (300 * t) from pk_mul 300 t, nI_add, gd_in (by omega) (by omega), nI_clamp (by omega), ← hF0]
    simp only [bn_s, nI_1]
    generalize fin (s + w - (d + 1)) = v at *
    by_cases c1 : v = -2000000000
    · rw [if_pos c1, if_pos c1]
      exact key a lo hi (by omega) hinv
    · have hv := hb0.resolve_left c1
      rw [if_neg c1, if_neg c1, goBy_s (by omega), ob1_s, isTrain_s (by omega) (by omega) hT, ob1_s]
      by_cases c2 : f (s + w - (d + 1)) = 0
      · rw [if_pos c2, ifz, ifz]
        by_cases c3 : a = 0
        · subst c3
          have e0 : nI 0 = 0 := rfl
          unfold JX10_rangeOf_74
          simp only [if_pos e0, bn_s, nI_1]
          exact key 1 v v (by omega) (Or.inr ⟨by omega, hv, hv⟩)
        · have hi' := hinv.resolve_left c3
          have e0 : ¬ nI a = 0 := nI_n0 (by omega) (by omega)
          unfold JX10_rangeOf_74
          simp only [if_neg e0, bn_s, nI_1]
          by_cases c4 : v < lo
          · have c4' : ¬ lo ≤ v := fun h => by have := i_le.mp h; have := i_lt.mp c4; omega
            have q4 := i_lt.mp c4
            by_cases c5 : hi < v
            · have q5 := i_lt.mp c5
              omega
            · have q5 := mt i_lt.mpr c5
              have c5' : v ≤ hi := i_le.mpr (by omega)
              simp only [if_pos c4, if_neg c4', if_neg c5, if_pos c5']
              exact key (a + 1) v hi (by omega) (Or.inr ⟨by omega, hv, hi'.2.2⟩)
          · have q4 := mt i_lt.mpr c4
            have c4' : lo ≤ v := i_le.mpr (by omega)
            by_cases c5 : hi < v
            · have q5 := i_lt.mp c5
              have c5' : ¬ v ≤ hi := fun h => by have := i_le.mp h; omega
              simp only [if_neg c4, if_pos c4', if_pos c5, if_neg c5']
              exact key (a + 1) lo v (by omega) (Or.inr ⟨by omega, hi'.2.1, hv⟩)
            · have q5 := mt i_lt.mpr c5
              have c5' : v ≤ hi := i_le.mpr (by omega)
              simp only [if_neg c4, if_pos c4', if_neg c5, if_pos c5']
              exact key (a + 1) lo hi (by omega) (Or.inr hi')
      · rw [if_neg c2, ifo, ifo]
        exact key a lo hi (by omega) hinv
/-- what a range may be -/
def rgd (y : Int32) : Prop := y = -1 ∨ 0 ≤ y.toInt
theorem range_s {t win w k : Nat} {sh so : Int32} {fin F f Fr To : Nat → Int32} (ht : t < 3) (hw2 : w ≤ 60) (hE : win * w + w ≤ 300) (hwin : win ≤ 300) (hF : ∀ i, i < 300 → fin i = F (300 * t + i)) (hb : ∀ i, i < 300 → fbd (fin i)) (hT : TrR k f Fr To) :
    ∃ y : Int32, rgd y ∧ (∀ n, 100 ≤ n → FX6_rangeIn n fin sh so (nI w) f (nI win) = some y) ∧ ∀ n, 100 ≤ n → FX10_rangeOf n sh so (nI w) (nI k) F Fr To (nI t) (nI win) = some y := by
  obtain ⟨y0, a1, a2, a3⟩ := range_lk (sh := sh) (so := so) ht hw2 rfl hE hwin hF hb hT w 100 100 0 0 0 (by omega) (by omega) (by omega) (by omega) (Or.inl rfl)
  refine ⟨y0, a3, fun n hn => ?_, fun n hn => ?_⟩
  · obtain ⟨y, b1, b2, _⟩ := range_lk (sh := sh) (so := so) ht hw2 rfl hE hwin hF hb hT w n 100 0 0 0 (by omega) (by omega) (by omega) (by omega) (Or.inl rfl)
    rw [a2] at b2
    rw [show win * w + w - w = win * w by omega] at b1
    unfold FX6_rangeIn
    rw [bn_s, pk_mul]
    exact b1.trans b2.symm
  · obtain ⟨y, b1, b2, _⟩ := range_lk (sh := sh) (so := so) ht hw2 rfl hE hwin hF hb hT w 100 n 0 0 0 (by omega) (by omega) (by omega) (by omega) (Or.inl rfl)
    rw [a1] at b1
    rw [show win * w + w - w = win * w by omega] at b2
    unfold FX10_rangeOf
    rw [bn_s, pk_mul]
    exact b2.trans b1.symm
theorem win_b {T w win : Nat} (hT : T ≤ 300) (hw : 2 ≤ w) (h : win < T / w) : win * w + w ≤ 300 ∧ win ≤ 300 := by
  have h1 : (win + 1) * w ≤ T := by
    have := Nat.div_mul_le_self T w
    exact Nat.le_trans (Nat.mul_le_mul_right w (show win + 1 ≤ T / w by omega)) this
  rw [Nat.succ_mul] at h1
  have h2 : win * 2 ≤ win * w := Nat.mul_le_mul_left win hw
  omega
theorem isWin_s {n T w : Nat} {M : Nat → Int32} {p : Int32} (hT : T ≤ 300) (hw : 2 ≤ w) (hw2 : w ≤ 60) (h : FX10_timesMany n M = some (nI T)) : FX10_isWindow n (nI w) M p = some (if 0 ≤ p.toInt ∧ p.toInt < (T / w : Nat) then 1 else 0) := by
  have hd : T / w ≤ T := Nat.div_le_self T w
  unfold FX10_isWindow
  by_cases c0 : p < 0
  · rw [if_pos c0, if_neg (by have := i_lt.mp c0; rw [t_0] at this; omega)]
  · have q0 := mt i_lt.mpr c0
    rw [t_0] at q0
    rw [if_neg c0, h, ob1_s, gd_t (nI_n0 (by omega) (by omega)), pk_div (by omega) (by omega) (by omega)]
    by_cases c1 : nI (T / w) ≤ p
    · have q1 := i_le.mp c1
      rw [nI_toInt (by omega)] at q1
      rw [if_pos c1, if_neg (by omega)]
    · have q1 := mt i_le.mpr c1
      rw [nI_toInt (by omega)] at q1
      rw [if_neg c1, if_pos (by omega)]
theorem call_range {n n' w k : Nat} {x0 x1 x2 : TS} {R M Ms W Me Lf En Pb J F T P E fi lg f Fr To : Nat → Int32} {up dn he : Nat → Int64} {a b c d : Int64} {nr sh so p v th pts pcs : Int32} (hn : 1000 ≤ n) (hn' : 1000 ≤ n') (hnr : 0 ≤ nr.toInt) (hw : 2 ≤ w) (hw2 : w ≤ 60) (hT : TrR k f Fr To) (h : IT x0 x1 x2 R M Ms W Me Lf En Pb) :
    ∃ kk r y0 y1 y2 bb th' pts' pcs' a' b' c' d' J' F' T' P' E' fi' lg' up' dn' he', FX9_range n nr sh so (nI w) f x0 x1 x2 p v = some (kk, r, y0, y1, y2) ∧ FX10_range n' th pts pcs a b c d nr sh so (nI w) (nI k) R M J F W Me En Ms T P E fi lg up dn he Fr To p v = some (bb, th', pts', pcs', a', b', c', d', J', F', T', P', E', fi', lg', up', dn', he') ∧ IT y0 y1 y2 R M Ms W Me Lf En Pb ∧ Ans kk r bb th' := by
  by_cases h1 : 0 ≤ p.toInt ∧ p.toInt < 3
  · obtain ⟨t, ht, rfl⟩ := badtr h1
    obtain ⟨x', e1, e2, e3, e4, e5⟩ := settled_all (n := n) hn ht hnr h
    have hfb := e5.fb ht
    obtain ⟨p, q, g, J2, fn2, T2, P2, E2, fi2, lg2, up2, dn2, he2, a2, b2, c2, d2, g1, g2, g3, g4, g5, g6, g7, g8, g9, g10, g11, g12⟩ := e5 n' pts pcs a b c d J F T P E fi lg up dn he hn'
    obtain ⟨Tm, hTm, hC, hMm⟩ := times_all e3
    have hwC := wins_C (n := n) (w := w) hTm hw hw2 hC
    have hwM := isWin_s (n := n') (w := w) (p := v) hTm hw hw2 (hMm n' (by omega))
    have hd : Tm / w ≤ Tm := Nat.div_le_self Tm w
    have hwb := fun win (h : win < Tm / w) => win_b hTm hw h
    generalize Tm / w = N at *
    by_cases hv : 0 ≤ v.toInt ∧ v.toInt < (N : Nat)
    · obtain ⟨win, hwin, rfl⟩ := of_lt (x := v) (N := N) (by omega) hv.2 (by omega)
      obtain ⟨y, _, y1, y2⟩ := range_s (sh := sh) (so := so) ht hw2 (hwb win hwin).1 (hwb win hwin).2 g8 hfb hT
      have hin : (0 : Int32).toInt ≤ (nI win).toInt ∧ (nI win).toInt ≤ (nI (N) - 1).toInt := by
        rw [show nI (N) - 1 = nI (N - 1) from pk_sub (a := N) (b := 1) (by omega), nI_toInt (by omega), nI_toInt (by omega), t_0]
        omega
      refine ⟨0, y, putT 0 t x' x0, putT 1 t x' x1, putT 2 t x' x2, y, 0, nI p, nI q, a2, b2, c2, d2, J2, fn2, T2, P2, E2, fi2, lg2, up2, dn2, he2, ?_, ?_, e3, .ok rfl rfl⟩
      · unfold FX9_range
        rw [ift (tSx_no ht), set1, set2]
        rcases (show t = 0 ∨ t = 1 ∨ t = 2 by omega) with rfl | rfl | rfl
        · rw [n00, show FX9_settled_0 n nr x0 = some x' from e1, ob1_s, eta25 (show tg25 x' = tg25 x0 from e2), show FX9_windowsNow n (nI w) x' x1 x2 = _ from hwC, ob1_s, wi1 hin, ifo, y1 n (by omega), ob1_s]; rfl
        · rw [n10, n11, show FX9_settled_0 n nr x1 = some x' from e1, ob1_s, eta25 (show tg25 x' = tg25 x1 from e2), show FX9_windowsNow n (nI w) x0 x' x2 = _ from hwC, ob1_s, wi1 hin, ifo, y1 n (by omega), ob1_s]; rfl
        · rw [n20, n21, n22, show FX9_settled_0 n nr x2 = some x' from e1, ob1_s, eta25 (show tg25 x' = tg25 x2 from e2), show FX9_windowsNow n (nI w) x0 x1 x' = _ from hwC, ob1_s, wi1 hin, ifo, y1 n (by omega), ob1_s]; rfl
      · unfold FX10_range JX10_range_19
        rw [it1 ht, ifo, bd0, ifz, hwM, if_pos hv, ob1_s, ifo, g12, ob16_s, y2 n' (by omega), ob1_s]
    · have hin : ¬ ((0 : Int32).toInt ≤ v.toInt ∧ v.toInt ≤ (nI (N) - 1).toInt) := by
        rw [t_0, sub_t (by rw [nI_toInt (by omega), t_1]; omega) (by rw [nI_toInt (by omega), t_1]; omega), nI_toInt (by omega), t_1]
        omega
      refine ⟨0, -1, putT 0 t x' x0, putT 1 t x' x1, putT 2 t x' x2, -1, 0, pts, pcs, a, b, c, d, J, F, T, P, E, fi, lg, up, dn, he, ?_, ?_, e3, .ok rfl rfl⟩
      · unfold FX9_range
        rw [ift (tSx_no ht), set1, set2]
        rcases (show t = 0 ∨ t = 1 ∨ t = 2 by omega) with rfl | rfl | rfl
        · rw [n00, show FX9_settled_0 n nr x0 = some x' from e1, ob1_s, eta25 (show tg25 x' = tg25 x0 from e2), show FX9_windowsNow n (nI w) x' x1 x2 = _ from hwC, ob1_s, wi0 hin, ifz]; rfl
        · rw [n10, n11, show FX9_settled_0 n nr x1 = some x' from e1, ob1_s, eta25 (show tg25 x' = tg25 x1 from e2), show FX9_windowsNow n (nI w) x0 x' x2 = _ from hwC, ob1_s, wi0 hin, ifz]; rfl
        · rw [n20, n21, n22, show FX9_settled_0 n nr x2 = some x' from e1, ob1_s, eta25 (show tg25 x' = tg25 x2 from e2), show FX9_windowsNow n (nI w) x0 x1 x' = _ from hwC, ob1_s, wi0 hin, ifz]; rfl
      · unfold FX10_range JX10_range_19
        rw [it1 ht, ifo, bd0, ifz, hwM, if_neg hv, ob1_s, ifz]
  · refine ⟨1, 0, x0, x1, x2, 0, 1, pts, pcs, a, b, c, d, J, F, T, P, E, fi, lg, up, dn, he, by unfold FX9_range; rw [if_pos (tSx_yes h1)], ?_, h, .o1⟩
    unfold FX10_range JX10_range_19
    rw [isTrace_s, if_neg h1, ob1_s, ifz, bd1, ifo]
