theorem ss_neg {N : Nat} {g : Nat → Int32} {p sto : Int32} (hN : N ≤ 150) (h0 : 0 ≤ sto.toInt) (hp : p.toInt < 0) : ∀ d n m i, i ≤ N + 1 → m ≤ i → N + 1 - i ≤ d → d + 201 ≤ n → LX8_stormStart_5 n (nI N) g p sto (nI m) (nI i) = some (-1) := by
  intro d
  induction d with
  | zero =>
    intro n m i hi hm hd hn
    obtain ⟨n, rfl⟩ : ∃ m, n = m + 1 := ⟨n - 1, by omega⟩
    unfold LX8_stormStart_5 JX8_stormStart_5
    rw [if_pos (by rw [nI_le' (by omega) (by omega)]; omega)]
  | succ d ih =>
    intro n m i hi hm hd hn
    obtain ⟨n, rfl⟩ : ∃ m, n = m + 1 := ⟨n - 1, by omega⟩
    unfold LX8_stormStart_5 JX8_stormStart_5
    by_cases e : N ≤ i
    · rw [if_pos (by rw [nI_le' (by omega) (by omega)]; omega)]
    · have hr := run_le (g := g) (N := N) (sto := sto) N i (by omega)
      have hne : ¬ nI m = p := fun h => by have := i_eq.mp h; rw [nI_toInt (by omega)] at this; omega
      rw [if_neg (by rw [nI_le' (by omega) (by omega)]; omega), sLen_s hN (by omega) h0 (by omega), ob1_s, if_neg hne, nI_1, nI_add]
      simp only [bn_s, nI_1]
      rw [ih n m _ (by omega) (by omega) (by omega) (by omega), ih n (m + 1) _ (by omega) (by omega) (by omega) (by omega)]
      simp only [ite_self]
theorem ss_lk {N c k : Nat} {th pts pcs nr sh so w sto p q : Int32} {a b c' d' : Int64} {R M J F W Me En Ms T P E fi lg ix Fr To g : Nat → Int32} {up dn he : Nat → Int64} (hN : N ≤ 150) (h0 : 0 ≤ sto.toInt) (hp : 0 ≤ p.toInt) (hg : ∀ i, i < N → ixd (g i)) (hx : ∀ m, 300 ≤ m → ∀ i, i < N → FX10_indexOf m sh so w (nI c) (nI k) F ix Fr To (nI i) = some (g i)) :
    ∀ d n n' m i, i ≤ N + 1 → m ≤ i → N + 1 - i ≤ d → d + 201 ≤ n → d + 460 ≤ n' → ∃ y z : Int32, LX8_stormStart_5 n (nI N) g p sto (nI m) (nI i) = some y ∧ LX10_storm_49 n' th pts pcs a b c' d' nr sh so w sto (nI c) (nI k) R M J F W Me En Ms T P E fi lg up dn he ix Fr To p q (nI N) (p - nI m) (nI i) = some (z, th, pts, pcs, a, b, c', d', J, F, T, P, E, fi, lg, up, dn, he) ∧
      ((y = -1 ∧ z = -1) ∨ ∃ s, s < N ∧ y = nI s ∧ z = if q = 0 then nI s else nI (run g N sto N s)) := by
  intro d
  induction d with
  | zero =>
    intro n n' m i hi hm hd hn hn'
    obtain ⟨n, rfl⟩ : ∃ m, n = m + 1 := ⟨n - 1, by omega⟩
    obtain ⟨n', rfl⟩ : ∃ m, n' = m + 1 := ⟨n' - 1, by omega⟩
    unfold LX8_stormStart_5 JX8_stormStart_5 LX10_storm_49 JX10_storm_49
    have e0 : nI N ≤ nI i := by rw [nI_le' (by omega) (by omega)]; omega
    rw [if_pos e0, if_pos e0]
    exact ⟨-1, -1, rfl, rfl, Or.inl ⟨rfl, rfl⟩⟩
  | succ d ih =>
    intro n n' m i hi hm hd hn hn'
    obtain ⟨n, rfl⟩ : ∃ m, n = m + 1 := ⟨n - 1, by omega⟩
    obtain ⟨n', rfl⟩ : ∃ m, n' = m + 1 := ⟨n' - 1, by omega⟩
    by_cases e : N ≤ i
    · have e0 : nI N ≤ nI i := by rw [nI_le' (by omega) (by omega)]; omega
      unfold LX8_stormStart_5 JX8_stormStart_5 LX10_storm_49 JX10_storm_49
      rw [if_pos e0, if_pos e0]
      exact ⟨-1, -1, rfl, rfl, Or.inl ⟨rfl, rfl⟩⟩
    · have e0 : ¬ nI N ≤ nI i := by rw [nI_le' (by omega) (by omega)]; omega
      have hr := run_le (g := g) (N := N) (sto := sto) N i (by omega)
      have hp0 : ¬ p < 0 := fun h9 => by have := i_lt.mp h9; rw [t_0] at this; omega
      obtain ⟨n2, j1⟩ := st63_L (k49 := LX10_storm_49 n') (s := i) (x4 := p - nI m) (p := p) (q := q) (th := th) (pts := pts) (pcs := pcs) (nr := nr) (a := a) (b := b) (c' := c') (d' := d') (R := R) (M := M) (J := J) (W := W) (Me := Me) (En := En) (Ms := Ms) (T := T) (P := P) (E := E) (fi := fi) (lg := lg) (up := up) (dn := dn) (he := he) hN h0 hg hx (N - i) n' i (by omega) (by omega) (by omega)
      rw [run_i (N - i) N i (by omega) (by omega)] at j1
      unfold LX8_stormStart_5 JX8_stormStart_5
      conv => arg 1; intro y; arg 1; intro z; arg 2; lhs; lhs; unfold LX10_storm_49 JX10_storm_49
      simp only [if_neg e0, if_neg hp0, j1, sLen_s hN (show i < N by omega) h0 (show 200 ≤ n by omega), ob1_s]
      unfold JX10_storm_84
      generalize hR : run g N sto N i = r at *
      have es : nI (i + r) - nI i = nI r := by rw [pk_sub (by omega), show i + r - i = r by omega]
      simp only [bn_s, es, nI_1, nI_add]
      rw [show i + r + 1 = i + (r + 1) by omega]
      by_cases c1 : r ≤ 1
      · have k1 : nI r < 2 := i_lt.mpr (by rw [nI_toInt (by omega)]; have : (2 : Int32).toInt = 2 := rfl; omega)
        have k2 : nI r ≤ 1 := i_le.mpr (by rw [nI_toInt (by omega), t_1]; omega)
        simp only [if_pos k1, if_pos k2]
        exact ih n n' m (i + (r + 1)) (by omega) (by omega) (by omega) (by omega) (by omega)
      · have k1 : ¬ nI r < 2 := fun h9 => by have := i_lt.mp h9; rw [nI_toInt (by omega)] at this; have e2 : (2 : Int32).toInt = 2 := rfl; omega
        have k2 : ¬ nI r ≤ 1 := fun h9 => by have := i_le.mp h9; rw [nI_toInt (by omega), t_1] at this; omega
        simp only [if_neg k1, if_neg k2]
        by_cases c2 : nI m = p
        · have c3 : p - nI m = 0 := by rw [lft_z]; exact c2
          simp only [if_pos c2, if_pos c3]
          refine ⟨nI i, if q = 0 then nI i else nI r, rfl, ?_, Or.inr ⟨i, by omega, rfl, by rw [hR]⟩⟩
          by_cases c4 : q = 0
          · rw [if_pos c4, if_pos c4]
          · rw [if_neg c4, if_neg c4]
        · have c3 : ¬ p - nI m = 0 := by rw [lft_z]; exact c2
          simp only [if_neg c2, if_neg c3, nI_1, lft_s]
          exact ih n n' (m + 1) (i + (r + 1)) (by omega) (by omega) (by omega) (by omega) (by omega)
theorem call_storm {n n' w k c : Nat} {x0 x1 x2 : TS} {R M Ms W Me Lf En Pb J F T P E fi lg f Fr To st ix I : Nat → Int32} {up dn he : Nat → Int64} {a b c' d : Int64} {nr sh so sto z p q th pts pcs : Int32} (hn : 1000 ≤ n) (hn' : 1010 ≤ n') (hnr : 0 ≤ nr.toInt) (hsto : 0 ≤ sto.toInt) (hw : 2 ≤ w) (hw2 : w ≤ 60) (hT : TrR k f Fr To) (hS : SpR c st ix) (h : IT x0 x1 x2 R M Ms W Me Lf En Pb) :
    ∃ kk r I' z' y0 y1 y2 bb th' pts' pcs' a' b' c'' d' J' F' T' P' E' fi' lg' up' dn' he', FX9_storm n nr sh so (nI w) sto st (nI c) f I z x0 x1 x2 p q = some (kk, r, I', z', y0, y1, y2) ∧ FX10_storm n' th pts pcs a b c' d nr sh so (nI w) sto (nI c) (nI k) R M J F W Me En Ms T P E fi lg up dn he ix Fr To p q = some (bb, th', pts', pcs', a', b', c'', d', J', F', T', P', E', fi', lg', up', dn', he') ∧ IT y0 y1 y2 R M Ms W Me Lf En Pb ∧ Ans2 kk r bb th' := by
  by_cases hq : (0 : Int32).toInt ≤ q.toInt ∧ q.toInt ≤ (1 : Int32).toInt
  · obtain ⟨Tm, N, g, u0, u1, u2, hTm, hNe, hN, l1, l2, ⟨s1, s2, s3⟩, l4, l5, l6⟩ := lay_s (I := I) (z := z) (sh := sh) (so := so) hn hnr hw hw2 hT hS h
    obtain ⟨pts2, pcs2, a2, b2, c2, d2, J2, F2, T2, P2, E2, fi2, lg2, up2, dn2, he2, q1, q2⟩ := l6 n' pts pcs a b c' d J F T P E fi lg up dn he hn'
    have key : ∃ y z' : Int32, FX8_stormStart n (nI N) g p sto = some y ∧ LX10_storm_49 n' 0 pts2 pcs2 a2 b2 c2 d2 nr sh so (nI w) sto (nI c) (nI k) R M J2 F2 W Me En Ms T2 P2 E2 fi2 lg2 up2 dn2 he2 ix Fr To p q (nI N) p 0 = some (z', 0, pts2, pcs2, a2, b2, c2, d2, J2, F2, T2, P2, E2, fi2, lg2, up2, dn2, he2) ∧ ((y = -1 ∧ z' = -1) ∨ ∃ s, s < N ∧ y = nI s ∧ z' = if q = 0 then nI s else nI (run g N sto N s)) := by
      unfold FX8_stormStart
      by_cases hp : p.toInt < 0
      · refine ⟨-1, -1, ss_neg hN hsto hp (N + 1) n 0 0 (by omega) (by omega) (by omega) (by omega), ?_, Or.inl ⟨rfl, rfl⟩⟩
        obtain ⟨n', rfl⟩ : ∃ m, n' = m + 1 := ⟨n' - 1, by omega⟩
        unfold LX10_storm_49 JX10_storm_49
        rw [if_pos (show p < 0 from i_lt.mpr (by rw [t_0]; exact hp))]
        simp only [ite_self]
      · obtain ⟨y, z', j1, j2, j3⟩ := ss_lk (q := q) (th := 0) (pts := pts2) (pcs := pcs2) (nr := nr) (a := a2) (b := b2) (c' := c2) (d' := d2) (R := R) (M := M) (J := J2) (W := W) (Me := Me) (En := En) (Ms := Ms) (T := T2) (P := P2) (E := E2) (fi := fi2) (lg := lg2) (up := up2) (dn := dn2) (he := he2) hN hsto (show 0 ≤ p.toInt by omega) l5 q2 (N + 1) n n' 0 0 (by omega) (by omega) (by omega) (by omega) (by omega)
        have e : p - nI 0 = p := Int32.sub_zero p
        rw [e] at j2
        exact ⟨y, z', j1, j2, j3⟩
    obtain ⟨y, z', k1, k2, k3⟩ := key
    refine ⟨0, z', g, nI N, u0, u1, u2, z', 0, pts2, pcs2, a2, b2, c2, d2, J2, F2, T2, P2, E2, fi2, lg2, up2, dn2, he2, ?_, ?_, l2, Or.inl ⟨rfl, rfl, rfl⟩⟩
    · unfold FX9_storm
      rw [wi1 hq, ifo, dm1, l1, ob5_s, k1, ob1_s, eta25 s1, eta25 s2, eta25 s3]
      rcases k3 with ⟨rfl, rfl⟩ | ⟨s, hs, rfl, rfl⟩
      · rw [if_pos rfl]
      · rw [if_neg (fun h9 => by have := i_eq.mp h9; rw [nI_toInt (by omega), m1_t] at this; omega)]
        by_cases c4 : q = 0
        · rw [if_pos c4, if_pos c4]
        · rw [if_neg c4, if_neg c4, sLen_s hN hs hsto (by omega), ob1_s]
    · have hq1 : ¬ q < 0 := fun h9 => by have := i_lt.mp h9; have := hq.1; omega
      have hq2 : q ≤ 1 := i_le.mpr hq.2
      unfold FX10_storm JX10_storm_20
      rw [if_neg hq1, if_pos hq2, bd0, ifz, q1, ob16_s, l4 n' (by omega), ob1_s, gd_t (nI_n0 (by omega) (by omega)), bn_s, pk_div (by omega) (by omega) (by omega), hNe]
      exact k2
  · refine ⟨2, 0, I, z, x0, x1, x2, 0, 1, pts, pcs, a, b, c', d, J, F, T, P, E, fi, lg, up, dn, he, ?_, ?_, h, Or.inr ⟨rfl, rfl⟩⟩
    · unfold FX9_storm
      rw [wi0 hq, ifz]
    · unfold FX10_storm JX10_storm_15 JX10_storm_20
      rw [bd1, ifo]
      by_cases c0 : q < 0
      · rw [if_pos c0]
      · rw [if_neg c0, if_neg (fun h9 => hq ⟨by have := mt i_lt.mpr c0; omega, i_le.mp h9⟩)]
