/-- a final value's bounds -/
def fbd (v : Int32) : Prop := v = -2000000000 ∨ v.toInt.natAbs ≤ 400030000
theorem Gd.fb {t : Nat} {nr : Int32} {x : TS} {R M Ms W Me En : Nat → Int32} (ht : t < 3) (hG : Gd t nr x R M Ms W Me En) : ∀ i, i < 300 → fbd (tg24 x i) := by
  obtain ⟨p, q, g, J2, fn2, T2, P2, E2, fi2, lg2, up2, dn2, he2, a2, b2, c2, d2, g1, g2, g3, g4, g5, g6, g7, g8, g9, g10, g11, g12⟩ := hG 1000 0 0 0 0 0 0 (fun _ => 0) (fun _ => 0) (fun _ => 0) (fun _ => 0) (fun _ => 0) (fun _ => 0) (fun _ => 0) (fun _ => 0) (fun _ => 0) (fun _ => 0) (by omega)
  have hp := g4.1
  have hex : ∀ i : Nat, ∃ y : Int64, i < 300 → 0 < q → y.toInt.natAbs ≤ 400000000 ∧ ∀ n, 40 ≤ n → FX10_base n (nI q) T2 fi2 up2 dn2 he2 (nI i) = some y := by
    intro i
    by_cases h : i < 300 ∧ 0 < q
    · obtain ⟨y, y1, y2, y3⟩ := base_lk (x := nI i) g4 g5 g1 h.2 (by rw [nI_toInt (by omega)]; omega)
      exact ⟨y, fun _ _ => ⟨y1, y3⟩⟩
    · exact ⟨0, fun h1 h2 => absurd ⟨h1, h2⟩ h⟩
  obtain ⟨Y, hY⟩ := Classical.axiomOfChoice hex
  obtain ⟨fn', r1, r2, r3⟩ := fin_M (q := q) (t := t) (pts := nI p) (nr := nr) (R := R) (M := M) (J := J2) (W := W) (Me := Me) (En := En) (Ms := Ms) (T' := T2) (P := P2) (E := E2) (fi := fi2) (lg := lg2) (up := up2) (dn := dn2) (he := he2) (a := a2) (b := b2) (c := c2) (d := d2) (Y := Y) ht (by omega) (fun i hi h0 => (hY i hi h0).2) 300 1000 (fun _ => 0) (by omega) (by omega)
  unfold FX10_finishes at g12
  rw [g11, ob15_s] at g12
  have e : fn' = fn2 := by
    have := r1.symm.trans g12
    simp only [Option.some.injEq, Prod.mk.injEq] at this
    exact this.2.2.2.2.2.2.2.1
  intro i hi
  rw [g8 i hi, ← e, r2 i hi, if_pos (by omega)]
  have hj := g7 i hi
  rw [g6 i hi] at hj
  unfold fnv fbd
  by_cases c1 : J2 (300 * t + i) = -2000000000
  · rw [if_pos c1]; exact Or.inl rfl
  · rw [if_neg c1]
    by_cases c2 : q = 0
    · rw [if_pos c2]; exact Or.inl rfl
    · rw [if_neg c2]
      have hy := (hY i hi (by omega)).1
      have hr := gl_r hj c1
      unfold rng at hr
      refine Or.inr ?_
      have e2 := i32_of64 (y := Y i) (by omega) (by omega)
      rw [add_t (by omega) (by omega)]
      omega
theorem allF {t : Nat} {nr : Int32} {x0 x1 x2 : TS} {R M Ms W Me En : Nat → Int32} (h0 : Gd 0 nr x0 R M Ms W Me En) (h1 : Gd 1 nr x1 R M Ms W Me En) (h2 : Gd 2 nr x2 R M Ms W Me En) (n' : Nat) (pts pcs : Int32) (a b c d : Int64) (J F T P E fi lg : Nat → Int32) (up dn he : Nat → Int64) (hn' : 1010 ≤ n') :
    ∃ (pts2 pcs2 : Int32) (a2 b2 c2 d2 : Int64) (J2 F2 T2 P2 E2 fi2 lg2 : Nat → Int32) (up2 dn2 he2 : Nat → Int64), FX10_allFinals n' pts pcs a b c d nr R M J F W Me En Ms T P E fi lg up dn he = some (pts2, pcs2, a2, b2, c2, d2, J2, F2, T2, P2, E2, fi2, lg2, up2, dn2, he2) ∧ ∀ t, t < 3 → ∀ i, i < 300 → tg24 (sel t x0 x1 x2) i = F2 (300 * t + i) := by
  obtain ⟨n, rfl⟩ : ∃ m, n' = m + 1 + 1 + 1 + 1 := ⟨n' - 4, by omega⟩
  obtain ⟨p, q, g, J2, fn2, T2, P2, E2, fi2, lg2, up2, dn2, he2, a2, b2, c2, d2, _, _, _, _, _, _, _, g8, g9, _, _, g12⟩ := h0 (n + 1 + 1 + 1) pts pcs a b c d J F T P E fi lg up dn he (by omega)
  obtain ⟨p3, q3, _, J3, fn3, T3, P3, E3, fi3, lg3, up3, dn3, he3, a3, b3, c3, d3, _, _, _, _, _, _, _, k8, k9, _, _, k12⟩ := h1 (n + 1 + 1) (nI p) (nI q) a2 b2 c2 d2 J2 fn2 T2 P2 E2 fi2 lg2 up2 dn2 he2 (by omega)
  obtain ⟨p4, q4, _, J4, fn4, T4, P4, E4, fi4, lg4, up4, dn4, he4, a4, b4, c4, d4, _, _, _, _, _, _, _, l8, l9, _, _, l12⟩ := h2 (n + 1) (nI p3) (nI q3) a3 b3 c3 d3 J3 fn3 T3 P3 E3 fi3 lg3 up3 dn3 he3 (by omega)
  refine ⟨nI p4, nI q4, a4, b4, c4, d4, J4, fn4, T4, P4, E4, fi4, lg4, up4, dn4, he4, ?_, ?_⟩
  · unfold FX10_allFinals
    unfold LX10_allFinals_2 JX10_allFinals_2
    rw [if_neg (by decide), show (0 : Int32) = nI 0 from rfl, g12, ob16_s, bn_s, nI_1]
    unfold LX10_allFinals_2 JX10_allFinals_2
    rw [if_neg (by decide), k12, ob16_s, bn_s, nI_1]
    unfold LX10_allFinals_2 JX10_allFinals_2
    rw [if_neg (by decide), l12, ob16_s, bn_s, nI_1]
    unfold LX10_allFinals_2 JX10_allFinals_2
    rw [if_pos (by decide)]
  · intro t ht i hi
    rcases (show t = 0 ∨ t = 1 ∨ t = 2 by omega) with rfl | rfl | rfl
    · rw [l9 0 i (by omega) hi, k9 0 i (by omega) hi]; exact g8 i hi
    · rw [l9 1 i (by omega) hi]; exact k8 i hi
    · exact l8 i hi
theorem keep_L {fn : Nat → Int32} : ∀ d n m (K : Nat → Int32), d ≤ 300 → d + 1 ≤ n → ∃ K', LX6_keepFinals_4 n fn K (nI m) (nI (300 - d)) = some (nI (m + cnt fn d), K') ∧ ∀ i, i < 300 → K' i = if 300 - d ≤ i then fn i else K i := by
  intro d
  induction d with
  | zero =>
    intro n m K _ hn
    obtain ⟨n, rfl⟩ : ∃ m, n = m + 1 := ⟨n - 1, by omega⟩
    refine ⟨K, ?_, fun i hi => by rw [if_neg (by omega)]⟩
    unfold LX6_keepFinals_4 JX6_keepFinals_4 cnt; simp (disch := omega) only [bn_s, gd_in, if_pos, if_neg, i_lt, i_le, nI_toInt, Int32.reduceToInt, Int32.reduceSub, reduceIte, nI_clamp, nI_1, nI_add, lit_mul, lit_add, add_lit, pk_mul, pk_us, pk_un, pk_uLs, pk_uLn, nI_eqL, nI_eq, one_0, ob1_s, ob2_s, ob3_s, ob4_s, ob5_s]; rfl
  | succ d ih =>
    intro n m K hd hn
    obtain ⟨n, rfl⟩ : ∃ m, n = m + 1 := ⟨n - 1, by omega⟩
    unfold LX6_keepFinals_4 JX6_keepFinals_4
    have hx0 : ¬ (300 : Int32) ≤ nI (300 - (d + 1)) := n300 (by omega)
    have fin : ∀ K' : Nat → Int32, (∀ i, i < 300 → K' i = if 300 - d ≤ i then fn i else upd K (300 - (d + 1)) (fn (300 - (d + 1))) i) → ∀ i, i < 300 → K' i = if 300 - (d + 1) ≤ i then fn i else K i := by
      intro K' h i hi
      rw [h i hi]
      by_cases e : i = 300 - (d + 1)
      · subst e; rw [if_neg (by omega), pk_us, if_pos (by omega)]
      · rw [pk_un e]
        by_cases e2 : 300 - d ≤ i
        · rw [if_pos e2, if_pos (by omega)]
        · rw [if_neg e2, if_neg (by omega)]
    rw [if_neg hx0, fAt_C, ob1_s, rdv_n (by omega), gd_in (by omega) (by omega), bn_s, nI_clamp (by omega), gd_in (by omega) (by omega), pk_us]
    by_cases c : fn (300 - (d + 1)) = -2000000000
    · obtain ⟨K', i1, i2⟩ := ih n m (upd K (300 - (d + 1)) (fn (300 - (d + 1)))) (by omega) (by omega)
      rw [show 300 - d = 300 - (d + 1) + 1 by omega] at i1
      refine ⟨K', ?_, fin K' i2⟩
      rw [if_pos c, bn_s, nI_1, show m + cnt fn (d + 1) = m + cnt fn d by conv => { lhs; unfold cnt }; rw [if_pos c]; omega]; exact i1
    · obtain ⟨K', i1, i2⟩ := ih n (m + 1) (upd K (300 - (d + 1)) (fn (300 - (d + 1)))) (by omega) (by omega)
      rw [show 300 - d = 300 - (d + 1) + 1 by omega] at i1
      refine ⟨K', ?_, fin K' i2⟩
      rw [if_neg c, bn_s, bn_s, nI_1, nI_1, show m + cnt fn (d + 1) = m + 1 + cnt fn d by conv => { lhs; unfold cnt }; rw [if_neg c]; omega]; exact i1
theorem pub_L {t : Nat} {th pts pcs nr pb : Int32} {a b c d' : Int64} {R M J F W Me En Ms T P E fi lg fn : Nat → Int32} {up dn he : Nat → Int64} (ht : t < 3) (hF : ∀ i, i < 300 → fn i = F (300 * t + i)) : ∀ d n m (K : Nat → Int32), d ≤ 300 → d ≤ n → ∃ K', LX10_publish_13 n th pts pcs a b c d' nr pb R M J F W Me En Ms T P E fi lg up dn he K (nI m) (nI (300 * t + (300 - d))) = LX10_publish_13 (n - d) th pts pcs a b c d' nr pb R M J F W Me En Ms T P E fi lg up dn he K' (nI (m + cnt fn d)) (nI (300 * t + 300)) ∧ (∀ i, i < 300 → K' (300 * t + i) = if 300 - d ≤ i then fn i else K (300 * t + i)) ∧ ∀ t' i, t' ≠ t → i < 300 → K' (300 * t' + i) = K (300 * t' + i) := by
  intro d
  induction d with
  | zero =>
    intro n m K _ hn
    exact ⟨K, rfl, fun i hi => by rw [if_neg (by omega)], fun _ _ _ _ => rfl⟩
  | succ d ih =>
    intro n m K hd hn
    obtain ⟨n, rfl⟩ : ∃ m, n = m + 1 := ⟨n - 1, by omega⟩
    have e0 := hF (300 - (d + 1)) (by omega)
    have hx0 : ¬ (900 : Int32) ≤ nI (300 * t + (300 - (d + 1))) := fun h9 => by
      have := i_le.mp h9
      rw [nI_toInt (by omega)] at this
      have e3 : (900 : Int32).toInt = 900 := rfl
      omega
    have key : ∀ m', ∃ K', LX10_publish_13 n th pts pcs a b c d' nr pb R M J F W Me En Ms T P E fi lg up dn he (upd K (300 * t + (300 - (d + 1))) (fn (300 - (d + 1)))) (nI m') (nI (300 * t + (300 - (d + 1)) + 1)) = LX10_publish_13 (n + 1 - (d + 1)) th pts pcs a b c d' nr pb R M J F W Me En Ms T P E fi lg up dn he K' (nI (m' + cnt fn d)) (nI (300 * t + 300)) ∧ (∀ i, i < 300 → K' (300 * t + i) = if 300 - (d + 1) ≤ i then fn i else K (300 * t + i)) ∧ ∀ t' i, t' ≠ t → i < 300 → K' (300 * t' + i) = K (300 * t' + i) := by
      intro m'
      obtain ⟨K', i1, i2, i3⟩ := ih n m' (upd K (300 * t + (300 - (d + 1))) (fn (300 - (d + 1)))) (by omega) (by omega)
      rw [show 300 * t + (300 - d) = 300 * t + (300 - (d + 1)) + 1 by omega] at i1
      refine ⟨K', by rw [i1, show n + 1 - (d + 1) = n - d by omega], fun i hi => ?_, fun t' i h1 h2 => by rw [i3 t' i h1 h2, pk_un (by omega)]⟩
      rw [i2 i hi]
      by_cases e : i = 300 - (d + 1)
      · subst e; rw [if_neg (by omega), pk_us, if_pos (by omega)]
      · rw [pk_un (by omega)]
        by_cases e2 : 300 - d ≤ i
        · rw [if_pos e2, if_pos (by omega)]
        · rw [if_neg e2, if_neg (by omega)]
    conv => arg 1; intro K'; lhs; lhs; unfold LX10_publish_13 JX10_publish_13
    simp only [if_neg hx0, gd_in (show 300 * t + (300 - (d + 1)) < 900 by omega) (show 900 < 2 ^ 31 by omega), bn_s, nI_clamp (show 300 * t + (300 - (d + 1)) < 2 ^ 31 by omega), ← e0, nI_1]
    by_cases c1 : fn (300 - (d + 1)) = -2000000000
    · obtain ⟨K', k1, k2⟩ := key m
      refine ⟨K', ?_, k2⟩
      rw [if_pos c1, show m + cnt fn (d + 1) = m + cnt fn d by conv => { lhs; unfold cnt }; rw [if_pos c1]; omega, ← k1, Int32.add_zero]
    · obtain ⟨K', k1, k2⟩ := key (m + 1)
      refine ⟨K', ?_, k2⟩
      rw [if_neg c1, show m + cnt fn (d + 1) = m + 1 + cnt fn d by conv => { lhs; unfold cnt }; rw [if_neg c1]; omega, ← k1]
def keepset (x : TS) (K : Nat → Int32) : TS := (tg0 x, tg1 x, tg2 x, tg3 x, tg4 x, tg5 x, tg6 x, tg7 x, tg8 x, tg9 x, tg10 x, tg11 x, tg12 x, tg13 x, tg14 x, tg15 x, tg16 x, tg17 x, tg18 x, tg19 x, tg20 x, tg21 x, tg22 x, tg23 x, tg24 x, K, tg26 x)
theorem TI.keep {t : Nat} {x : TS} {R M Ms W Me Lf En Pb Pb' K : Nat → Int32} (h : TI t x R M Ms W Me Lf En Pb) (hK : ∀ i, i < 300 → K i = Pb' (300 * t + i)) : TI t (keepset x K) R M Ms W Me Lf En Pb' := by
  obtain ⟨h0, h1, h2, _, h4, h5⟩ := h
  exact ⟨h0, h1, h2, hK, h4, h5⟩
theorem call_publish {n n' : Nat} {x0 x1 x2 : TS} {R M Ms W Me Lf En Pb J F T P E fi lg : Nat → Int32} {up dn he : Nat → Int64} {a b c d : Int64} {nr pb th pts pcs : Int32} (hn : 1000 ≤ n) (hn' : 2000 ≤ n') (hnr : 0 ≤ nr.toInt) (h : IT x0 x1 x2 R M Ms W Me Lf En Pb) :
    ∃ r y0 y1 y2 pts' pcs' a' b' c' d' J' F' T' P' E' fi' lg' up' dn' he' Pb', FX9_publish n pb nr x0 x1 x2 = some (r, pb + 1, y0, y1, y2) ∧ FX10_publish n' th pts pcs a b c d nr pb R M J F W Me En Ms T P E fi lg up dn he Pb = some (r, 0, pts', pcs', a', b', c', d', pb + 1, J', F', T', P', E', fi', lg', up', dn', he', Pb') ∧ IT y0 y1 y2 R M Ms W Me Lf En Pb' := by
  obtain ⟨u0, e1, t1, g1, _⟩ := settled_s hn (show 0 < 3 by omega) hnr h.1
  obtain ⟨u1, e2, t2, g2, _⟩ := settled_s hn (show 1 < 3 by omega) hnr h.2.1
  obtain ⟨u2, e3, t3, g3, _⟩ := settled_s hn (show 2 < 3 by omega) hnr h.2.2
  obtain ⟨pts', pcs', a', b', c', d', J', F', T', P', E', fi', lg', up', dn', he', w1, w2⟩ := allF (t := 0) g1 g2 g3 n' pts pcs a b c d J F T P E fi lg up dn he (by omega)
  obtain ⟨K0, k1, k2⟩ := keep_L (fn := tg24 u0) 300 n 0 (tg25 x0) (by omega) (by omega)
  obtain ⟨K1, l1, l2⟩ := keep_L (fn := tg24 u1) 300 n 0 (tg25 x1) (by omega) (by omega)
  obtain ⟨K2, m1, m2⟩ := keep_L (fn := tg24 u2) 300 n 0 (tg25 x2) (by omega) (by omega)
  obtain ⟨Q0, p1, p2, p3⟩ := pub_L (t := 0) (th := 0) (pts := pts') (pcs := pcs') (nr := nr) (pb := pb) (a := a') (b := b') (c := c') (d' := d') (R := R) (M := M) (J := J') (W := W) (Me := Me) (En := En) (Ms := Ms) (T := T') (P := P') (E := E') (fi := fi') (lg := lg') (up := up') (dn := dn') (he := he') (by omega) (w2 0 (by omega)) 300 n' 0 Pb (by omega) (by omega)
  obtain ⟨Q1, q1, q2, q3⟩ := pub_L (t := 1) (th := 0) (pts := pts') (pcs := pcs') (nr := nr) (pb := pb) (a := a') (b := b') (c := c') (d' := d') (R := R) (M := M) (J := J') (W := W) (Me := Me) (En := En) (Ms := Ms) (T := T') (P := P') (E := E') (fi := fi') (lg := lg') (up := up') (dn := dn') (he := he') (by omega) (w2 1 (by omega)) 300 (n' - 300) (0 + cnt (tg24 (sel 0 u0 u1 u2)) 300) Q0 (by omega) (by omega)
  obtain ⟨Q2, r1, r2, r3⟩ := pub_L (t := 2) (th := 0) (pts := pts') (pcs := pcs') (nr := nr) (pb := pb) (a := a') (b := b') (c := c') (d' := d') (R := R) (M := M) (J := J') (W := W) (Me := Me) (En := En) (Ms := Ms) (T := T') (P := P') (E := E') (fi := fi') (lg := lg') (up := up') (dn := dn') (he := he') (by omega) (w2 2 (by omega)) 300 (n' - 300 - 300) (0 + cnt (tg24 (sel 0 u0 u1 u2)) 300 + cnt (tg24 (sel 1 u0 u1 u2)) 300) Q1 (by omega) (by omega)
  refine ⟨nI (0 + cnt (tg24 u0) 300 + cnt (tg24 u1) 300 + cnt (tg24 u2) 300), keepset u0 K0, keepset u1 K1, keepset u2 K2, pts', pcs', a', b', c', d', J', F', T', P', E', fi', lg', up', dn', he', Q2, ?_, ?_, ?_⟩
  · unfold FX9_publish FX6_keepFinals
    rw [e1, ob1_s, show LX6_keepFinals_4 n (tg24 u0) (tg25 x0) 0 0 = _ from k1, ob2_s, bn_s, set1, e2, ob1_s, show LX6_keepFinals_4 n (tg24 u1) (tg25 x1) 0 0 = _ from l1, ob2_s, bn_s, set2, e3, ob1_s, show LX6_keepFinals_4 n (tg24 u2) (tg25 x2) 0 0 = _ from m1, ob2_s, bn_s, bn_s]
    rw [show (0 : Int32) = nI 0 from rfl, nI_add, nI_add, nI_add]
    simp only [Nat.zero_add]
    rfl
  · unfold FX10_publish
    rw [w1, ob16_s]
    have z : LX10_publish_13 n' 0 pts' pcs' a' b' c' d' nr pb R M J' F' W Me En Ms T' P' E' fi' lg' up' dn' he' Pb 0 0 = _ := p1.trans (q1.trans r1)
    rw [z]
    obtain ⟨k, hk⟩ : ∃ m, n' - 300 - 300 - 300 = m + 1 := ⟨n' - 901, by omega⟩
    rw [hk]
    unfold LX10_publish_13 JX10_publish_13
    rw [if_pos (by decide), bn_s]
    rfl
  · refine ⟨t1.keep (fun i hi => ?_), t2.keep (fun i hi => ?_), t3.keep (fun i hi => ?_)⟩
    · rw [r3 0 i (by omega) hi, q3 0 i (by omega) hi, p2 i hi, if_pos (by omega), k2 i hi, if_pos (by omega)]; rfl
    · rw [r3 1 i (by omega) hi, q2 i hi, if_pos (by omega), l2 i hi, if_pos (by omega)]; rfl
    · rw [r2 i hi, if_pos (by omega), m2 i hi, if_pos (by omega)]; rfl
