theorem tSx_no {n t : Nat} (ht : t < 3) : (TX9_settled_x n (nI t) = some ()) = False := by
  unfold TX9_settled_x
  rw [trackOf_T]
  simp (disch := omega) only [bn_s, gd_in, if_pos, if_neg, i_lt, i_le, nI_toInt, Int32.reduceToInt, Int32.reduceSub, reduceIte, nI_clamp, nI_1, nI_add, lit_mul, lit_add, add_lit, pk_mul, pk_us, pk_un, pk_uLs, pk_uLn, nI_eqL, nI_eq, one_0, ob1_s, ob2_s, ob3_s, ob4_s, ob5_s]
  simp [ob1]
theorem tSx_yes {n : Nat} {q : Int32} (h : ¬ (0 ≤ q.toInt ∧ q.toInt < 3)) : TX9_settled_x n q = some () := by
  unfold TX9_settled_x
  rw [tOf_yes h]; rfl
theorem set1 {n : Nat} {nr : Int32} {x : TS} : FX9_settled_1 n nr x = FX9_settled_0 n nr x := rfl
theorem set2 {n : Nat} {nr : Int32} {x : TS} : FX9_settled_2 n nr x = FX9_settled_0 n nr x := rfl
theorem eta25 {x : TS} {k : Nat → Int32} (h : tg25 x = k) : ((tg0 x, tg1 x, tg2 x, tg3 x, tg4 x, tg5 x, tg6 x, tg7 x, tg8 x, tg9 x, tg10 x, tg11 x, tg12 x, tg13 x, tg14 x, tg15 x, tg16 x, tg17 x, tg18 x, tg19 x, tg20 x, tg21 x, tg22 x, tg23 x, tg24 x, k, tg26 x) : TS) = x := by subst h; rfl
theorem settled_all {n t : Nat} {nr : Int32} {x0 x1 x2 : TS} {R M Ms W Me Lf En Pb : Nat → Int32} (hn : 1000 ≤ n) (ht : t < 3) (hnr : 0 ≤ nr.toInt) (h : IT x0 x1 x2 R M Ms W Me Lf En Pb) :
    ∃ x', FX9_settled_0 n nr (sel t x0 x1 x2) = some x' ∧ tg25 x' = tg25 (sel t x0 x1 x2) ∧ IT (putT 0 t x' x0) (putT 1 t x' x1) (putT 2 t x' x2) R M Ms W Me Lf En Pb ∧ TI t x' R M Ms W Me Lf En Pb ∧ Gd t nr x' R M Ms W Me En := by
  obtain ⟨x', h1, h2, h3, h4, _⟩ := settled_s hn ht hnr (h.sel ht)
  exact ⟨x', h1, h4, h.pt0 ht h2, h2, h3⟩
theorem jAt_C {n : Nat} {f : Nat → Int32} {x : Int32} : FX6_joinedAt n f x = some (rdv f x) := by
  unfold FX6_joinedAt rdv
  by_cases h : 0 ≤ x.toInt ∧ x.toInt < 300
  · obtain ⟨j, hj, rfl⟩ := of_lt (x := x) (N := 300) (by omega) (by omega) (by omega)
    simp (disch := omega) only [bn_s, gd_in, if_pos, if_neg, i_lt, i_le, nI_toInt, Int32.reduceToInt, Int32.reduceSub, reduceIte, nI_clamp, nI_1, nI_add, lit_mul, lit_add, add_lit, pk_mul, pk_us, pk_un, pk_uLs, pk_uLn, nI_eqL, nI_eq, one_0, ob1_s, ob2_s, ob3_s, ob4_s, ob5_s]
    rw [show ((j : Int)).toNat = j by omega]
  · by_cases h1 : x.toInt < 0
    · simp (disch := omega) only [bn_s, gd_in, if_pos, if_neg, i_lt, i_le, nI_toInt, Int32.reduceToInt, Int32.reduceSub, reduceIte, nI_clamp, nI_1, nI_add, lit_mul, lit_add, add_lit, pk_mul, pk_us, pk_un, pk_uLs, pk_uLn, nI_eqL, nI_eq, one_0, ob1_s, ob2_s, ob3_s, ob4_s, ob5_s]
    · simp (disch := omega) only [bn_s, gd_in, if_pos, if_neg, i_lt, i_le, nI_toInt, Int32.reduceToInt, Int32.reduceSub, reduceIte, nI_clamp, nI_1, nI_add, lit_mul, lit_add, add_lit, pk_mul, pk_us, pk_un, pk_uLs, pk_uLn, nI_eqL, nI_eq, one_0, ob1_s, ob2_s, ob3_s, ob4_s, ob5_s]
theorem jAt_M {n t : Nat} {f J : Nat → Int32} {x : Int32} (ht : t < 3) (hJ : ∀ i, i < 300 → f i = J (300 * t + i)) : FX10_joinedAt n J (nI t) x = some (rdv f x) := by
  unfold FX10_joinedAt rdv
  by_cases h : 0 ≤ x.toInt ∧ x.toInt < 300
  · obtain ⟨j, hj, rfl⟩ := of_lt (x := x) (N := 300) (by omega) (by omega) (by omega)
    simp (disch := omega) only [bn_s, gd_in, if_pos, if_neg, i_lt, i_le, nI_toInt, Int32.reduceToInt, Int32.reduceSub, reduceIte, nI_clamp, nI_1, nI_add, lit_mul, lit_add, add_lit, pk_mul, pk_us, pk_un, pk_uLs, pk_uLn, nI_eqL, nI_eq, one_0, ob1_s, ob2_s, ob3_s, ob4_s, ob5_s]
    rw [show ((j : Int)).toNat = j by omega, hJ j hj]
  · by_cases h1 : x.toInt < 0
    · simp (disch := omega) only [bn_s, gd_in, if_pos, if_neg, i_lt, i_le, nI_toInt, Int32.reduceToInt, Int32.reduceSub, reduceIte, nI_clamp, nI_1, nI_add, lit_mul, lit_add, add_lit, pk_mul, pk_us, pk_un, pk_uLs, pk_uLn, nI_eqL, nI_eq, one_0, ob1_s, ob2_s, ob3_s, ob4_s, ob5_s]
    · simp (disch := omega) only [bn_s, gd_in, if_pos, if_neg, i_lt, i_le, nI_toInt, Int32.reduceToInt, Int32.reduceSub, reduceIte, nI_clamp, nI_1, nI_add, lit_mul, lit_add, add_lit, pk_mul, pk_us, pk_un, pk_uLs, pk_uLn, nI_eqL, nI_eq, one_0, ob1_s, ob2_s, ob3_s, ob4_s, ob5_s]
theorem fAt_C {n : Nat} {f : Nat → Int32} {x : Int32} : FX6_finalAt n f x = some (rdv f x) := jAt_C (n := 0)
theorem badtr {q : Int32} (h : 0 ≤ q.toInt ∧ q.toInt < 3) : ∃ t : Nat, t < 3 ∧ q = nI t := by
  obtain ⟨t, ht, e2⟩ := of_lt (x := q) (N := 3) (by omega) (by omega) (by omega)
  exact ⟨t, ht, e2⟩
theorem call_joined {n n' : Nat} {x0 x1 x2 : TS} {R M Ms W Me Lf En Pb J : Nat → Int32} {nr p v th : Int32} (hn : 1000 ≤ n) (hn' : 1000 ≤ n') (hnr : 0 ≤ nr.toInt) (h : IT x0 x1 x2 R M Ms W Me Lf En Pb) :
    ∃ c r y0 y1 y2 b th' J', FX9_joined n nr x0 x1 x2 p v = some (c, r, y0, y1, y2) ∧ FX10_joined n' th nr R M J p v = some (b, th', J') ∧ IT y0 y1 y2 R M Ms W Me Lf En Pb ∧ Ans c r b th' := by
  by_cases h1 : 0 ≤ p.toInt ∧ p.toInt < 3
  · obtain ⟨t, ht, rfl⟩ := badtr h1
    obtain ⟨x', e1, e2, e3, e4, e5⟩ := settled_all (n := n) hn ht hnr h
    obtain ⟨p, q, g, J2, fn2, T2, P2, E2, fi2, lg2, up2, dn2, he2, a2, b2, c2, d2, g1, g2, g3, g4, g5, g6, g7, g8, g9, g10, g11, g12⟩ := e5 n' 0 0 0 0 0 0 J (fun _ => 0) (fun _ => 0) (fun _ => 0) (fun _ => 0) (fun _ => 0) (fun _ => 0) (fun _ => 0) (fun _ => 0) (fun _ => 0) hn'
    refine ⟨0, rdv (tg23 x') v, _, _, _, rdv (tg23 x') v, 0, J2, ?_, ?_, e3, .ok rfl rfl⟩
    · unfold FX9_joined
      simp only [tSx_no ht, if_false, set1, set2]
      rcases (show t = 0 ∨ t = 1 ∨ t = 2 by omega) with rfl | rfl | rfl <;>
        (simp only [sel, reduceIte, Nat.reduceEqDiff] at e1 e2
         simp (disch := omega) only [bn_s, gd_in, if_pos, if_neg, i_lt, i_le, nI_toInt, Int32.reduceToInt, Int32.reduceSub, reduceIte, nI_clamp, nI_1, nI_add, lit_mul, lit_add, add_lit, pk_mul, pk_us, pk_un, pk_uLs, pk_uLn, nI_eqL, nI_eq, one_0, ob1_s, ob2_s, ob3_s, ob4_s, ob5_s, nI01, nI11, nI12, nI20, nI21, nI22, e1, jAt_C, eta25 e2]
         rfl)
    · unfold FX10_joined
      simp (disch := omega) only [bn_s, gd_in, if_pos, if_neg, i_lt, i_le, nI_toInt, Int32.reduceToInt, Int32.reduceSub, reduceIte, nI_clamp, nI_1, nI_add, lit_mul, lit_add, add_lit, pk_mul, pk_us, pk_un, pk_uLs, pk_uLn, nI_eqL, nI_eq, one_0, ob1_s, ob2_s, ob3_s, ob4_s, ob5_s, isTrace_s, bad0, g10, jAt_M ht g6]
  · refine ⟨1, 0, x0, x1, x2, 0, 1, J, by unfold FX9_joined; rw [if_pos (tSx_yes h1)], ?_, h, .o1⟩
    unfold FX10_joined
    simp (disch := omega) only [bn_s, gd_in, if_pos, if_neg, i_lt, i_le, nI_toInt, Int32.reduceToInt, Int32.reduceSub, reduceIte, nI_clamp, nI_1, nI_add, lit_mul, lit_add, add_lit, pk_mul, pk_us, pk_un, pk_uLs, pk_uLn, nI_eqL, nI_eq, one_0, ob1_s, ob2_s, ob3_s, ob4_s, ob5_s, isTrace_s, bad1]
theorem call_pieces {n n' : Nat} {x0 x1 x2 : TS} {R M Ms W Me Lf En Pb J T P E fi lg : Nat → Int32} {up dn he : Nat → Int64} {a b c d : Int64} {nr p th pts pcs : Int32} (hn : 1000 ≤ n) (hn' : 1000 ≤ n') (hnr : 0 ≤ nr.toInt) (h : IT x0 x1 x2 R M Ms W Me Lf En Pb) :
    ∃ k r y0 y1 y2 bb th' pts' pcs' a' b' c' d' J' T' P' E' fi' lg' up' dn' he', FX9_pieces n nr x0 x1 x2 p = some (k, r, y0, y1, y2) ∧ FX10_pieces n' th pts pcs a b c d nr R M J W Me En Ms T P E fi lg up dn he p = some (bb, th', pts', pcs', a', b', c', d', J', T', P', E', fi', lg', up', dn', he') ∧ IT y0 y1 y2 R M Ms W Me Lf En Pb ∧ Ans k r bb th' := by
  by_cases h1 : 0 ≤ p.toInt ∧ p.toInt < 3
  · obtain ⟨t, ht, rfl⟩ := badtr h1
    obtain ⟨x', e1, e2, e3, e4, e5⟩ := settled_all (n := n) hn ht hnr h
    obtain ⟨p, q, g, J2, fn2, T2, P2, E2, fi2, lg2, up2, dn2, he2, a2, b2, c2, d2, g1, g2, g3, g4, g5, g6, g7, g8, g9, g10, g11, g12⟩ := e5 n' pts pcs a b c d J (fun _ => 0) T P E fi lg up dn he hn'
    refine ⟨0, tg18 x', putT 0 t x' x0, putT 1 t x' x1, putT 2 t x' x2, nI q, 0, nI p, nI q, a2, b2, c2, d2, J2, T2, P2, E2, fi2, lg2, up2, dn2, he2, ?_, ?_, e3, .ok g3 rfl⟩
    rotate_left
    · unfold FX10_pieces
      simp (disch := omega) only [bn_s, gd_in, if_pos, if_neg, i_lt, i_le, nI_toInt, Int32.reduceToInt, Int32.reduceSub, reduceIte, nI_clamp, nI_1, nI_add, lit_mul, lit_add, add_lit, pk_mul, pk_us, pk_un, pk_uLs, pk_uLn, nI_eqL, nI_eq, one_0, ob1_s, ob2_s, ob3_s, ob4_s, ob5_s, isTrace_s, bad0, g11, ob15_s]
    · unfold FX9_pieces FX1_size
      simp only [tSx_no ht, if_false, set1, set2]
      rcases (show t = 0 ∨ t = 1 ∨ t = 2 by omega) with rfl | rfl | rfl <;>
        (simp only [sel, reduceIte, Nat.reduceEqDiff] at e1 e2
         simp (disch := omega) only [bn_s, gd_in, if_pos, if_neg, i_lt, i_le, nI_toInt, Int32.reduceToInt, Int32.reduceSub, reduceIte, nI_clamp, nI_1, nI_add, lit_mul, lit_add, add_lit, pk_mul, pk_us, pk_un, pk_uLs, pk_uLn, nI_eqL, nI_eq, one_0, ob1_s, ob2_s, ob3_s, ob4_s, ob5_s, nI01, nI11, nI12, nI20, nI21, nI22, e1, eta25 e2]
         rfl)
  · refine ⟨1, 0, x0, x1, x2, 0, 1, pts, pcs, a, b, c, d, J, T, P, E, fi, lg, up, dn, he, by unfold FX9_pieces; rw [if_pos (tSx_yes h1)], ?_, h, .o1⟩
    unfold FX10_pieces
    simp (disch := omega) only [bn_s, gd_in, if_pos, if_neg, i_lt, i_le, nI_toInt, Int32.reduceToInt, Int32.reduceSub, reduceIte, nI_clamp, nI_1, nI_add, lit_mul, lit_add, add_lit, pk_mul, pk_us, pk_un, pk_uLs, pk_uLn, nI_eqL, nI_eq, one_0, ob1_s, ob2_s, ob3_s, ob4_s, ob5_s, isTrace_s, bad1]
theorem call_value {n n' : Nat} {x0 x1 x2 : TS} {R M Ms W Me Lf En Pb J F T P E fi lg : Nat → Int32} {up dn he : Nat → Int64} {a b c d : Int64} {nr p v th pts pcs : Int32} (hn : 1000 ≤ n) (hn' : 1000 ≤ n') (hnr : 0 ≤ nr.toInt) (h : IT x0 x1 x2 R M Ms W Me Lf En Pb) :
    ∃ k r y0 y1 y2 bb th' pts' pcs' a' b' c' d' J' F' T' P' E' fi' lg' up' dn' he', FX9_value n nr x0 x1 x2 p v = some (k, r, y0, y1, y2) ∧ FX10_value n' th pts pcs a b c d nr R M J F W Me En Ms T P E fi lg up dn he p v = some (bb, th', pts', pcs', a', b', c', d', J', F', T', P', E', fi', lg', up', dn', he') ∧ IT y0 y1 y2 R M Ms W Me Lf En Pb ∧ Ans k r bb th' := by
  by_cases h1 : 0 ≤ p.toInt ∧ p.toInt < 3
  · obtain ⟨t, ht, rfl⟩ := badtr h1
    obtain ⟨x', e1, e2, e3, e4, e5⟩ := settled_all (n := n) hn ht hnr h
    obtain ⟨p, q, g, J2, fn2, T2, P2, E2, fi2, lg2, up2, dn2, he2, a2, b2, c2, d2, g1, g2, g3, g4, g5, g6, g7, g8, g9, g10, g11, g12⟩ := e5 n' pts pcs a b c d J F T P E fi lg up dn he hn'
    refine ⟨0, rdv (tg24 x') v, putT 0 t x' x0, putT 1 t x' x1, putT 2 t x' x2, rdv (tg24 x') v, 0, nI p, nI q, a2, b2, c2, d2, J2, fn2, T2, P2, E2, fi2, lg2, up2, dn2, he2, ?_, ?_, e3, .ok rfl rfl⟩
    rotate_left
    · unfold FX10_value JX10_value_19 rdv
      by_cases h : 0 ≤ v.toInt ∧ v.toInt < 300
      · obtain ⟨j, hj, rfl⟩ := of_lt (x := v) (N := 300) (by omega) (by omega) (by omega)
        simp (disch := omega) only [bn_s, gd_in, if_pos, if_neg, i_lt, i_le, nI_toInt, Int32.reduceToInt, Int32.reduceSub, reduceIte, nI_clamp, nI_1, nI_add, lit_mul, lit_add, add_lit, pk_mul, pk_us, pk_un, pk_uLs, pk_uLn, nI_eqL, nI_eq, one_0, ob1_s, ob2_s, ob3_s, ob4_s, ob5_s, isTrace_s, bad0, g12, ob16_s]
        rw [show ((j : Int)).toNat = j by omega, g8 j hj]
      · by_cases h1 : v.toInt < 0
        · simp (disch := omega) only [bn_s, gd_in, if_pos, if_neg, i_lt, i_le, nI_toInt, Int32.reduceToInt, Int32.reduceSub, reduceIte, nI_clamp, nI_1, nI_add, lit_mul, lit_add, add_lit, pk_mul, pk_us, pk_un, pk_uLs, pk_uLn, nI_eqL, nI_eq, one_0, ob1_s, ob2_s, ob3_s, ob4_s, ob5_s, isTrace_s, bad0, g12, ob16_s]
        · simp (disch := omega) only [bn_s, gd_in, if_pos, if_neg, i_lt, i_le, nI_toInt, Int32.reduceToInt, Int32.reduceSub, reduceIte, nI_clamp, nI_1, nI_add, lit_mul, lit_add, add_lit, pk_mul, pk_us, pk_un, pk_uLs, pk_uLn, nI_eqL, nI_eq, one_0, ob1_s, ob2_s, ob3_s, ob4_s, ob5_s, isTrace_s, bad0, g12, ob16_s]
    · unfold FX9_value
      simp only [tSx_no ht, if_false, set1, set2]
      rcases (show t = 0 ∨ t = 1 ∨ t = 2 by omega) with rfl | rfl | rfl <;>
        (simp only [sel, reduceIte, Nat.reduceEqDiff] at e1 e2
         simp (disch := omega) only [bn_s, gd_in, if_pos, if_neg, i_lt, i_le, nI_toInt, Int32.reduceToInt, Int32.reduceSub, reduceIte, nI_clamp, nI_1, nI_add, lit_mul, lit_add, add_lit, pk_mul, pk_us, pk_un, pk_uLs, pk_uLn, nI_eqL, nI_eq, one_0, ob1_s, ob2_s, ob3_s, ob4_s, ob5_s, nI01, nI11, nI12, nI20, nI21, nI22, e1, fAt_C, eta25 e2]
         rfl)
  · refine ⟨1, 0, x0, x1, x2, 0, 1, pts, pcs, a, b, c, d, J, F, T, P, E, fi, lg, up, dn, he, by unfold FX9_value; rw [if_pos (tSx_yes h1)], ?_, h, .o1⟩
    unfold FX10_value JX10_value_19
    simp (disch := omega) only [bn_s, gd_in, if_pos, if_neg, i_lt, i_le, nI_toInt, Int32.reduceToInt, Int32.reduceSub, reduceIte, nI_clamp, nI_1, nI_add, lit_mul, lit_add, add_lit, pk_mul, pk_us, pk_un, pk_uLs, pk_uLn, nI_eqL, nI_eq, one_0, ob1_s, ob2_s, ob3_s, ob4_s, ob5_s, isTrace_s, bad1]
theorem call_baseline {n n' : Nat} {x0 x1 x2 : TS} {R M Ms W Me Lf En Pb J T P E fi lg : Nat → Int32} {up dn he : Nat → Int64} {a b c d : Int64} {nr p v th pts pcs : Int32} (hn : 1000 ≤ n) (hn' : 1000 ≤ n') (hnr : 0 ≤ nr.toInt) (h : IT x0 x1 x2 R M Ms W Me Lf En Pb) :
    ∃ k r y0 y1 y2 bb th' pts' pcs' a' b' c' d' J' T' P' E' fi' lg' up' dn' he', FX9_baseline n nr x0 x1 x2 p v = some (k, r, y0, y1, y2) ∧ FX10_baseline n' th pts pcs a b c d nr R M J W Me En Ms T P E fi lg up dn he p v = some (bb, th', pts', pcs', a', b', c', d', J', T', P', E', fi', lg', up', dn', he') ∧ IT y0 y1 y2 R M Ms W Me Lf En Pb ∧ Ans k r bb th' := by
  by_cases h1 : 0 ≤ p.toInt ∧ p.toInt < 3
  · obtain ⟨t, ht, rfl⟩ := badtr h1
    obtain ⟨x', e1, e2, e3, e4, e5⟩ := settled_all (n := n) hn ht hnr h
    obtain ⟨p, q, g, J2, fn2, T2, P2, E2, fi2, lg2, up2, dn2, he2, a2, b2, c2, d2, g1, g2, g3, g4, g5, g6, g7, g8, g9, g10, g11, g12⟩ := e5 n' pts pcs a b c d J (fun _ => 0) T P E fi lg up dn he hn'
    have hp20 := g4.1
    have key : ∃ y, FX1_height n (tg18 x') (tg13 x') (tg15 x') (tg16 x') (tg17 x') v = some y ∧ JX10_baseline_19 n' 0 pts pcs a b c d nr R M J W Me En Ms T P E fi lg up dn he (nI t) v 0 = some (y, 0, nI p, nI q, a2, b2, c2, d2, J2, T2, P2, E2, fi2, lg2, up2, dn2, he2) := by
      unfold JX10_baseline_19
      rw [g3]
      by_cases hq : q = 0
      · subst hq
        refine ⟨-2000000000, ?_, ?_⟩
        · unfold FX1_height; simp (disch := omega) only [bn_s, gd_in, if_pos, if_neg, i_lt, i_le, nI_toInt, Int32.reduceToInt, Int32.reduceSub, reduceIte, nI_clamp, nI_1, nI_add, lit_mul, lit_add, add_lit, pk_mul, pk_us, pk_un, pk_uLs, pk_uLn, nI_eqL, nI_eq, one_0, ob1_s, ob2_s, ob3_s, ob4_s, ob5_s]
        · simp (disch := omega) only [bn_s, gd_in, if_pos, if_neg, i_lt, i_le, nI_toInt, Int32.reduceToInt, Int32.reduceSub, reduceIte, nI_clamp, nI_1, nI_add, lit_mul, lit_add, add_lit, pk_mul, pk_us, pk_un, pk_uLs, pk_uLn, nI_eqL, nI_eq, one_0, ob1_s, ob2_s, ob3_s, ob4_s, ob5_s, bad0, g11, ob15_s]
      · by_cases hv : 0 ≤ v.toInt ∧ v.toInt < 300
        · obtain ⟨y, y1, y2, y3⟩ := base_lk g4 g5 g1 (by omega) hv
          refine ⟨y.toInt32, y2 n (by omega), ?_⟩
          simp (disch := omega) only [bn_s, gd_in, if_pos, if_neg, i_lt, i_le, nI_toInt, Int32.reduceToInt, Int32.reduceSub, reduceIte, nI_clamp, nI_1, nI_add, lit_mul, lit_add, add_lit, pk_mul, pk_us, pk_un, pk_uLs, pk_uLn, nI_eqL, nI_eq, one_0, ob1_s, ob2_s, ob3_s, ob4_s, ob5_s, bad0, g11, ob15_s, y3 n' (by omega)]
        · refine ⟨-2000000000, ?_, ?_⟩
          · unfold FX1_height
            by_cases h1 : v.toInt < 0
            · simp (disch := omega) only [bn_s, gd_in, if_pos, if_neg, i_lt, i_le, nI_toInt, Int32.reduceToInt, Int32.reduceSub, reduceIte, nI_clamp, nI_1, nI_add, lit_mul, lit_add, add_lit, pk_mul, pk_us, pk_un, pk_uLs, pk_uLn, nI_eqL, nI_eq, one_0, ob1_s, ob2_s, ob3_s, ob4_s, ob5_s]
            · simp (disch := omega) only [bn_s, gd_in, if_pos, if_neg, i_lt, i_le, nI_toInt, Int32.reduceToInt, Int32.reduceSub, reduceIte, nI_clamp, nI_1, nI_add, lit_mul, lit_add, add_lit, pk_mul, pk_us, pk_un, pk_uLs, pk_uLn, nI_eqL, nI_eq, one_0, ob1_s, ob2_s, ob3_s, ob4_s, ob5_s]
          · by_cases h1 : v.toInt < 0
            · simp (disch := omega) only [bn_s, gd_in, if_pos, if_neg, i_lt, i_le, nI_toInt, Int32.reduceToInt, Int32.reduceSub, reduceIte, nI_clamp, nI_1, nI_add, lit_mul, lit_add, add_lit, pk_mul, pk_us, pk_un, pk_uLs, pk_uLn, nI_eqL, nI_eq, one_0, ob1_s, ob2_s, ob3_s, ob4_s, ob5_s, bad0, g11, ob15_s]
            · simp (disch := omega) only [bn_s, gd_in, if_pos, if_neg, i_lt, i_le, nI_toInt, Int32.reduceToInt, Int32.reduceSub, reduceIte, nI_clamp, nI_1, nI_add, lit_mul, lit_add, add_lit, pk_mul, pk_us, pk_un, pk_uLs, pk_uLn, nI_eqL, nI_eq, one_0, ob1_s, ob2_s, ob3_s, ob4_s, ob5_s, bad0, g11, ob15_s]
    obtain ⟨y, y1, y2⟩ := key
    refine ⟨0, y, putT 0 t x' x0, putT 1 t x' x1, putT 2 t x' x2, y, 0, nI p, nI q, a2, b2, c2, d2, J2, T2, P2, E2, fi2, lg2, up2, dn2, he2, ?_, ?_, e3, .ok rfl rfl⟩
    rotate_left
    · unfold FX10_baseline
      simp (disch := omega) only [bn_s, gd_in, if_pos, if_neg, i_lt, i_le, nI_toInt, Int32.reduceToInt, Int32.reduceSub, reduceIte, nI_clamp, nI_1, nI_add, lit_mul, lit_add, add_lit, pk_mul, pk_us, pk_un, pk_uLs, pk_uLn, nI_eqL, nI_eq, one_0, ob1_s, ob2_s, ob3_s, ob4_s, ob5_s, isTrace_s]
      exact y2
    · unfold FX9_baseline
      simp only [tSx_no ht, if_false, set1, set2]
      rcases (show t = 0 ∨ t = 1 ∨ t = 2 by omega) with rfl | rfl | rfl <;>
        (simp only [sel, reduceIte, Nat.reduceEqDiff] at e1 e2
         simp (disch := omega) only [bn_s, gd_in, if_pos, if_neg, i_lt, i_le, nI_toInt, Int32.reduceToInt, Int32.reduceSub, reduceIte, nI_clamp, nI_1, nI_add, lit_mul, lit_add, add_lit, pk_mul, pk_us, pk_un, pk_uLs, pk_uLn, nI_eqL, nI_eq, one_0, ob1_s, ob2_s, ob3_s, ob4_s, ob5_s, nI01, nI11, nI12, nI20, nI21, nI22, e1, y1, eta25 e2]
         rfl)
  · refine ⟨1, 0, x0, x1, x2, 0, 1, pts, pcs, a, b, c, d, J, T, P, E, fi, lg, up, dn, he, by unfold FX9_baseline; rw [if_pos (tSx_yes h1)], ?_, h, .o1⟩
    unfold FX10_baseline JX10_baseline_19
    simp (disch := omega) only [bn_s, gd_in, if_pos, if_neg, i_lt, i_le, nI_toInt, Int32.reduceToInt, Int32.reduceSub, reduceIte, nI_clamp, nI_1, nI_add, lit_mul, lit_add, add_lit, pk_mul, pk_us, pk_un, pk_uLs, pk_uLn, nI_eqL, nI_eq, one_0, ob1_s, ob2_s, ob3_s, ob4_s, ob5_s, isTrace_s, bad1]
