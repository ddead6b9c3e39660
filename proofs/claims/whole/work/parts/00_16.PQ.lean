theorem call_piece {n n' : Nat} {x0 x1 x2 : TS} {R M Ms W Me Lf En Pb J T P E fi lg : Nat → Int32} {up dn he : Nat → Int64} {a b c d : Int64} {nr p v w th pts pcs : Int32} (hn : 1000 ≤ n) (hn' : 1000 ≤ n') (hnr : 0 ≤ nr.toInt) (h : IT x0 x1 x2 R M Ms W Me Lf En Pb) :
    ∃ k r y0 y1 y2 bb th' pts' pcs' a' b' c' d' J' T' P' E' fi' lg' up' dn' he', FX9_piece n nr x0 x1 x2 p v w = some (k, r, y0, y1, y2) ∧ FX10_piece n' th pts pcs a b c d nr R M J W Me En Ms T P E fi lg up dn he p v w = some (bb, th', pts', pcs', a', b', c', d', J', T', P', E', fi', lg', up', dn', he') ∧ IT y0 y1 y2 R M Ms W Me Lf En Pb ∧ Ans k r bb th' := by
  by_cases h1 : 0 ≤ p.toInt ∧ p.toInt < 3
  · obtain ⟨t, ht, rfl⟩ := badtr h1
    obtain ⟨x', e1, e2, e3, e4, e5⟩ := settled_all (n := n) hn ht hnr h
    obtain ⟨p, q, g, J2, fn2, T2, P2, E2, fi2, lg2, up2, dn2, he2, a2, b2, c2, d2, g1, g2, g3, g4, g5, g6, g7, g8, g9, g10, g11, g12⟩ := e5 n' pts pcs a b c d J (fun _ => 0) T P E fi lg up dn he hn'
    have hp20 := g4.1
    by_cases hw : 0 ≤ w.toInt ∧ w.toInt ≤ 3
    · have key : ∃ y, FX1_tell n (tg18 x') (tg13 x') (tg14 x') (tg15 x') (tg16 x') v w = some y ∧ JX10_piece_41 n' 0 pts pcs a b c d nr R M J W Me En Ms T P E fi lg up dn he (nI t) v w 0 = some (y, 0, nI p, nI q, a2, b2, c2, d2, J2, T2, P2, E2, fi2, lg2, up2, dn2, he2) := by
        unfold JX10_piece_41 FX1_tell
        rw [g3]
        by_cases h1 : v.toInt < 0
        · refine ⟨-2000000000, ?_, ?_⟩
          · simp (disch := omega) only [bn_s, gd_in, if_pos, if_neg, i_lt, i_le, nI_toInt, Int32.reduceToInt, Int32.reduceSub, reduceIte, nI_clamp, nI_1, nI_add, lit_mul, lit_add, add_lit, pk_mul, pk_us, pk_un, pk_uLs, pk_uLn, nI_eqL, nI_eq, one_0, ob1_s, ob2_s, ob3_s, ob4_s, ob5_s]
          · simp (disch := omega) only [bn_s, gd_in, if_pos, if_neg, i_lt, i_le, nI_toInt, Int32.reduceToInt, Int32.reduceSub, reduceIte, nI_clamp, nI_1, nI_add, lit_mul, lit_add, add_lit, pk_mul, pk_us, pk_un, pk_uLs, pk_uLn, nI_eqL, nI_eq, one_0, ob1_s, ob2_s, ob3_s, ob4_s, ob5_s, bad0, g11, ob15_s]
        · by_cases h2 : v.toInt < q
          · obtain ⟨k, hk, rfl⟩ := of_lt (x := v) (N := 20) (by omega) (by omega) (by omega)
            rw [nI_toInt (by omega)] at h2
            obtain ⟨b1, b2', b3, b4, b5, b6, _⟩ := g5.1 k (by omega)
            obtain ⟨i, hi, rfl⟩ := of_lt (x := w) (N := 4) (by omega) (by omega) (by omega)
            rcases (show i = 0 ∨ i = 1 ∨ i = 2 ∨ i = 3 by omega) with rfl | rfl | rfl | rfl
            · refine ⟨T2 (g k), ?_, ?_⟩
              · simp (disch := omega) only [bn_s, gd_in, if_pos, if_neg, i_lt, i_le, nI_toInt, Int32.reduceToInt, Int32.reduceSub, reduceIte, nI_clamp, nI_1, nI_add, lit_mul, lit_add, add_lit, pk_mul, pk_us, pk_un, pk_uLs, pk_uLn, nI_eqL, nI_eq, one_0, ob1_s, ob2_s, ob3_s, ob4_s, ob5_s, b3]
              · simp (disch := omega) only [bn_s, gd_in, if_pos, if_neg, i_lt, i_le, nI_toInt, Int32.reduceToInt, Int32.reduceSub, reduceIte, nI_clamp, nI_1, nI_add, lit_mul, lit_add, add_lit, pk_mul, pk_us, pk_un, pk_uLs, pk_uLn, nI_eqL, nI_eq, one_0, ob1_s, ob2_s, ob3_s, ob4_s, ob5_s, bad0, g11, ob15_s, b2']
            · refine ⟨lg2 k, ?_, ?_⟩
              · simp (disch := omega) only [bn_s, gd_in, if_pos, if_neg, i_lt, i_le, nI_toInt, Int32.reduceToInt, Int32.reduceSub, reduceIte, nI_clamp, nI_1, nI_add, lit_mul, lit_add, add_lit, pk_mul, pk_us, pk_un, pk_uLs, pk_uLn, nI_eqL, nI_eq, one_0, ob1_s, ob2_s, ob3_s, ob4_s, ob5_s, b4]
              · simp (disch := omega) only [bn_s, gd_in, if_pos, if_neg, i_lt, i_le, nI_toInt, Int32.reduceToInt, Int32.reduceSub, reduceIte, nI_clamp, nI_1, nI_add, lit_mul, lit_add, add_lit, pk_mul, pk_us, pk_un, pk_uLs, pk_uLn, nI_eqL, nI_eq, one_0, ob1_s, ob2_s, ob3_s, ob4_s, ob5_s, bad0, g11, ob15_s]
            · refine ⟨(up2 k).toInt32, ?_, ?_⟩
              · simp (disch := omega) only [bn_s, gd_in, if_pos, if_neg, i_lt, i_le, nI_toInt, Int32.reduceToInt, Int32.reduceSub, reduceIte, nI_clamp, nI_1, nI_add, lit_mul, lit_add, add_lit, pk_mul, pk_us, pk_un, pk_uLs, pk_uLn, nI_eqL, nI_eq, one_0, ob1_s, ob2_s, ob3_s, ob4_s, ob5_s, b5]
              · simp (disch := omega) only [bn_s, gd_in, if_pos, if_neg, i_lt, i_le, nI_toInt, Int32.reduceToInt, Int32.reduceSub, reduceIte, nI_clamp, nI_1, nI_add, lit_mul, lit_add, add_lit, pk_mul, pk_us, pk_un, pk_uLs, pk_uLn, nI_eqL, nI_eq, one_0, ob1_s, ob2_s, ob3_s, ob4_s, ob5_s, bad0, g11, ob15_s]
            · refine ⟨(dn2 k).toInt32, ?_, ?_⟩
              · simp (disch := omega) only [bn_s, gd_in, if_pos, if_neg, i_lt, i_le, nI_toInt, Int32.reduceToInt, Int32.reduceSub, reduceIte, nI_clamp, nI_1, nI_add, lit_mul, lit_add, add_lit, pk_mul, pk_us, pk_un, pk_uLs, pk_uLn, nI_eqL, nI_eq, one_0, ob1_s, ob2_s, ob3_s, ob4_s, ob5_s, b6]
              · simp (disch := omega) only [bn_s, gd_in, if_pos, if_neg, i_lt, i_le, nI_toInt, Int32.reduceToInt, Int32.reduceSub, reduceIte, nI_clamp, nI_1, nI_add, lit_mul, lit_add, add_lit, pk_mul, pk_us, pk_un, pk_uLs, pk_uLn, nI_eqL, nI_eq, one_0, ob1_s, ob2_s, ob3_s, ob4_s, ob5_s, bad0, g11, ob15_s]
          · refine ⟨-2000000000, ?_, ?_⟩
            · simp (disch := omega) only [bn_s, gd_in, if_pos, if_neg, i_lt, i_le, nI_toInt, Int32.reduceToInt, Int32.reduceSub, reduceIte, nI_clamp, nI_1, nI_add, lit_mul, lit_add, add_lit, pk_mul, pk_us, pk_un, pk_uLs, pk_uLn, nI_eqL, nI_eq, one_0, ob1_s, ob2_s, ob3_s, ob4_s, ob5_s]
            · simp (disch := omega) only [bn_s, gd_in, if_pos, if_neg, i_lt, i_le, nI_toInt, Int32.reduceToInt, Int32.reduceSub, reduceIte, nI_clamp, nI_1, nI_add, lit_mul, lit_add, add_lit, pk_mul, pk_us, pk_un, pk_uLs, pk_uLn, nI_eqL, nI_eq, one_0, ob1_s, ob2_s, ob3_s, ob4_s, ob5_s, bad0, g11, ob15_s]
      obtain ⟨y, y1, y2⟩ := key
      refine ⟨0, y, putT 0 t x' x0, putT 1 t x' x1, putT 2 t x' x2, y, 0, nI p, nI q, a2, b2, c2, d2, J2, T2, P2, E2, fi2, lg2, up2, dn2, he2, ?_, ?_, e3, .ok rfl rfl⟩
      · unfold FX9_piece
        simp only [tSx_no ht, if_false, set1, set2, within_s]
        rcases (show t = 0 ∨ t = 1 ∨ t = 2 by omega) with rfl | rfl | rfl <;>
          (simp only [sel, reduceIte, Nat.reduceEqDiff] at e1 e2
           simp (disch := omega) only [bn_s, gd_in, if_pos, if_neg, i_lt, i_le, nI_toInt, Int32.reduceToInt, Int32.reduceSub, reduceIte, nI_clamp, nI_1, nI_add, lit_mul, lit_add, add_lit, pk_mul, pk_us, pk_un, pk_uLs, pk_uLn, nI_eqL, nI_eq, one_0, ob1_s, ob2_s, ob3_s, ob4_s, ob5_s, nI01, nI11, nI12, nI20, nI21, nI22, e1, demand_1, y1, eta25 e2]
           rfl)
      · unfold FX10_piece JX10_piece_19
        simp (disch := omega) only [bn_s, gd_in, if_pos, if_neg, i_lt, i_le, nI_toInt, Int32.reduceToInt, Int32.reduceSub, reduceIte, nI_clamp, nI_1, nI_add, lit_mul, lit_add, add_lit, pk_mul, pk_us, pk_un, pk_uLs, pk_uLn, nI_eqL, nI_eq, one_0, ob1_s, ob2_s, ob3_s, ob4_s, ob5_s, isTrace_s, bad0]
        exact y2
    · refine ⟨2, 0, putT 0 t x' x0, putT 1 t x' x1, putT 2 t x' x2, 0, 2, pts, pcs, a, b, c, d, J, T, P, E, fi, lg, up, dn, he, ?_, ?_, e3, .o2⟩
      · unfold FX9_piece
        simp only [tSx_no ht, if_false, set1, set2, within_s]
        rcases (show t = 0 ∨ t = 1 ∨ t = 2 by omega) with rfl | rfl | rfl <;>
          (simp only [sel, reduceIte, Nat.reduceEqDiff] at e1 e2
           simp (disch := omega) only [bn_s, gd_in, if_pos, if_neg, i_lt, i_le, nI_toInt, Int32.reduceToInt, Int32.reduceSub, reduceIte, nI_clamp, nI_1, nI_add, lit_mul, lit_add, add_lit, pk_mul, pk_us, pk_un, pk_uLs, pk_uLn, nI_eqL, nI_eq, one_0, ob1_s, ob2_s, ob3_s, ob4_s, ob5_s, nI01, nI11, nI12, nI20, nI21, nI22, e1, eta25 e2]
           rfl)
      · unfold FX10_piece JX10_piece_19 JX10_piece_36 JX10_piece_41
        by_cases hw1 : w.toInt < 0
        · simp (disch := omega) only [bn_s, gd_in, if_pos, if_neg, i_lt, i_le, nI_toInt, Int32.reduceToInt, Int32.reduceSub, reduceIte, nI_clamp, nI_1, nI_add, lit_mul, lit_add, add_lit, pk_mul, pk_us, pk_un, pk_uLs, pk_uLn, nI_eqL, nI_eq, one_0, ob1_s, ob2_s, ob3_s, ob4_s, ob5_s, isTrace_s, bad0, bad1]
        · simp (disch := omega) only [bn_s, gd_in, if_pos, if_neg, i_lt, i_le, nI_toInt, Int32.reduceToInt, Int32.reduceSub, reduceIte, nI_clamp, nI_1, nI_add, lit_mul, lit_add, add_lit, pk_mul, pk_us, pk_un, pk_uLs, pk_uLn, nI_eqL, nI_eq, one_0, ob1_s, ob2_s, ob3_s, ob4_s, ob5_s, isTrace_s, bad0, bad1]
  · refine ⟨1, 0, x0, x1, x2, 0, 1, pts, pcs, a, b, c, d, J, T, P, E, fi, lg, up, dn, he, by unfold FX9_piece; rw [if_pos (tSx_yes h1)], ?_, h, .o1⟩
    unfold FX10_piece JX10_piece_19
    simp (disch := omega) only [bn_s, gd_in, if_pos, if_neg, i_lt, i_le, nI_toInt, Int32.reduceToInt, Int32.reduceSub, reduceIte, nI_clamp, nI_1, nI_add, lit_mul, lit_add, add_lit, pk_mul, pk_us, pk_un, pk_uLs, pk_uLn, nI_eqL, nI_eq, one_0, ob1_s, ob2_s, ob3_s, ob4_s, ob5_s, isTrace_s, bad1]
theorem call_told {n n' : Nat} {x0 x1 x2 : TS} {R M Ms W Me Lf En Pb J : Nat → Int32} {nr p v w th : Int32} (hn : 1000 ≤ n) (hn' : 1000 ≤ n') (hnr : 0 ≤ nr.toInt) (h : IT x0 x1 x2 R M Ms W Me Lf En Pb) :
    ∃ k r y0 y1 y2 bb th' J', FX9_told n nr x0 x1 x2 p v w = some (k, r, y0, y1, y2) ∧ FX10_told n' th nr R M J W Me Lf En Ms p v w = some (bb, th', J') ∧ IT y0 y1 y2 R M Ms W Me Lf En Pb ∧ Ans k r bb th' := by
  by_cases h1 : 0 ≤ p.toInt ∧ p.toInt < 3
  · obtain ⟨t, ht, rfl⟩ := badtr h1
    obtain ⟨x', e1, e2, e3, e4, e5⟩ := settled_all (n := n) hn ht hnr h
    obtain ⟨p, q, g, J2, fn2, T2, P2, E2, fi2, lg2, up2, dn2, he2, a2, b2, c2, d2, g1, g2, g3, g4, g5, g6, g7, g8, g9, g10, g11, g12⟩ := e5 n' 0 0 0 0 0 0 J (fun _ => 0) (fun _ => 0) (fun _ => 0) (fun _ => 0) (fun _ => 0) (fun _ => 0) (fun _ => 0) (fun _ => 0) (fun _ => 0) hn'
    obtain ⟨_, _, ⟨m, hm, hz, hMs, hMe, _⟩, _⟩ := e4
    by_cases hw : 0 ≤ w.toInt ∧ w.toInt ≤ 4
    · obtain ⟨i, hi, rfl⟩ := of_lt (x := w) (N := 5) (by omega) (by omega) (by omega)
      have hi' : (nI i = 4) = (i = 4) := by
        refine propext ?_
        simp (disch := omega) only [bn_s, gd_in, if_pos, if_neg, i_lt, i_le, nI_toInt, Int32.reduceToInt, Int32.reduceSub, reduceIte, nI_clamp, nI_1, nI_add, lit_mul, lit_add, add_lit, pk_mul, pk_us, pk_un, pk_uLs, pk_uLn, nI_eqL, nI_eq, one_0, ob1_s, ob2_s, ob3_s, ob4_s, ob5_s]
      have key : ∃ y J', (if (nI i = 4) then FX6_pointOf n (tg8 x') (tg4 x') (tg5 x') (tg6 x') (tg7 x') (tg23 x') v else FX0_tell n (tg8 x') (tg4 x') (tg5 x') (tg6 x') (tg7 x') v (nI i)) = some y ∧ JX10_told_41 n' 0 nr R M J W Me Lf En Ms (nI t) v (nI i) 0 = some (y, 0, J') := by
        unfold JX10_told_41 FX6_pointOf
        rw [hz]
        by_cases h1 : v.toInt < 0 ∨ (m : Int) ≤ v.toInt
        · have e0 : ∀ u, FX0_tell n (nI m) (tg4 x') (tg5 x') (tg6 x') (tg7 x') v u = some (-2000000000) := by
            intro u
            unfold FX0_tell
            by_cases h3 : v.toInt < 0
            · simp (disch := omega) only [bn_s, gd_in, if_pos, if_neg, i_lt, i_le, nI_toInt, Int32.reduceToInt, Int32.reduceSub, reduceIte, nI_clamp, nI_1, nI_add, lit_mul, lit_add, add_lit, pk_mul, pk_us, pk_un, pk_uLs, pk_uLn, nI_eqL, nI_eq, one_0, ob1_s, ob2_s, ob3_s, ob4_s, ob5_s]
            · simp (disch := omega) only [bn_s, gd_in, if_pos, if_neg, i_lt, i_le, nI_toInt, Int32.reduceToInt, Int32.reduceSub, reduceIte, nI_clamp, nI_1, nI_add, lit_mul, lit_add, add_lit, pk_mul, pk_us, pk_un, pk_uLs, pk_uLn, nI_eqL, nI_eq, one_0, ob1_s, ob2_s, ob3_s, ob4_s, ob5_s]
          have e9 : rdv (tg23 x') (-2000000000) = -2000000000 := rfl
          refine ⟨-2000000000, J, ?_, ?_⟩
          · simp only [e0, ob1_s, jAt_C, e9, if_pos, ite_self]
          · by_cases h3 : v.toInt < 0
            · simp (disch := omega) only [bn_s, gd_in, if_pos, if_neg, i_lt, i_le, nI_toInt, Int32.reduceToInt, Int32.reduceSub, reduceIte, nI_clamp, nI_1, nI_add, lit_mul, lit_add, add_lit, pk_mul, pk_us, pk_un, pk_uLs, pk_uLn, nI_eqL, nI_eq, one_0, ob1_s, ob2_s, ob3_s, ob4_s, ob5_s, bad0]
            · simp (disch := omega) only [bn_s, gd_in, if_pos, if_neg, i_lt, i_le, nI_toInt, Int32.reduceToInt, Int32.reduceSub, reduceIte, nI_clamp, nI_1, nI_add, lit_mul, lit_add, add_lit, pk_mul, pk_us, pk_un, pk_uLs, pk_uLn, nI_eqL, nI_eq, one_0, ob1_s, ob2_s, ob3_s, ob4_s, ob5_s, bad0, hMs]
        · obtain ⟨k, hk, rfl⟩ := of_lt (x := v) (N := 20) (by omega) (by omega) (by omega)
          rw [nI_toInt (by omega)] at h1
          obtain ⟨b1, b2', b3, b4, b5, b6, b7⟩ := hMe k (by omega)
          obtain ⟨t0, t1, t2, t3⟩ := tell_s (n := n) (ti := tg4 x') (me := tg5 x') (le := tg6 x') (en := tg7 x') (show k < m by omega) hm
          rcases (show i = 0 ∨ i = 1 ∨ i = 2 ∨ i = 3 ∨ i = 4 by omega) with rfl | rfl | rfl | rfl | rfl
          · refine ⟨W (20 * t + k), J, ?_, ?_⟩
            · rw [if_neg (by decide)]; exact t0.trans (by rw [b1])
            · simp (disch := omega) only [bn_s, gd_in, if_pos, if_neg, i_lt, i_le, nI_toInt, Int32.reduceToInt, Int32.reduceSub, reduceIte, nI_clamp, nI_1, nI_add, lit_mul, lit_add, add_lit, pk_mul, pk_us, pk_un, pk_uLs, pk_uLn, nI_eqL, nI_eq, one_0, ob1_s, ob2_s, ob3_s, ob4_s, ob5_s, bad0, hMs]
          · refine ⟨Me (20 * t + k), J, ?_, ?_⟩
            · rw [if_neg (by decide)]; exact t1.trans (by rw [b2'])
            · simp (disch := omega) only [bn_s, gd_in, if_pos, if_neg, i_lt, i_le, nI_toInt, Int32.reduceToInt, Int32.reduceSub, reduceIte, nI_clamp, nI_1, nI_add, lit_mul, lit_add, add_lit, pk_mul, pk_us, pk_un, pk_uLs, pk_uLn, nI_eqL, nI_eq, one_0, ob1_s, ob2_s, ob3_s, ob4_s, ob5_s, bad0, hMs]
          · refine ⟨Lf (20 * t + k), J, ?_, ?_⟩
            · rw [if_neg (by decide)]; exact t2.trans (by rw [b3])
            · simp (disch := omega) only [bn_s, gd_in, if_pos, if_neg, i_lt, i_le, nI_toInt, Int32.reduceToInt, Int32.reduceSub, reduceIte, nI_clamp, nI_1, nI_add, lit_mul, lit_add, add_lit, pk_mul, pk_us, pk_un, pk_uLs, pk_uLn, nI_eqL, nI_eq, one_0, ob1_s, ob2_s, ob3_s, ob4_s, ob5_s, bad0, hMs]
          · refine ⟨En (20 * t + k), J, ?_, ?_⟩
            · rw [if_neg (by decide)]; exact t3.trans (by rw [b4])
            · simp (disch := omega) only [bn_s, gd_in, if_pos, if_neg, i_lt, i_le, nI_toInt, Int32.reduceToInt, Int32.reduceSub, reduceIte, nI_clamp, nI_1, nI_add, lit_mul, lit_add, add_lit, pk_mul, pk_us, pk_un, pk_uLs, pk_uLn, nI_eqL, nI_eq, one_0, ob1_s, ob2_s, ob3_s, ob4_s, ob5_s, bad0, hMs]
          · refine ⟨if rdv (tg23 x') (W (20 * t + k)) = -2000000000 then -2000000000 else Me (20 * t + k) - rdv (tg23 x') (W (20 * t + k)), J2, ?_, ?_⟩
            · rw [if_pos (by decide), t0, ob1_s, jAt_C, ob1_s, b1]
              by_cases c : rdv (tg23 x') (W (20 * t + k)) = -2000000000
              · rw [if_pos c, if_pos c]
              · rw [if_neg c, if_neg c, t1, ob1_s, b2']
            · simp (disch := omega) only [bn_s, gd_in, if_pos, if_neg, i_lt, i_le, nI_toInt, Int32.reduceToInt, Int32.reduceSub, reduceIte, nI_clamp, nI_1, nI_add, lit_mul, lit_add, add_lit, pk_mul, pk_us, pk_un, pk_uLs, pk_uLn, nI_eqL, nI_eq, one_0, ob1_s, ob2_s, ob3_s, ob4_s, ob5_s, bad0, hMs, g10, jAt_M ht g6]
              by_cases c : rdv (tg23 x') (W (20 * t + k)) = -2000000000
              · rw [if_pos c, if_pos c]
              · rw [if_neg c, if_neg c]
      obtain ⟨y, J', y1, y2⟩ := key
      refine ⟨0, y, putT 0 t x' x0, putT 1 t x' x1, putT 2 t x' x2, y, 0, J', ?_, ?_, e3, .ok rfl rfl⟩
      · unfold FX9_told
        simp only [tSx_no ht, if_false, set1, set2, within_s]
        by_cases hi4 : i = 4
        · subst hi4
          rw [if_pos (by decide)] at y1
          rcases (show t = 0 ∨ t = 1 ∨ t = 2 by omega) with rfl | rfl | rfl <;>
            (simp only [sel, reduceIte, Nat.reduceEqDiff] at e1 e2
             simp (disch := omega) only [bn_s, gd_in, if_pos, if_neg, i_lt, i_le, nI_toInt, Int32.reduceToInt, Int32.reduceSub, reduceIte, nI_clamp, nI_1, nI_add, lit_mul, lit_add, add_lit, pk_mul, pk_us, pk_un, pk_uLs, pk_uLn, nI_eqL, nI_eq, one_0, ob1_s, ob2_s, ob3_s, ob4_s, ob5_s, nI01, nI11, nI12, nI20, nI21, nI22, e1, demand_1, y1, eta25 e2]
             rfl)
        · rw [if_neg (by rw [hi']; exact hi4)] at y1
          rcases (show t = 0 ∨ t = 1 ∨ t = 2 by omega) with rfl | rfl | rfl <;>
            (simp only [sel, reduceIte, Nat.reduceEqDiff] at e1 e2
             simp (disch := omega) only [bn_s, gd_in, if_pos, if_neg, i_lt, i_le, nI_toInt, Int32.reduceToInt, Int32.reduceSub, reduceIte, nI_clamp, nI_1, nI_add, lit_mul, lit_add, add_lit, pk_mul, pk_us, pk_un, pk_uLs, pk_uLn, nI_eqL, nI_eq, one_0, ob1_s, ob2_s, ob3_s, ob4_s, ob5_s, nI01, nI11, nI12, nI20, nI21, nI22, e1, demand_1]
             rw [y1, ob1_s, eta25 e2]
             rfl)
      · unfold FX10_told JX10_told_19
        simp (disch := omega) only [bn_s, gd_in, if_pos, if_neg, i_lt, i_le, nI_toInt, Int32.reduceToInt, Int32.reduceSub, reduceIte, nI_clamp, nI_1, nI_add, lit_mul, lit_add, add_lit, pk_mul, pk_us, pk_un, pk_uLs, pk_uLn, nI_eqL, nI_eq, one_0, ob1_s, ob2_s, ob3_s, ob4_s, ob5_s, isTrace_s, bad0]
        exact y2
    · refine ⟨2, 0, putT 0 t x' x0, putT 1 t x' x1, putT 2 t x' x2, 0, 2, J, ?_, ?_, e3, .o2⟩
      · unfold FX9_told
        simp only [tSx_no ht, if_false, set1, set2, within_s]
        rcases (show t = 0 ∨ t = 1 ∨ t = 2 by omega) with rfl | rfl | rfl <;>
          (simp only [sel, reduceIte, Nat.reduceEqDiff] at e1 e2
           simp (disch := omega) only [bn_s, gd_in, if_pos, if_neg, i_lt, i_le, nI_toInt, Int32.reduceToInt, Int32.reduceSub, reduceIte, nI_clamp, nI_1, nI_add, lit_mul, lit_add, add_lit, pk_mul, pk_us, pk_un, pk_uLs, pk_uLn, nI_eqL, nI_eq, one_0, ob1_s, ob2_s, ob3_s, ob4_s, ob5_s, nI01, nI11, nI12, nI20, nI21, nI22, e1, eta25 e2]
           rfl)
      · unfold FX10_told JX10_told_19 JX10_told_36 JX10_told_41
        by_cases hw1 : w.toInt < 0
        · simp (disch := omega) only [bn_s, gd_in, if_pos, if_neg, i_lt, i_le, nI_toInt, Int32.reduceToInt, Int32.reduceSub, reduceIte, nI_clamp, nI_1, nI_add, lit_mul, lit_add, add_lit, pk_mul, pk_us, pk_un, pk_uLs, pk_uLn, nI_eqL, nI_eq, one_0, ob1_s, ob2_s, ob3_s, ob4_s, ob5_s, isTrace_s, bad0, bad1]
        · simp (disch := omega) only [bn_s, gd_in, if_pos, if_neg, i_lt, i_le, nI_toInt, Int32.reduceToInt, Int32.reduceSub, reduceIte, nI_clamp, nI_1, nI_add, lit_mul, lit_add, add_lit, pk_mul, pk_us, pk_un, pk_uLs, pk_uLn, nI_eqL, nI_eq, one_0, ob1_s, ob2_s, ob3_s, ob4_s, ob5_s, isTrace_s, bad0, bad1]
  · refine ⟨1, 0, x0, x1, x2, 0, 1, J, by unfold FX9_told; rw [if_pos (tSx_yes h1)], ?_, h, .o1⟩
    unfold FX10_told JX10_told_19
    simp (disch := omega) only [bn_s, gd_in, if_pos, if_neg, i_lt, i_le, nI_toInt, Int32.reduceToInt, Int32.reduceSub, reduceIte, nI_clamp, nI_1, nI_add, lit_mul, lit_add, add_lit, pk_mul, pk_us, pk_un, pk_uLs, pk_uLn, nI_eqL, nI_eq, one_0, ob1_s, ob2_s, ob3_s, ob4_s, ob5_s, isTrace_s, bad1]
/-- how a call ends that knows one fault alone: 2 of the class is 1 of the law -/
def Ans2 (c : Nat) (r b th : Int32) : Prop := (c = 0 ∧ th = 0 ∧ r = b) ∨ (c = 2 ∧ th = 1)
theorem call_end {n n' : Nat} {e v th : Int32} (he : 0 ≤ e.toInt ∧ e.toInt ≤ 1000) : ∃ k r e' b th', FX9_end n e v = some (k, r, e') ∧ FX10_end n' th e v = some (b, th', e') ∧ (0 ≤ e'.toInt ∧ e'.toInt ≤ 1000) ∧ Ans2 k r b th' := by
  unfold FX9_end FX10_end JX10_end_17
  simp only [within_s]
  by_cases h : 0 ≤ v.toInt ∧ v.toInt ≤ 1000
  · refine ⟨0, e, v, e, 0, ?_, ?_, h, Or.inl ⟨rfl, rfl, rfl⟩⟩
    · simp (disch := omega) only [bn_s, gd_in, if_pos, if_neg, i_lt, i_le, nI_toInt, Int32.reduceToInt, Int32.reduceSub, reduceIte, nI_clamp, nI_1, nI_add, lit_mul, lit_add, add_lit, pk_mul, pk_us, pk_un, pk_uLs, pk_uLn, nI_eqL, nI_eq, one_0, ob1_s, ob2_s, ob3_s, ob4_s, ob5_s, demand_1]
    · simp (disch := omega) only [bn_s, gd_in, if_pos, if_neg, i_lt, i_le, nI_toInt, Int32.reduceToInt, Int32.reduceSub, reduceIte, nI_clamp, nI_1, nI_add, lit_mul, lit_add, add_lit, pk_mul, pk_us, pk_un, pk_uLs, pk_uLn, nI_eqL, nI_eq, one_0, ob1_s, ob2_s, ob3_s, ob4_s, ob5_s, bad0]
  · refine ⟨2, 0, e, 0, 1, ?_, ?_, he, Or.inr ⟨rfl, rfl⟩⟩
    · simp (disch := omega) only [bn_s, gd_in, if_pos, if_neg, i_lt, i_le, nI_toInt, Int32.reduceToInt, Int32.reduceSub, reduceIte, nI_clamp, nI_1, nI_add, lit_mul, lit_add, add_lit, pk_mul, pk_us, pk_un, pk_uLs, pk_uLn, nI_eqL, nI_eq, one_0, ob1_s, ob2_s, ob3_s, ob4_s, ob5_s]
    · by_cases h2 : v.toInt < 0
      · simp (disch := omega) only [bn_s, gd_in, if_pos, if_neg, i_lt, i_le, nI_toInt, Int32.reduceToInt, Int32.reduceSub, reduceIte, nI_clamp, nI_1, nI_add, lit_mul, lit_add, add_lit, pk_mul, pk_us, pk_un, pk_uLs, pk_uLn, nI_eqL, nI_eq, one_0, ob1_s, ob2_s, ob3_s, ob4_s, ob5_s, bad1]
      · simp (disch := omega) only [bn_s, gd_in, if_pos, if_neg, i_lt, i_le, nI_toInt, Int32.reduceToInt, Int32.reduceSub, reduceIte, nI_clamp, nI_1, nI_add, lit_mul, lit_add, add_lit, pk_mul, pk_us, pk_un, pk_uLs, pk_uLn, nI_eqL, nI_eq, one_0, ob1_s, ob2_s, ob3_s, ob4_s, ob5_s, bad1]
theorem kAt_C {n : Nat} {f : Nat → Int32} {x : Int32} : FX6_keptAt n f x = some (rdv f x) := jAt_C (n := 0)
theorem call_published {n n' : Nat} {x0 x1 x2 : TS} {R M Ms W Me Lf En Pb : Nat → Int32} {p v th : Int32} (h : IT x0 x1 x2 R M Ms W Me Lf En Pb) :
    ∃ c r b th', FX9_published n x0 x1 x2 p v = some (c, r) ∧ FX10_published n' th Pb p v = some (b, th') ∧ Ans c r b th' := by
  by_cases h1 : 0 ≤ p.toInt ∧ p.toInt < 3
  · obtain ⟨t, ht, rfl⟩ := badtr h1
    have hk := (h.sel ht).2.2.2.1
    refine ⟨0, rdv (tg25 (sel t x0 x1 x2)) v, rdv (tg25 (sel t x0 x1 x2)) v, 0, ?_, ?_, .ok rfl rfl⟩
    · unfold FX9_published FX9_trackOf_0 FX9_trackOf_1 FX9_trackOf_2
      simp only [tOf_no ht, if_false]
      rcases (show t = 0 ∨ t = 1 ∨ t = 2 by omega) with rfl | rfl | rfl <;>
        (simp (disch := omega) only [bn_s, gd_in, if_pos, if_neg, i_lt, i_le, nI_toInt, Int32.reduceToInt, Int32.reduceSub, reduceIte, nI_clamp, nI_1, nI_add, lit_mul, lit_add, add_lit, pk_mul, pk_us, pk_un, pk_uLs, pk_uLn, nI_eqL, nI_eq, one_0, ob1_s, ob2_s, ob3_s, ob4_s, ob5_s, nI01, nI11, nI12, nI20, nI21, nI22, kAt_C]
         rfl)
    · unfold FX10_published JX10_published_19 rdv
      by_cases h : 0 ≤ v.toInt ∧ v.toInt < 300
      · obtain ⟨j, hj, rfl⟩ := of_lt (x := v) (N := 300) (by omega) (by omega) (by omega)
        simp (disch := omega) only [bn_s, gd_in, if_pos, if_neg, i_lt, i_le, nI_toInt, Int32.reduceToInt, Int32.reduceSub, reduceIte, nI_clamp, nI_1, nI_add, lit_mul, lit_add, add_lit, pk_mul, pk_us, pk_un, pk_uLs, pk_uLn, nI_eqL, nI_eq, one_0, ob1_s, ob2_s, ob3_s, ob4_s, ob5_s, isTrace_s, bad0]
        rw [show ((j : Int)).toNat = j by omega, hk j hj]
      · by_cases h1 : v.toInt < 0
        · simp (disch := omega) only [bn_s, gd_in, if_pos, if_neg, i_lt, i_le, nI_toInt, Int32.reduceToInt, Int32.reduceSub, reduceIte, nI_clamp, nI_1, nI_add, lit_mul, lit_add, add_lit, pk_mul, pk_us, pk_un, pk_uLs, pk_uLn, nI_eqL, nI_eq, one_0, ob1_s, ob2_s, ob3_s, ob4_s, ob5_s, isTrace_s, bad0]
        · simp (disch := omega) only [bn_s, gd_in, if_pos, if_neg, i_lt, i_le, nI_toInt, Int32.reduceToInt, Int32.reduceSub, reduceIte, nI_clamp, nI_1, nI_add, lit_mul, lit_add, add_lit, pk_mul, pk_us, pk_un, pk_uLs, pk_uLn, nI_eqL, nI_eq, one_0, ob1_s, ob2_s, ob3_s, ob4_s, ob5_s, isTrace_s, bad0]
  · refine ⟨1, 0, 0, 1, by unfold FX9_published; rw [if_pos (tOf_yes h1)], ?_, .o1⟩
    unfold FX10_published JX10_published_19
    simp (disch := omega) only [bn_s, gd_in, if_pos, if_neg, i_lt, i_le, nI_toInt, Int32.reduceToInt, Int32.reduceSub, reduceIte, nI_clamp, nI_1, nI_add, lit_mul, lit_add, add_lit, pk_mul, pk_us, pk_un, pk_uLs, pk_uLn, nI_eqL, nI_eq, one_0, ob1_s, ob2_s, ob3_s, ob4_s, ob5_s, isTrace_s, bad1]
