/-- how a call of both ends: the class's code, both answers, what the model has thrown -/
def Ans (c : Nat) (r b th : Int32) : Prop := c ≤ 2 ∧ th = nI c ∧ (c = 0 → r = b)
theorem Ans.ok {r b th : Int32} (h : r = b) (h2 : th = 0) : Ans 0 r b th := ⟨by omega, h2, fun _ => h⟩
theorem Ans.o1 {r b : Int32} : Ans 1 r b 1 := ⟨by omega, rfl, fun h => by omega⟩
theorem Ans.o2 {r b : Int32} : Ans 2 r b 2 := ⟨by omega, rfl, fun h => by omega⟩
theorem badrow {p q : Int32} (h : (0 ≤ p.toInt ∧ p.toInt < 2) ∧ (0 ≤ q.toInt ∧ q.toInt < 3)) : ∃ s t : Nat, s < 2 ∧ t < 3 ∧ p = nI s ∧ q = nI t := by
  obtain ⟨s, hs, e1⟩ := of_lt (x := p) (N := 2) (by omega) (by omega) (by omega)
  obtain ⟨t, ht, e2⟩ := of_lt (x := q) (N := 3) (by omega) (by omega) (by omega)
  exact ⟨s, t, hs, ht, e1, e2⟩
theorem readC2 {n s t : Nat} {x0 x1 x2 : TS} {v : Int32} (hs : s < 2) (ht : t < 3) (hv : ¬ rng v) : FX9_read n x0 x1 x2 (nI s) (nI t) v = some (2, 0, x0, x1, x2) := by
  unfold rng at hv
  unfold FX9_read
  simp only [tIn_no hs ht, if_false, within_s]
  rcases (show t = 0 ∨ t = 1 ∨ t = 2 by omega) with rfl | rfl | rfl <;>
    simp (disch := omega) only [bn_s, gd_in, if_pos, if_neg, i_lt, i_le, nI_toInt, Int32.reduceToInt, Int32.reduceSub, reduceIte, nI_clamp, nI_1, nI_add, lit_mul, lit_add, add_lit, pk_mul, pk_us, pk_un, pk_uLs, pk_uLn, nI_eqL, nI_eq, one_0, ob1_s, ob2_s, ob3_s, ob4_s, ob5_s, nI01, nI11, nI12, nI20, nI21, nI22, tI0 hs, tI1 hs, tI2 hs]
theorem call_read {n n' : Nat} {x0 x1 x2 : TS} {R M Ms W Me Lf En Pb : Nat → Int32} {p q v th : Int32} (h : IT x0 x1 x2 R M Ms W Me Lf En Pb) :
    ∃ c r y0 y1 y2 b th' R' M', FX9_read n x0 x1 x2 p q v = some (c, r, y0, y1, y2) ∧ FX10_read n' th R M p q v = some (b, th', R', M') ∧ IT y0 y1 y2 R' M' Ms W Me Lf En Pb ∧ Ans c r b th' := by
  by_cases h1 : (0 ≤ p.toInt ∧ p.toInt < 2) ∧ (0 ≤ q.toInt ∧ q.toInt < 3)
  · obtain ⟨s, t, hs, ht, rfl, rfl⟩ := badrow h1
    by_cases hv : rng v
    · obtain ⟨k, hk⟩ := (h.sel ht).rowR hs
      have hz := hk.2.1
      have hk3 := hk.1
      have hM := read_M (n := n') (th := th) (R := R) hs ht hv hk3 hk.2.2.1
      have ha := add_s (n := n) (f := rowf s (sel t x0 x1 x2)) (v := v) hk3
      rw [← hz] at ha
      by_cases hlt : k < 300
      · rw [if_pos hlt] at ha hM
        have hx := readC hs ht hv ha
        obtain ⟨g1, g2⟩ := hk.add hlt hv
        exact ⟨_, _, _, _, _, _, _, _, _, hx, hM, h.pt ht ((h.sel ht).row hs ht hz (by omega) g1 g2) g2, .ok rfl rfl⟩
      · rw [if_neg hlt] at ha hM
        have hx := readC hs ht hv ha
        have g2 : Fr R M R M (3 * s + t) := ⟨fun _ _ => rfl, fun _ _ _ _ => rfl⟩
        refine ⟨_, _, _, _, _, _, _, _, _, hx, hM, h.pt ht ?_ g2, .ok rfl rfl⟩
        rw [hz] at hk ⊢
        exact (h.sel ht).row hs ht hz (by omega) hk g2
    · exact ⟨_, _, _, _, _, _, _, _, _, readC2 hs ht hv, read_M2 hs ht hv, h, .o2⟩
  · have hT := tIn_yes (n := n) h1
    exact ⟨1, 0, x0, x1, x2, _, _, _, _, by unfold FX9_read; rw [if_pos hT], read_M1 h1, h, .o1⟩
theorem lostC {n s t : Nat} {x0 x1 x2 : TS} {v r z : Int32} (hs : s < 2) (ht : t < 3) (hv : 1 ≤ v.toInt ∧ v.toInt ≤ 300) (h : FX2_addLost n (rowz s (sel t x0 x1 x2)) v = some (r, z)) :
    FX9_lost n x0 x1 x2 (nI s) (nI t) v = some (0, r, putT 0 t (rowset s (sel t x0 x1 x2) (rowf s (sel t x0 x1 x2)) z) x0, putT 1 t (rowset s (sel t x0 x1 x2) (rowf s (sel t x0 x1 x2)) z) x1, putT 2 t (rowset s (sel t x0 x1 x2) (rowf s (sel t x0 x1 x2)) z) x2) := by
  have h1 := hv.1
  have h2 := hv.2
  unfold FX9_lost
  simp only [tIn_no hs ht, if_false, within_s]
  rcases (show t = 0 ∨ t = 1 ∨ t = 2 by omega) with rfl | rfl | rfl <;> rcases (show s = 0 ∨ s = 1 by omega) with rfl | rfl <;>
    (simp only [sel, rowz, reduceIte, Nat.reduceEqDiff] at h
     simp (disch := omega) only [bn_s, gd_in, if_pos, if_neg, i_lt, i_le, nI_toInt, Int32.reduceToInt, Int32.reduceSub, reduceIte, nI_clamp, nI_1, nI_add, lit_mul, lit_add, add_lit, pk_mul, pk_us, pk_un, pk_uLs, pk_uLn, nI_eqL, nI_eq, one_0, ob1_s, ob2_s, ob3_s, ob4_s, ob5_s, nI01, nI11, nI12, nI20, nI21, nI22, tI0 hs, tI1 hs, tI2 hs, demand_1, uns_s, h]
     rfl)
theorem lostC2 {n s t : Nat} {x0 x1 x2 : TS} {v : Int32} (hs : s < 2) (ht : t < 3) (hv : ¬ (1 ≤ v.toInt ∧ v.toInt ≤ 300)) : FX9_lost n x0 x1 x2 (nI s) (nI t) v = some (2, 0, x0, x1, x2) := by
  unfold FX9_lost
  simp only [tIn_no hs ht, if_false, within_s]
  rcases (show t = 0 ∨ t = 1 ∨ t = 2 by omega) with rfl | rfl | rfl <;>
    simp (disch := omega) only [bn_s, gd_in, if_pos, if_neg, i_lt, i_le, nI_toInt, Int32.reduceToInt, Int32.reduceSub, reduceIte, nI_clamp, nI_1, nI_add, lit_mul, lit_add, add_lit, pk_mul, pk_us, pk_un, pk_uLs, pk_uLn, nI_eqL, nI_eq, one_0, ob1_s, ob2_s, ob3_s, ob4_s, ob5_s, nI01, nI11, nI12, nI20, nI21, nI22, tI0 hs, tI1 hs, tI2 hs]
theorem call_lost {n n' : Nat} {x0 x1 x2 : TS} {R M Ms W Me Lf En Pb : Nat → Int32} {p q v th : Int32} (hn : 1000 ≤ n') (h : IT x0 x1 x2 R M Ms W Me Lf En Pb) :
    ∃ c r y0 y1 y2 b th' R' M', FX9_lost n x0 x1 x2 p q v = some (c, r, y0, y1, y2) ∧ FX10_lost n' th R M p q v = some (b, th', R', M') ∧ IT y0 y1 y2 R' M' Ms W Me Lf En Pb ∧ Ans c r b th' := by
  by_cases h1 : (0 ≤ p.toInt ∧ p.toInt < 2) ∧ (0 ≤ q.toInt ∧ q.toInt < 3)
  · obtain ⟨s, t, hs, ht, rfl, rfl⟩ := badrow h1
    by_cases hv : 1 ≤ v.toInt ∧ v.toInt ≤ 300
    · obtain ⟨m, hm, rfl⟩ := of_lt (x := v) (N := 301) (by omega) (by omega) (by omega)
      have hv' := hv
      rw [nI_toInt (by omega)] at hv'
      obtain ⟨k, hk⟩ := (h.sel ht).rowR hs
      have hz := hk.2.1
      have hk3 := hk.1
      have ha := addLost_s (n := n) (k := k) (m := m) hk3 (by omega)
      rw [← hz] at ha
      by_cases hlt : k + m ≤ 300
      · rw [if_pos hlt] at ha
        have hx := lostC hs ht hv ha
        obtain ⟨R', M', m1, m2, m3, m4⟩ := lost_M (n := n') (th := th) (R := R) (by omega) hs ht (by omega) (by omega) hk3 hk.2.2.1 hlt
        exact ⟨_, _, _, _, _, _, _, _, _, hx, m1, h.pt ht ((h.sel ht).row hs ht hz (by omega) (hk.lost hlt m3 m4) m2) m2, .ok rfl rfl⟩
      · rw [if_neg hlt] at ha
        have hx := lostC hs ht hv ha
        have hM := lost_M0 (n := n') (th := th) (R := R) (m := m) hs ht (by omega) (by omega) hk3 hk.2.2.1 (by omega)
        have g2 : Fr R M R M (3 * s + t) := ⟨fun _ _ => rfl, fun _ _ _ _ => rfl⟩
        refine ⟨_, _, _, _, _, _, _, _, _, hx, hM, h.pt ht ?_ g2, .ok rfl rfl⟩
        rw [hz] at hk ⊢
        exact (h.sel ht).row hs ht hz (by omega) hk g2
    · exact ⟨_, _, _, _, _, _, _, _, _, lostC2 hs ht hv, lost_M2 hs ht hv, h, .o2⟩
  · have hT := tIn_yes (n := n) h1
    exact ⟨1, 0, x0, x1, x2, _, _, _, _, by unfold FX9_lost; rw [if_pos hT], lost_M1 h1, h, .o1⟩
theorem atC {n s t : Nat} {x0 x1 x2 : TS} {v : Int32} (hs : s < 2) (ht : t < 3) : FX9_at n x0 x1 x2 (nI s) (nI t) v = some (0, rdv (rowf s (sel t x0 x1 x2)) v) := by
  unfold FX9_at
  simp only [tIn_no hs ht, if_false]
  rcases (show t = 0 ∨ t = 1 ∨ t = 2 by omega) with rfl | rfl | rfl <;> rcases (show s = 0 ∨ s = 1 by omega) with rfl | rfl <;>
    (simp (disch := omega) only [bn_s, gd_in, if_pos, if_neg, i_lt, i_le, nI_toInt, Int32.reduceToInt, Int32.reduceSub, reduceIte, nI_clamp, nI_1, nI_add, lit_mul, lit_add, add_lit, pk_mul, pk_us, pk_un, pk_uLs, pk_uLn, nI_eqL, nI_eq, one_0, ob1_s, ob2_s, ob3_s, ob4_s, ob5_s, nI01, nI11, nI12, nI20, nI21, nI22, tI0 hs, tI1 hs, tI2 hs, reading_C]
     rfl)
theorem call_at {n n' : Nat} {x0 x1 x2 : TS} {R M Ms W Me Lf En Pb : Nat → Int32} {p q v th : Int32} (h : IT x0 x1 x2 R M Ms W Me Lf En Pb) :
    ∃ c r b th', FX9_at n x0 x1 x2 p q v = some (c, r) ∧ FX10_at n' th R M p q v = some (b, th') ∧ Ans c r b th' := by
  by_cases h1 : (0 ≤ p.toInt ∧ p.toInt < 2) ∧ (0 ≤ q.toInt ∧ q.toInt < 3)
  · obtain ⟨s, t, hs, ht, rfl, rfl⟩ := badrow h1
    obtain ⟨k, hk⟩ := (h.sel ht).rowR hs
    exact ⟨_, _, _, _, atC hs ht, at_M hs ht hk, .ok rfl rfl⟩
  · have hT := tIn_yes (n := n) h1
    exact ⟨1, 0, _, _, by unfold FX9_at; rw [if_pos hT], at_M1 h1, .o1⟩
