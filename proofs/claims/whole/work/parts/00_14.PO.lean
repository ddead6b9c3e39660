theorem shift_row {n n' r k : Nat} {p b z : Int32} {f R M : Nat → Int32} (hn : 1000 ≤ n) (hn' : 1000 ≤ n') (hr : r < 6) (h : RowR f z R M r k) (hp : 0 ≤ p.toInt) :
    ∃ (a : Int32) (f' R' : Nat → Int32), FX2_move n f p b = some (a, f') ∧ LX10_shift_55 n' 0 R M p b (nI r) 0 p = some (a, 0, R') ∧ RowR f' z R' M r k ∧ Fr R M R' M r := by
  have hk := h.1
  have hM := h.2.2.1
  obtain ⟨n1, rfl⟩ : ∃ m, n = m + 1 := ⟨n - 1, by omega⟩
  obtain ⟨n2, rfl⟩ : ∃ m, n' = m + 1 + 1 := ⟨n' - 2, by omega⟩
  by_cases h3 : 300 ≤ p.toInt
  · refine ⟨0, f, R, ?_, ?_, h, fun _ _ => rfl, fun _ _ _ _ => rfl⟩
    · unfold FX2_move FX2_canMove LX2_canMove_2 JX2_canMove_2 LX2_move_20 JX2_move_20
      simp (disch := omega) only [bn_s, gd_in, if_pos, if_neg, i_lt, i_le, nI_toInt, Int32.reduceToInt, Int32.reduceSub, reduceIte, nI_clamp, nI_1, nI_add, lit_mul, lit_add, add_lit, pk_mul, pk_us, pk_un, pk_uLs, pk_uLn, nI_eqL, nI_eq, one_0, ob1_s, ob2_s, ob3_s, ob4_s, ob5_s]
    · unfold LX10_shift_55 JX10_shift_55 LX10_shift_129 JX10_shift_129
      simp (disch := omega) only [bn_s, gd_in, if_pos, if_neg, i_lt, i_le, nI_toInt, Int32.reduceToInt, Int32.reduceSub, reduceIte, nI_clamp, nI_1, nI_add, lit_mul, lit_add, add_lit, pk_mul, pk_us, pk_un, pk_uLs, pk_uLn, nI_eqL, nI_eq, one_0, ob1_s, ob2_s, ob3_s, ob4_s, ob5_s, hM]
  · obtain ⟨j, hj, rfl⟩ := of_lt (x := p) (N := 300) (by omega) (by omega) (by omega)
    by_cases ho : ∀ i, j ≤ i → i < 300 → okE f b i
    · obtain ⟨f', a1, a2⟩ := move_L (b := b) (300 - j) (n1 + 1) 0 f (by omega) (by omega)
      obtain ⟨m1, b1, b2⟩ := chkM_A (b := b) (th := 0) (x3 := nI j) hr h (300 - j) (n2 + 1 + 1) 0 (by omega) (by omega) (fun i h1 h2 => ho i (by omega) h2)
      obtain ⟨R', c1, c2, c3⟩ := moveM_L (b := b) (th := 0) (x6 := nI (0 + cnt f (300 - j))) hr hk hM (300 - j) m1 R (by omega) (by omega)
      have d1 := canMove_A (f := f) (b := b) (300 - j) (n1 + 1) (by omega) (by omega) (fun i h1 h2 => ho i (by omega) h2)
      rw [show 300 - (300 - j) = j by omega] at a1 a2 b2 c1 c3 d1
      refine ⟨nI (0 + cnt f (300 - j)), f', R', ?_, ?_, h.move ho a2 c3, c2⟩
      · unfold FX2_move FX2_canMove
        simp (disch := omega) only [bn_s, gd_in, if_pos, if_neg, i_lt, i_le, nI_toInt, Int32.reduceToInt, Int32.reduceSub, reduceIte, nI_clamp, nI_1, nI_add, lit_mul, lit_add, add_lit, pk_mul, pk_us, pk_un, pk_uLs, pk_uLn, nI_eqL, nI_eq, one_0, ob1_s, ob2_s, ob3_s, ob4_s, ob5_s, d1]; exact a1
      · exact b2.trans c1
    · have ho2 : ∃ i, j ≤ i ∧ i < 300 ∧ ¬ okE f b i := by
        refine Classical.byContradiction (fun hc => ho (fun i h1 h2 => Classical.byContradiction (fun h9 => hc ⟨i, h1, h2, h9⟩)))
      have b2 := chkM_B (b := b) (th := 0) (x3 := nI j) hr h (300 - j) (n2 + 1 + 1) 0 (by omega) (by omega) (by rw [show 300 - (300 - j) = j by omega]; exact ho2)
      have d1 := canMove_B (f := f) (b := b) (300 - j) (n1 + 1) (by omega) (by omega) (by rw [show 300 - (300 - j) = j by omega]; exact ho2)
      rw [show 300 - (300 - j) = j by omega] at b2 d1
      refine ⟨-1, f, R, ?_, b2, h, fun _ _ => rfl, fun _ _ _ _ => rfl⟩
      unfold FX2_move FX2_canMove
      simp (disch := omega) only [bn_s, gd_in, if_pos, if_neg, i_lt, i_le, nI_toInt, Int32.reduceToInt, Int32.reduceSub, reduceIte, nI_clamp, nI_1, nI_add, lit_mul, lit_add, add_lit, pk_mul, pk_us, pk_un, pk_uLs, pk_uLn, nI_eqL, nI_eq, one_0, ob1_s, ob2_s, ob3_s, ob4_s, ob5_s, d1]
theorem shiftC {n s t : Nat} {x0 x1 x2 : TS} {p b r : Int32} {f' : Nat → Int32} (hs : s < 2) (ht : t < 3) (hp : 0 ≤ p.toInt) (hv : -60000 ≤ b.toInt ∧ b.toInt ≤ 60000) (h : FX2_move n (rowf s (sel t x0 x1 x2)) p b = some (r, f')) :
    FX9_shift n x0 x1 x2 (nI s) (nI t) p b = some (0, r, putT 0 t (rowset s (sel t x0 x1 x2) f' (rowz s (sel t x0 x1 x2))) x0, putT 1 t (rowset s (sel t x0 x1 x2) f' (rowz s (sel t x0 x1 x2))) x1, putT 2 t (rowset s (sel t x0 x1 x2) f' (rowz s (sel t x0 x1 x2))) x2) := by
  have h1 := hv.1
  have h2 := hv.2
  unfold FX9_shift
  simp only [tIn_no hs ht, if_false, within_s]
  rcases (show t = 0 ∨ t = 1 ∨ t = 2 by omega) with rfl | rfl | rfl <;> rcases (show s = 0 ∨ s = 1 by omega) with rfl | rfl <;>
    (simp only [sel, rowf, reduceIte, Nat.reduceEqDiff] at h
     simp (disch := omega) only [bn_s, gd_in, if_pos, if_neg, i_lt, i_le, nI_toInt, Int32.reduceToInt, Int32.reduceSub, reduceIte, nI_clamp, nI_1, nI_add, lit_mul, lit_add, add_lit, pk_mul, pk_us, pk_un, pk_uLs, pk_uLn, nI_eqL, nI_eq, one_0, ob1_s, ob2_s, ob3_s, ob4_s, ob5_s, nI01, nI11, nI12, nI20, nI21, nI22, tI0 hs, tI1 hs, tI2 hs, demand_1, uns_s, h]
     rfl)
theorem shiftC2 {n s t : Nat} {x0 x1 x2 : TS} {p b : Int32} (hs : s < 2) (ht : t < 3) (hv : ¬ (0 ≤ p.toInt ∧ -60000 ≤ b.toInt ∧ b.toInt ≤ 60000)) : FX9_shift n x0 x1 x2 (nI s) (nI t) p b = some (2, 0, x0, x1, x2) := by
  unfold FX9_shift
  simp only [tIn_no hs ht, if_false, within_s]
  by_cases hp : p.toInt < 0 <;> rcases (show t = 0 ∨ t = 1 ∨ t = 2 by omega) with rfl | rfl | rfl <;>
    simp (disch := omega) only [bn_s, gd_in, if_pos, if_neg, i_lt, i_le, nI_toInt, Int32.reduceToInt, Int32.reduceSub, reduceIte, nI_clamp, nI_1, nI_add, lit_mul, lit_add, add_lit, pk_mul, pk_us, pk_un, pk_uLs, pk_uLn, nI_eqL, nI_eq, one_0, ob1_s, ob2_s, ob3_s, ob4_s, ob5_s, nI01, nI11, nI12, nI20, nI21, nI22, tI0 hs, tI1 hs, tI2 hs]
theorem call_shift {n n' : Nat} {x0 x1 x2 : TS} {R M Ms W Me Lf En Pb : Nat → Int32} {p q u v th : Int32} (hn : 1000 ≤ n) (hn' : 1000 ≤ n') (h : IT x0 x1 x2 R M Ms W Me Lf En Pb) :
    ∃ c r y0 y1 y2 b th' R', FX9_shift n x0 x1 x2 p q u v = some (c, r, y0, y1, y2) ∧ FX10_shift n' th R M p q u v = some (b, th', R') ∧ IT y0 y1 y2 R' M Ms W Me Lf En Pb ∧ Ans c r b th' := by
  by_cases h1 : (0 ≤ p.toInt ∧ p.toInt < 2) ∧ (0 ≤ q.toInt ∧ q.toInt < 3)
  · obtain ⟨s, t, hs, ht, rfl, rfl⟩ := badrow h1
    by_cases hv : 0 ≤ u.toInt ∧ -60000 ≤ v.toInt ∧ v.toInt ≤ 60000
    · obtain ⟨k, hk⟩ := (h.sel ht).rowR hs
      obtain ⟨hv1, hv2, hv3⟩ := hv
      obtain ⟨a, f', R', m1, m2, m3, m4⟩ := shift_row (n := n) (n' := n') (b := v) hn hn' (show 3 * s + t < 6 by omega) hk hv1
      refine ⟨_, _, _, _, _, a, 0, R', shiftC hs ht hv1 ⟨hv2, hv3⟩ m1, ?_, h.pt ht ?_ m4, .ok rfl rfl⟩
      · unfold FX10_shift
        simp (disch := omega) only [bn_s, gd_in, if_pos, if_neg, i_lt, i_le, nI_toInt, Int32.reduceToInt, Int32.reduceSub, reduceIte, nI_clamp, nI_1, nI_add, lit_mul, lit_add, add_lit, pk_mul, pk_us, pk_un, pk_uLs, pk_uLn, nI_eqL, nI_eq, one_0, ob1_s, ob2_s, ob3_s, ob4_s, ob5_s, isRow_s, bad0, rowOf_s]
        exact m2
      · have hz := hk.2.1
        rw [hz] at m3 ⊢
        exact (h.sel ht).row hs ht hz (by omega) m3 m4
    · refine ⟨2, 0, x0, x1, x2, 0, 2, R, shiftC2 hs ht hv, ?_, h, .o2⟩
      unfold FX10_shift
      by_cases c1 : u.toInt < 0
      · simp (disch := omega) only [bn_s, gd_in, if_pos, if_neg, i_lt, i_le, nI_toInt, Int32.reduceToInt, Int32.reduceSub, reduceIte, nI_clamp, nI_1, nI_add, lit_mul, lit_add, add_lit, pk_mul, pk_us, pk_un, pk_uLs, pk_uLn, nI_eqL, nI_eq, one_0, ob1_s, ob2_s, ob3_s, ob4_s, ob5_s, isRow_s, JX10_shift_28, bad1]
      · by_cases c2 : v.toInt < -60000
        · simp (disch := omega) only [bn_s, gd_in, if_pos, if_neg, i_lt, i_le, nI_toInt, Int32.reduceToInt, Int32.reduceSub, reduceIte, nI_clamp, nI_1, nI_add, lit_mul, lit_add, add_lit, pk_mul, pk_us, pk_un, pk_uLs, pk_uLn, nI_eqL, nI_eq, one_0, ob1_s, ob2_s, ob3_s, ob4_s, ob5_s, isRow_s, JX10_shift_28, bad1]
        · simp (disch := omega) only [bn_s, gd_in, if_pos, if_neg, i_lt, i_le, nI_toInt, Int32.reduceToInt, Int32.reduceSub, reduceIte, nI_clamp, nI_1, nI_add, lit_mul, lit_add, add_lit, pk_mul, pk_us, pk_un, pk_uLs, pk_uLn, nI_eqL, nI_eq, one_0, ob1_s, ob2_s, ob3_s, ob4_s, ob5_s, isRow_s, JX10_shift_28, bad1]
  · have hT := tIn_yes (n := n) h1
    refine ⟨1, 0, x0, x1, x2, 0, 1, R, by unfold FX9_shift; rw [if_pos hT], ?_, h, .o1⟩
    unfold FX10_shift
    simp (disch := omega) only [bn_s, gd_in, if_pos, if_neg, i_lt, i_le, nI_toInt, Int32.reduceToInt, Int32.reduceSub, reduceIte, nI_clamp, nI_1, nI_add, lit_mul, lit_add, add_lit, pk_mul, pk_us, pk_un, pk_uLs, pk_uLn, nI_eqL, nI_eq, one_0, ob1_s, ob2_s, ob3_s, ob4_s, ob5_s, isRow_s]
/-- a leap, told by both -/
def stp (f : Nat → Int32) (x : Int32) : Int32 := if rdv f x = -2000000000 then -1 else if rdv f (x - 1) = -2000000000 then -1 else if 0 ≤ (rdv f x - rdv f (x - 1)) then (rdv f x - rdv f (x - 1)) else 0 - (rdv f x - rdv f (x - 1))
theorem step_C {n : Nat} {f : Nat → Int32} {x : Int32} : FX2_step n f x = some (stp f x) := by
  unfold FX2_step stp
  rw [reading_C, ob1_s, reading_C, ob1_s]
  by_cases c : rdv f x = -2000000000
  · rw [if_pos c, if_pos c]
  · rw [if_neg c, if_neg c]
    by_cases c2 : rdv f (x - 1) = -2000000000
    · rw [if_pos c2, if_pos c2]
    · rw [if_neg c2, if_neg c2]
theorem leap_M {n s t k : Nat} {f : Nat → Int32} {sz x : Int32} {R M : Nat → Int32} (hs : s < 2) (ht : t < 3) (h : RowR f sz R M (3 * s + t) k) : FX10_leap n R M (nI s) (nI t) x = some (stp f x) := by
  unfold FX10_leap stp
  rw [reading_M hs ht h, ob1_s, reading_M hs ht h, ob1_s]
  have r1 := rdv_r (x := x) h
  have r2 := rdv_r (x := x - 1) h
  generalize rdv f x = a at *
  generalize rdv f (x - 1) = b at *
  by_cases c : a = -2000000000
  · by_cases c2 : b = -2000000000
    · rw [if_pos c2, if_pos c]
    · rw [if_neg c2, if_pos c, if_pos c]
  · by_cases c2 : b = -2000000000
    · rw [if_pos c2, if_neg c, if_pos c2]
    · rw [if_neg c2, if_neg c, if_neg c, if_neg c2]
      have ra := r1.resolve_left c
      have rb := r2.resolve_left c2
      obtain ⟨y, hy, hy2⟩ := apart_s (n := n) rb ra
      rw [hy, ob1_s]
      congr 1
      refine i_eq.mpr ?_
      rw [hy2, abs_t ra rb]
      omega
theorem stp_n {f : Nat → Int32} {x : Int32} (h : ∀ x, rdv f x = -2000000000 ∨ rng (rdv f x)) : stp f x = -1 ∨ 0 ≤ (stp f x).toInt := by
  unfold stp
  by_cases c : rdv f x = -2000000000
  · rw [if_pos c]; exact Or.inl rfl
  · rw [if_neg c]
    by_cases c2 : rdv f (x - 1) = -2000000000
    · rw [if_pos c2]; exact Or.inl rfl
    · rw [if_neg c2, abs_t ((h x).resolve_left c) ((h (x - 1)).resolve_left c2)]
      exact Or.inr (by omega)
theorem m1_t : (-1 : Int32).toInt = -1 := by decide
theorem jump_neg {n : Nat} {f0 f1 : Nat → Int32} {p l : Int32} (hp : p.toInt < 0) : ∀ d m, d ≤ 299 → m ≤ 299 - d → d + 1 ≤ n → LX6_jumpTime_100022 n f0 f1 p l (nI m) (nI (300 - d)) = some (-1) ∧ LX6_jumpTime_200022 n f0 f1 p l (nI m) (nI (300 - d)) = some (-1) := by
  intro d
  induction d generalizing n with
  | zero =>
    intro m _ _ hn
    obtain ⟨n, rfl⟩ : ∃ m, n = m + 1 := ⟨n - 1, by omega⟩
    unfold LX6_jumpTime_100022 JX6_jumpTime_100022 LX6_jumpTime_200022 JX6_jumpTime_200022
    constructor <;> simp (disch := omega) only [bn_s, gd_in, if_pos, if_neg, i_lt, i_le, nI_toInt, Int32.reduceToInt, Int32.reduceSub, reduceIte, nI_clamp, nI_1, nI_add, lit_mul, lit_add, add_lit, pk_mul, pk_us, pk_un, pk_uLs, pk_uLn, nI_eqL, nI_eq, one_0, ob1_s, ob2_s, ob3_s, ob4_s, ob5_s]
  | succ d ih =>
    intro m hd hm hn
    obtain ⟨n, rfl⟩ : ∃ m, n = m + 1 := ⟨n - 1, by omega⟩
    have i1 := ih (n := n) m (by omega) (by omega) (by omega)
    have i2 := ih (n := n) (m + 1) (by omega) (by omega) (by omega)
    rw [show 300 - d = 300 - (d + 1) + 1 by omega] at i1 i2
    have hne : ¬ nI m = p := fun h => by have := i_eq.mp h; rw [nI_toInt (by omega)] at this; omega
    unfold LX6_jumpTime_100022 JX6_jumpTime_100022 LX6_jumpTime_200022 JX6_jumpTime_200022
    constructor
    · simp (disch := omega) only [bn_s, gd_in, if_pos, if_neg, i_lt, i_le, nI_toInt, Int32.reduceToInt, Int32.reduceSub, reduceIte, nI_clamp, nI_1, nI_add, lit_mul, lit_add, add_lit, pk_mul, pk_us, pk_un, pk_uLs, pk_uLn, nI_eqL, nI_eq, one_0, ob1_s, ob2_s, ob3_s, ob4_s, ob5_s, step_C, if_neg hne]
      rw [i1.1, i2.1]; simp only [ite_self]
    · simp (disch := omega) only [bn_s, gd_in, if_pos, if_neg, i_lt, i_le, nI_toInt, Int32.reduceToInt, Int32.reduceSub, reduceIte, nI_clamp, nI_1, nI_add, lit_mul, lit_add, add_lit, pk_mul, pk_us, pk_un, pk_uLs, pk_uLn, nI_eqL, nI_eq, one_0, ob1_s, ob2_s, ob3_s, ob4_s, ob5_s, step_C, if_neg hne]
      rw [i1.2, i2.2]; simp only [ite_self]
theorem lft_z {m : Nat} {p : Int32} : (p - nI m = 0) = (nI m = p) := by
  refine propext ⟨fun h => ?_, fun h => by rw [h]; exact Int32.sub_self p⟩
  have := congrArg (· + nI m) h
  simp only [Int32.sub_add_cancel, Int32.zero_add] at this
  exact this.symm
theorem lft_s {m : Nat} {p : Int32} : p - nI m + -1 = p - nI (m + 1) := by
  rw [show nI (m + 1) = nI m + 1 from (nI_add m 1).symm]
  rw [Int32.sub_eq_add_neg, Int32.sub_eq_add_neg, Int32.neg_add, Int32.sub_eq_add_neg, Int32.add_assoc]
theorem jump_lk {n n' t k0 k1 : Nat} {p l th z0 z1 : Int32} {f0 f1 R M : Nat → Int32} (ht : t < 3) (h0 : RowR f0 z0 R M (3 * 0 + t) k0) (h1 : RowR f1 z1 R M (3 * 1 + t) k1) (hp : 0 ≤ p.toInt) : ∀ d m, d ≤ 299 → m ≤ 299 - d → d + 1 ≤ n → d + 1 ≤ n' →
    ∃ y0 y1, LX6_jumpTime_100022 n f0 f1 p l (nI m) (nI (300 - d)) = some y0 ∧ LX10_jump_17 n' th l R M 0 (nI t) p (p - nI m) (nI (300 - d)) = some (y0, th) ∧
      LX6_jumpTime_200022 n f0 f1 p l (nI m) (nI (300 - d)) = some y1 ∧ LX10_jump_17 n' th l R M 1 (nI t) p (p - nI m) (nI (300 - d)) = some (y1, th) := by
  intro d
  induction d generalizing n n' with
  | zero =>
    intro m _ _ hn hn'
    obtain ⟨n, rfl⟩ : ∃ m, n = m + 1 := ⟨n - 1, by omega⟩
    obtain ⟨n', rfl⟩ : ∃ m, n' = m + 1 := ⟨n' - 1, by omega⟩
    unfold LX6_jumpTime_100022 JX6_jumpTime_100022 LX6_jumpTime_200022 JX6_jumpTime_200022 LX10_jump_17 JX10_jump_17
    refine ⟨-1, -1, ?_, ?_, ?_, ?_⟩ <;> simp (disch := omega) only [bn_s, gd_in, if_pos, if_neg, i_lt, i_le, nI_toInt, Int32.reduceToInt, Int32.reduceSub, reduceIte, nI_clamp, nI_1, nI_add, lit_mul, lit_add, add_lit, pk_mul, pk_us, pk_un, pk_uLs, pk_uLn, nI_eqL, nI_eq, one_0, ob1_s, ob2_s, ob3_s, ob4_s, ob5_s]
  | succ d ih =>
    intro m hd hm hn hn'
    obtain ⟨n, rfl⟩ : ∃ m, n = m + 1 := ⟨n - 1, by omega⟩
    obtain ⟨n', rfl⟩ : ∃ m, n' = m + 1 := ⟨n' - 1, by omega⟩
    obtain ⟨a0, a1, i1, i2, i3, i4⟩ := ih (n := n) (n' := n') m (by omega) (by omega) (by omega) (by omega)
    obtain ⟨b0, b1, j1, j2, j3, j4⟩ := ih (n := n) (n' := n') (m + 1) (by omega) (by omega) (by omega) (by omega)
    rw [show 300 - d = 300 - (d + 1) + 1 by omega] at i1 i2 i3 i4 j1 j2 j3 j4
    have s0 := stp_n (x := nI (300 - (d + 1))) (fun x => rdv_r (x := x) h0)
    have s1 := stp_n (x := nI (300 - (d + 1))) (fun x => rdv_r (x := x) h1)
    have q0 := leap_M (n := n') (x := nI (300 - (d + 1))) (by omega : 0 < 2) ht h0
    have q1 := leap_M (n := n') (x := nI (300 - (d + 1))) (by omega : 1 < 2) ht h1
    have q0 : FX10_leap n' R M 0 (nI t) (nI (300 - (d + 1))) = _ := q0
    have q1 : FX10_leap n' R M 1 (nI t) (nI (300 - (d + 1))) = _ := q1
    have e10 : (1 - 0 : Int32) = 1 := by decide
    have e11 : (1 - 1 : Int32) = 0 := by decide
    unfold LX6_jumpTime_100022 JX6_jumpTime_100022 LX6_jumpTime_200022 JX6_jumpTime_200022 LX10_jump_17 JX10_jump_17
    simp (disch := omega) only [bn_s, gd_in, if_pos, if_neg, i_lt, i_le, nI_toInt, Int32.reduceToInt, Int32.reduceSub, reduceIte, nI_clamp, nI_1, nI_add, lit_mul, lit_add, add_lit, pk_mul, pk_us, pk_un, pk_uLs, pk_uLn, nI_eqL, nI_eq, one_0, ob1_s, ob2_s, ob3_s, ob4_s, ob5_s, step_C, e10, e11, q0, q1, lft_z, lft_s, i1, i2, i3, i4, j1, j2, j3, j4]
    generalize stp f0 (nI (300 - (d + 1))) = v0 at *
    generalize stp f1 (nI (300 - (d + 1))) = v1 at *
    have w0 : v0 = -1 ↔ v0.toInt < 0 := ⟨fun h => by rw [h]; decide, fun h => s0.resolve_right (by omega)⟩
    have w1 : v1 = -1 ↔ v1.toInt < 0 := ⟨fun h => by rw [h]; decide, fun h => s1.resolve_right (by omega)⟩
    refine ⟨if v0.toInt ≤ l.toInt then a0 else if v1 = -1 then a0 else if l.toInt < v1.toInt then a0 else if nI m = p then nI (300 - (d + 1)) else b0, if v1.toInt ≤ l.toInt then a1 else if v0 = -1 then a1 else if l.toInt < v0.toInt then a1 else if nI m = p then nI (300 - (d + 1)) else b1, ?_, ?_, ?_, ?_⟩
    · simp only [apply_ite some]
    · simp only [w1]
      by_cases c1 : v0.toInt ≤ l.toInt
      · simp only [if_pos c1]
      · simp only [if_neg c1]
        by_cases c2 : v1.toInt < 0
        · simp only [if_pos c2]
        · simp only [if_neg c2]
          by_cases c3 : l.toInt < v1.toInt
          · simp only [if_pos c3, if_neg (show ¬ v1.toInt ≤ l.toInt by omega)]
          · simp only [if_neg c3, if_pos (show v1.toInt ≤ l.toInt by omega)]
            by_cases c4 : nI m = p
            · simp only [if_pos c4]
            · simp only [if_neg c4]
    · simp only [apply_ite some]
    · simp only [w0]
      by_cases c1 : v1.toInt ≤ l.toInt
      · simp only [if_pos c1]
      · simp only [if_neg c1]
        by_cases c2 : v0.toInt < 0
        · simp only [if_pos c2]
        · simp only [if_neg c2]
          by_cases c3 : l.toInt < v0.toInt
          · simp only [if_pos c3, if_neg (show ¬ v0.toInt ≤ l.toInt by omega)]
          · simp only [if_neg c3, if_pos (show v0.toInt ≤ l.toInt by omega)]
            by_cases c4 : nI m = p
            · simp only [if_pos c4]
            · simp only [if_neg c4]
theorem jumpC {n s t : Nat} {l p r : Int32} {x0 x1 x2 : TS} (hs : s < 2) (ht : t < 3) (h : FX6_jumpTime n (rowf 0 (sel t x0 x1 x2)) (rowf 1 (sel t x0 x1 x2)) (nI s) p l = some r) : FX9_jump n l x0 x1 x2 (nI s) (nI t) p = some (0, r) := by
  unfold FX9_jump
  simp only [tIn_no hs ht, if_false]
  rcases (show t = 0 ∨ t = 1 ∨ t = 2 by omega) with rfl | rfl | rfl <;>
    (simp only [sel, rowf, reduceIte, Nat.reduceEqDiff] at h
     simp (disch := omega) only [bn_s, gd_in, if_pos, if_neg, i_lt, i_le, nI_toInt, Int32.reduceToInt, Int32.reduceSub, reduceIte, nI_clamp, nI_1, nI_add, lit_mul, lit_add, add_lit, pk_mul, pk_us, pk_un, pk_uLs, pk_uLn, nI_eqL, nI_eq, one_0, ob1_s, ob2_s, ob3_s, ob4_s, ob5_s, nI01, nI11, nI12, nI20, nI21, nI22, tI0 hs, tI1 hs, tI2 hs, h])
theorem call_jump {n n' : Nat} {x0 x1 x2 : TS} {R M Ms W Me Lf En Pb : Nat → Int32} {l p q v th : Int32} (hn : 1000 ≤ n) (hn' : 1000 ≤ n') (h : IT x0 x1 x2 R M Ms W Me Lf En Pb) :
    ∃ c r b th', FX9_jump n l x0 x1 x2 p q v = some (c, r) ∧ FX10_jump n' th l R M p q v = some (b, th') ∧ Ans c r b th' := by
  by_cases h1 : (0 ≤ p.toInt ∧ p.toInt < 2) ∧ (0 ≤ q.toInt ∧ q.toInt < 3)
  · obtain ⟨s, t, hs, ht, rfl, rfl⟩ := badrow h1
    obtain ⟨k0, h0⟩ := (h.sel ht).rowR (s := 0) (by omega)
    obtain ⟨k1, h1'⟩ := (h.sel ht).rowR (s := 1) (by omega)
    have key : ∃ y, FX6_jumpTime n (rowf 0 (sel t x0 x1 x2)) (rowf 1 (sel t x0 x1 x2)) (nI s) v l = some y ∧ LX10_jump_17 n' 0 l R M (nI s) (nI t) v v 1 = some (y, 0) := by
      by_cases hv : v.toInt < 0
      · have j := jump_neg (n := n) (f0 := rowf 0 (sel t x0 x1 x2)) (f1 := rowf 1 (sel t x0 x1 x2)) (l := l) hv 299 0 (by omega) (by omega) (by omega)
        refine ⟨-1, ?_, ?_⟩
        · unfold FX6_jumpTime
          rcases (show s = 0 ∨ s = 1 by omega) with rfl | rfl
          · rw [if_pos (show nI 0 = 0 from rfl), if_neg (by decide)]; exact j.1
          · rw [if_neg (by decide), if_pos (by decide)]; exact j.2
        · obtain ⟨n', rfl⟩ : ∃ m, n' = m + 1 := ⟨n' - 1, by omega⟩
          unfold LX10_jump_17 JX10_jump_17
          simp (disch := omega) only [bn_s, gd_in, if_pos, if_neg, i_lt, i_le, nI_toInt, Int32.reduceToInt, Int32.reduceSub, reduceIte, nI_clamp, nI_1, nI_add, lit_mul, lit_add, add_lit, pk_mul, pk_us, pk_un, pk_uLs, pk_uLn, nI_eqL, nI_eq, one_0, ob1_s, ob2_s, ob3_s, ob4_s, ob5_s]
      · obtain ⟨y0, y1, j1, j2, j3, j4⟩ := jump_lk (n := n) (n' := n') (p := v) (l := l) (th := 0) ht h0 h1' (by omega) 299 0 (by omega) (by omega) (by omega) (by omega)
        have e : v - nI 0 = v := Int32.sub_zero v
        rw [e] at j2 j4
        unfold FX6_jumpTime
        rcases (show s = 0 ∨ s = 1 by omega) with rfl | rfl
        · refine ⟨y0, ?_, j2⟩
          rw [if_pos (show nI 0 = 0 from rfl), if_neg (by decide)]; exact j1
        · refine ⟨y1, ?_, j4⟩
          rw [if_neg (by decide), if_pos (by decide)]; exact j3
    obtain ⟨y, y1, y2⟩ := key
    refine ⟨0, y, y, 0, jumpC hs ht y1, ?_, .ok rfl rfl⟩
    unfold FX10_jump
    simp (disch := omega) only [bn_s, gd_in, if_pos, if_neg, i_lt, i_le, nI_toInt, Int32.reduceToInt, Int32.reduceSub, reduceIte, nI_clamp, nI_1, nI_add, lit_mul, lit_add, add_lit, pk_mul, pk_us, pk_un, pk_uLs, pk_uLn, nI_eqL, nI_eq, one_0, ob1_s, ob2_s, ob3_s, ob4_s, ob5_s, isRow_s]
    exact y2
  · have hT := tIn_yes (n := n) h1
    refine ⟨1, 0, 0, 1, by unfold FX9_jump; rw [if_pos hT], ?_, .o1⟩
    unfold FX10_jump
    simp (disch := omega) only [bn_s, gd_in, if_pos, if_neg, i_lt, i_le, nI_toInt, Int32.reduceToInt, Int32.reduceSub, reduceIte, nI_clamp, nI_1, nI_add, lit_mul, lit_add, add_lit, pk_mul, pk_us, pk_un, pk_uLs, pk_uLn, nI_eqL, nI_eq, one_0, ob1_s, ob2_s, ob3_s, ob4_s, ob5_s, isRow_s]
