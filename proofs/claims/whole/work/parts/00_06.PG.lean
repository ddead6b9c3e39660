/-- the pieces of both -/
def PcR (q at' : Nat) (g : Nat → Nat) (T' F Ln Up Lo : Nat → Int32) (Mi : Nat → Int64) (fi le : Nat → Int32) (up dn he : Nat → Int64) : Prop :=
  (∀ k, k < q → g k < at' ∧ fi k = nI (g k) ∧ F k = T' (g k) ∧ Ln k = le k ∧ Up k = (up k).toInt32 ∧ Lo k = (dn k).toInt32 ∧ Mi k = he k ∧ (-262000 ≤ (up k).toInt ∧ (up k).toInt ≤ 262000) ∧ (1 ≤ (dn k).toInt ∧ (dn k).toInt ≤ 299) ∧ (he k).toInt.natAbs ≤ 236000000) ∧ ∀ k k', k < k' → k' < q → g k < g k'
theorem PcR.push {q at' to : Nat} {g : Nat → Nat} {T' F Ln Up Lo : Nat → Int32} {Mi : Nat → Int64} {fi le : Nat → Int32} {up dn he : Nat → Int64} {u v z : Int64} {x : Int32} (h : PcR q at' g T' F Ln Up Lo Mi fi le up dn he) (hto : at' < to) (hu : -262000 ≤ u.toInt ∧ u.toInt ≤ 262000) (hv : 1 ≤ v.toInt ∧ v.toInt ≤ 299) (hz : z.toInt.natAbs ≤ 236000000) :
    PcR (q + 1) to (fun k => if k = q then at' else g k) T' (upd F q (T' at')) (upd Ln q x) (upd Up q u.toInt32) (upd Lo q v.toInt32) (vp_updL Mi q z) (upd fi q (nI at')) (upd le q x) (vp_updL up q u) (vp_updL dn q v) (vp_updL he q z) := by
  refine ⟨fun k hk => ?_, fun k k' hk hk' => ?_⟩
  · by_cases e : k = q
    · subst e
      simp only [pk_us, pk_uLs, reduceIte]
      exact ⟨hto, trivial, trivial, trivial, trivial, trivial, trivial, hu, hv, hz⟩
    · obtain ⟨h1, h2⟩ := h.1 k (by omega)
      simp only [if_neg e, pk_un e, pk_uLn e]
      exact ⟨by omega, h2⟩
  · have e : k ≠ q := by omega
    simp only [if_neg e]
    by_cases e2 : k' = q
    · simp only [if_pos e2]; exact (h.1 k (by omega)).1
    · simp only [if_neg e2]; exact h.2 k k' hk (by omega)
theorem ext_lk {k4 : Int32 → Int32 → Int64 → Int64 → Int64 → Int64 → (Nat → Int32) → (Nat → Int32) → (Nat → Int32) → (Nat → Int32) → (Nat → Int32) → (Nat → Int32) → (Nat → Int32) → (Nat → Int64) → Int32 → Int32 → Option (Int32 × Int64 × Int64 × Int64 × Int64 × (Nat → Int32) × (Nat → Int32) × (Nat → Int32) × (Nat → Int32) × (Nat → Int64))}
    {k123 : Int32 → Int32 → Int64 → Int64 → Int64 → Int64 → Int32 → (Nat → Int32) → (Nat → Int32) → (Nat → Int32) → (Nat → Int32) → (Nat → Int32) → (Nat → Int32) → (Nat → Int32) → (Nat → Int32) → (Nat → Int32) → (Nat → Int32) → (Nat → Int32) → (Nat → Int32) → (Nat → Int64) → (Nat → Int64) → (Nat → Int64) → Int32 → Option (Int32 × Int32 × Int64 × Int64 × Int64 × Int64 × (Nat → Int32) × (Nat → Int32) × (Nat → Int32) × (Nat → Int32) × (Nat → Int32) × (Nat → Int32) × (Nat → Int64) × (Nat → Int64) × (Nat → Int64))}
    {p fr k : Nat} {T lo hi T' P E fi le F Ln Up Lo R M J W Me En Ms : Nat → Int32} {up dn he Mi : Nat → Int64} {sz nr : Int32} (h : PR p T lo hi T' P E) (hk : k < 20) :
    ∀ (e n n' : Nat) (lU lL mU mL a b c d : Int64), e ≤ p → fr < p - e → e + 70 ≤ n → e + 70 ≤ n' →
    ∃ (to : Nat) (u v z lU' lL' mU' mL' a' b' c' d' : Int64), fr < to ∧ to ≤ p ∧ (-262000 ≤ u.toInt ∧ u.toInt ≤ 262000) ∧ (1 ≤ v.toInt ∧ v.toInt ≤ 299) ∧ z.toInt.natAbs ≤ 236000000 ∧
      LX1_lay_22 k4 n (nI p) sz lU lL mU mL T lo hi F Ln Up Lo Mi (nI fr) (nI k) (nI (p - e)) = k4 (nI p) (nI (k + 1)) lU' lL' mU' mL' T lo hi (upd F k (T' fr)) (upd Ln k (nI (to - fr))) (upd Up k u.toInt32) (upd Lo k v.toInt32) (vp_updL Mi k z) (nI to) (nI (k + 1)) ∧
      LX10_works_135 k123 n' (nI p) (nI k) a b c d nr R M J W Me En Ms T' P E fi le up dn he (nI fr) (nI (p - e)) = k123 (nI p) (nI (k + 1)) a' b' c' d' nr R M J W Me En Ms T' P E (upd fi k (nI fr)) (upd le k (nI (to - fr))) (vp_updL up k u) (vp_updL dn k v) (vp_updL he k z) (nI to) := by
  have hp := h.1
  have fin : ∀ (to n n' : Nat) (lU lL mU mL a b c d : Int64), fr < to → to ≤ p → 60 ≤ n → 60 ≤ n' → ∃ (u v z lU' lL' mU' mL' a' b' c' d' : Int64), (-262000 ≤ u.toInt ∧ u.toInt ≤ 262000) ∧ (1 ≤ v.toInt ∧ v.toInt ≤ 299) ∧ z.toInt.natAbs ≤ 236000000 ∧
      FX1_keepPiece n sz lU lL mU mL T lo hi F Ln Up Lo Mi (nI k) (nI fr) (nI to) = some (nI (k + 1), lU', lL', mU', mL', upd F k (T' fr), upd Ln k (nI (to - fr)), upd Up k u.toInt32, upd Lo k v.toInt32, vp_updL Mi k z) ∧
      JX10_works_160 k123 n' (nI p) (nI k) a b c d nr R M J W Me En Ms T' P E fi le up dn he (nI fr) (nI to) = k123 (nI p) (nI (k + 1)) a' b' c' d' nr R M J W Me En Ms T' P E (upd fi k (nI fr)) (upd le k (nI (to - fr))) (vp_updL up k u) (vp_updL dn k v) (vp_updL he k z) (nI to) := by
    intro to n n' lU lL mU mL a b c d h1 h2 hn hn'
    have hs : nI to - nI fr = nI (to - fr) := pk_sub (by omega)
    obtain ⟨u, v, z, lU', lL', mU', mL', a', b', c', d', q1, q2, q3, q4, q5⟩ := keep_lk (n := n) (n' := n') (k := k) (fi := upd fi k (nI fr)) (le := upd le k (nI (to - fr))) (F := F) (Ln := Ln) (Up := Up) (Lo := Lo) (up := up) (dn := dn) (he := he) (Mi := Mi) (sz := sz) (lU := lU) (lL := lL) (mU := mU) (mL := mL) (a := a) (b := b) (c := c) (d := d) h h1 h2 hk pk_us pk_us hn hn'
    refine ⟨u, v, z, lU', lL', mU', mL', a', b', c', d', q1, q2, q3, ?_, ?_⟩
    · rw [q4, (h.2.1 fr (by omega)).1]
    · unfold JX10_works_160
      simp (disch := omega) only [bn_s, gd_in, if_pos, if_neg, i_lt, i_le, nI_toInt, Int32.reduceToInt, Int32.reduceSub, reduceIte, nI_clamp, nI_1, nI_add, lit_mul, lit_add, add_lit, pk_mul, pk_us, pk_un, pk_uLs, pk_uLn, nI_eqL, nI_eq, one_0, ob1_s, ob2_s, ob3_s, ob4_s, ob5_s, ob1_s, ob2_s, ob3_s, ob4_s, ob5_s, ob6_s, ob7_s, ob8_s, ob9_s, ob10_s, ob11_s, ob12_s, ob13_s, ob14_s, ob15_s, ob16_s, ob17_s, ob18_s, ob19_s, ob20_s, ob21_s, ob22_s, ob23_s, ob24_s, hs, q5]
  intro e
  induction e with
  | zero =>
    intro n n' lU lL mU mL a b c d _ hfr hn hn'
    obtain ⟨n, rfl⟩ : ∃ m, n = m + 1 := ⟨n - 1, by omega⟩
    obtain ⟨n', rfl⟩ : ∃ m, n' = m + 1 := ⟨n' - 1, by omega⟩
    obtain ⟨u, v, z, lU', lL', mU', mL', a', b', c', d', q1, q2, q3, q4, q5⟩ := fin p n n' lU lL mU mL a b c d (by omega) (by omega) (by omega) (by omega)
    refine ⟨p, u, v, z, lU', lL', mU', mL', a', b', c', d', by omega, by omega, q1, q2, q3, ?_, ?_⟩
    · unfold LX1_lay_22 JX1_lay_22
      rw [show p - 0 = p by omega]
      simp (disch := omega) only [bn_s, gd_in, if_pos, if_neg, i_lt, i_le, nI_toInt, Int32.reduceToInt, Int32.reduceSub, reduceIte, nI_clamp, nI_1, nI_add, lit_mul, lit_add, add_lit, pk_mul, pk_us, pk_un, pk_uLs, pk_uLn, nI_eqL, nI_eq, one_0, ob1_s, ob2_s, ob3_s, ob4_s, ob5_s, ob1_s, ob2_s, ob3_s, ob4_s, ob5_s, ob6_s, ob7_s, ob8_s, ob9_s, ob10_s, ob11_s, ob12_s, ob13_s, ob14_s, ob15_s, ob16_s, ob17_s, ob18_s, ob19_s, ob20_s, ob21_s, ob22_s, ob23_s, ob24_s, q4]
    · unfold LX10_works_135 JX10_works_135
      rw [show p - 0 = p by omega]
      simp (disch := omega) only [bn_s, gd_in, if_pos, if_neg, i_lt, i_le, nI_toInt, Int32.reduceToInt, Int32.reduceSub, reduceIte, nI_clamp, nI_1, nI_add, lit_mul, lit_add, add_lit, pk_mul, pk_us, pk_un, pk_uLs, pk_uLn, nI_eqL, nI_eq, one_0, ob1_s, ob2_s, ob3_s, ob4_s, ob5_s, ob1_s, ob2_s, ob3_s, ob4_s, ob5_s, ob6_s, ob7_s, ob8_s, ob9_s, ob10_s, ob11_s, ob12_s, ob13_s, ob14_s, ob15_s, ob16_s, ob17_s, ob18_s, ob19_s, ob20_s, ob21_s, ob22_s, ob23_s, ob24_s, q5]
  | succ e ih =>
    intro n n' lU lL mU mL a b c d he hfr hn hn'
    obtain ⟨n, rfl⟩ : ∃ m, n = m + 1 := ⟨n - 1, by omega⟩
    obtain ⟨n', rfl⟩ : ∃ m, n' = m + 1 := ⟨n' - 1, by omega⟩
    obtain ⟨any, lU1, lL1, mU1, mL1, a1, b1, c1, d1, r, hS, _, _, h4, _, h5⟩ := fits_lk (fr := fr) (to := p - e) (n := n) (n' := n') (lU := lU) (lL := lL) (mU := mU) (mL := mL) (a := a) (b := b) (c := c) (d := d) h (by omega) (by omega) (by omega) (by omega)
    by_cases hr : r = 0
    · obtain ⟨u, v, z, lU', lL', mU', mL', a', b', c', d', q1, q2, q3, q4, q5⟩ := fin (p - (e + 1)) n n' lU1 lL1 mU1 mL1 a1 b1 c1 d1 (by omega) (by omega) (by omega) (by omega)
      refine ⟨p - (e + 1), u, v, z, lU', lL', mU', mL', a', b', c', d', by omega, by omega, q1, q2, q3, ?_, ?_⟩
      · unfold LX1_lay_22 JX1_lay_22
        simp (disch := omega) only [bn_s, gd_in, if_pos, if_neg, i_lt, i_le, nI_toInt, Int32.reduceToInt, Int32.reduceSub, reduceIte, nI_clamp, nI_1, nI_add, lit_mul, lit_add, add_lit, pk_mul, pk_us, pk_un, pk_uLs, pk_uLn, nI_eqL, nI_eq, one_0, ob1_s, ob2_s, ob3_s, ob4_s, ob5_s, ob1_s, ob2_s, ob3_s, ob4_s, ob5_s, ob6_s, ob7_s, ob8_s, ob9_s, ob10_s, ob11_s, ob12_s, ob13_s, ob14_s, ob15_s, ob16_s, ob17_s, ob18_s, ob19_s, ob20_s, ob21_s, ob22_s, ob23_s, ob24_s, show p - (e + 1) + 1 = p - e by omega, h4, hr, q4]
      · unfold LX10_works_135 JX10_works_135
        simp (disch := omega) only [bn_s, gd_in, if_pos, if_neg, i_lt, i_le, nI_toInt, Int32.reduceToInt, Int32.reduceSub, reduceIte, nI_clamp, nI_1, nI_add, lit_mul, lit_add, add_lit, pk_mul, pk_us, pk_un, pk_uLs, pk_uLn, nI_eqL, nI_eq, one_0, ob1_s, ob2_s, ob3_s, ob4_s, ob5_s, ob1_s, ob2_s, ob3_s, ob4_s, ob5_s, ob6_s, ob7_s, ob8_s, ob9_s, ob10_s, ob11_s, ob12_s, ob13_s, ob14_s, ob15_s, ob16_s, ob17_s, ob18_s, ob19_s, ob20_s, ob21_s, ob22_s, ob23_s, ob24_s, show p - (e + 1) + 1 = p - e by omega, h5, hr, q5]
    · obtain ⟨to, u, v, z, lU', lL', mU', mL', a', b', c', d', i1, i2, q1, q2, q3, q4, q5⟩ := ih n n' lU1 lL1 mU1 mL1 a1 b1 c1 d1 (by omega) (by omega) (by omega) (by omega)
      refine ⟨to, u, v, z, lU', lL', mU', mL', a', b', c', d', i1, i2, q1, q2, q3, ?_, ?_⟩
      · unfold LX1_lay_22 JX1_lay_22
        simp (disch := omega) only [bn_s, gd_in, if_pos, if_neg, i_lt, i_le, nI_toInt, Int32.reduceToInt, Int32.reduceSub, reduceIte, nI_clamp, nI_1, nI_add, lit_mul, lit_add, add_lit, pk_mul, pk_us, pk_un, pk_uLs, pk_uLn, nI_eqL, nI_eq, one_0, ob1_s, ob2_s, ob3_s, ob4_s, ob5_s, ob1_s, ob2_s, ob3_s, ob4_s, ob5_s, ob6_s, ob7_s, ob8_s, ob9_s, ob10_s, ob11_s, ob12_s, ob13_s, ob14_s, ob15_s, ob16_s, ob17_s, ob18_s, ob19_s, ob20_s, ob21_s, ob22_s, ob23_s, ob24_s, show p - (e + 1) + 1 = p - e by omega, h4, hr]
        exact q4
      · unfold LX10_works_135 JX10_works_135
        simp (disch := omega) only [bn_s, gd_in, if_pos, if_neg, i_lt, i_le, nI_toInt, Int32.reduceToInt, Int32.reduceSub, reduceIte, nI_clamp, nI_1, nI_add, lit_mul, lit_add, add_lit, pk_mul, pk_us, pk_un, pk_uLs, pk_uLn, nI_eqL, nI_eq, one_0, ob1_s, ob2_s, ob3_s, ob4_s, ob5_s, ob1_s, ob2_s, ob3_s, ob4_s, ob5_s, ob6_s, ob7_s, ob8_s, ob9_s, ob10_s, ob11_s, ob12_s, ob13_s, ob14_s, ob15_s, ob16_s, ob17_s, ob18_s, ob19_s, ob20_s, ob21_s, ob22_s, ob23_s, ob24_s, show p - (e + 1) + 1 = p - e by omega, h5, hr]
        exact q5
theorem lay_lk {p : Nat} {T lo hi T' P E R M J W Me En Ms : Nat → Int32} {nr : Int32} (h : PR p T lo hi T' P E) :
    ∀ (e n n' at' k : Nat) (g : Nat → Nat) (F Ln Up Lo fi le : Nat → Int32) (Mi up dn he : Nat → Int64) (lU lL mU mL a b c d : Int64), p - at' ≤ e → at' ≤ p → k ≤ at' → (k = 0 ↔ at' = 0) → e + 100 ≤ n → e + 100 ≤ n' → PcR k at' g T' F Ln Up Lo Mi fi le up dn he →
    ∃ (q : Nat) (g' : Nat → Nat) (F' Ln' Up' Lo' fi' le' : Nat → Int32) (Mi' up' dn' he' : Nat → Int64) (lU' lL' mU' mL' a' b' c' d' : Int64), q ≤ p ∧ (q = 0 ↔ p = 0) ∧ PcR q p g' T' F' Ln' Up' Lo' Mi' fi' le' up' dn' he' ∧
      LX1_lay_4 n (nI p) (nI k) lU lL mU mL T lo hi F Ln Up Lo Mi (nI at') (nI k) = some (nI q, lU', lL', mU', mL', F', Ln', Up', Lo', Mi') ∧
      LX10_works_123 n' (nI p) (nI k) a b c d nr R M J W Me En Ms T' P E fi le up dn he (nI at') = some (nI p, nI q, a', b', c', d', J, T', P, E, fi', le', up', dn', he') := by
  have hp := h.1
  intro e
  induction e with
  | zero =>
    intro n n' at' k g F Ln Up Lo fi le Mi up dn he lU lL mU mL a b c d h1 h2 h3 h4 hn hn' hR
    obtain ⟨n, rfl⟩ : ∃ m, n = m + 1 := ⟨n - 1, by omega⟩
    obtain ⟨n', rfl⟩ : ∃ m, n' = m + 1 := ⟨n' - 1, by omega⟩
    have : at' = p := by omega
    subst this
    refine ⟨k, g, F, Ln, Up, Lo, fi, le, Mi, up, dn, he, lU, lL, mU, mL, a, b, c, d, by omega, by omega, hR, ?_, ?_⟩
    · unfold LX1_lay_4 JX1_lay_4
      by_cases e1 : 20 ≤ k <;> simp (disch := omega) only [bn_s, gd_in, if_pos, if_neg, i_lt, i_le, nI_toInt, Int32.reduceToInt, Int32.reduceSub, reduceIte, nI_clamp, nI_1, nI_add, lit_mul, lit_add, add_lit, pk_mul, pk_us, pk_un, pk_uLs, pk_uLn, nI_eqL, nI_eq, one_0, ob1_s, ob2_s, ob3_s, ob4_s, ob5_s]
    · unfold LX10_works_123 JX10_works_123
      simp (disch := omega) only [bn_s, gd_in, if_pos, if_neg, i_lt, i_le, nI_toInt, Int32.reduceToInt, Int32.reduceSub, reduceIte, nI_clamp, nI_1, nI_add, lit_mul, lit_add, add_lit, pk_mul, pk_us, pk_un, pk_uLs, pk_uLn, nI_eqL, nI_eq, one_0, ob1_s, ob2_s, ob3_s, ob4_s, ob5_s]
  | succ e ih =>
    intro n n' at' k g F Ln Up Lo fi le Mi up dn he lU lL mU mL a b c d h1 h2 h3 h4 hn hn' hR
    by_cases hat : at' = p
    · exact ih n n' at' k g F Ln Up Lo fi le Mi up dn he lU lL mU mL a b c d (by omega) h2 h3 h4 (by omega) (by omega) hR
    obtain ⟨n, rfl⟩ : ∃ m, n = m + 1 := ⟨n - 1, by omega⟩
    obtain ⟨n', rfl⟩ : ∃ m, n' = m + 1 := ⟨n' - 1, by omega⟩
    obtain ⟨to, u, v, z, lU1, lL1, mU1, mL1, a1, b1, c1, d1, i1, i2, q1, q2, q3, q4, q5⟩ := ext_lk (k4 := LX1_lay_4 n) (k123 := LX10_works_123 n') (fr := at') (k := k) (F := F) (Ln := Ln) (Up := Up) (Lo := Lo) (Mi := Mi) (fi := fi) (le := le) (up := up) (dn := dn) (he := he) (sz := nI k) (nr := nr) (R := R) (M := M) (J := J) (W := W) (Me := Me) (En := En) (Ms := Ms) h (by omega) (p - (at' + 1)) n n' lU lL mU mL a b c d (by omega) (by omega) (by omega) (by omega)
    rw [show p - (p - (at' + 1)) = at' + 1 by omega] at q4 q5
    obtain ⟨q, g', F', Ln', Up', Lo', fi', le', Mi', up', dn', he', lU', lL', mU', mL', a', b', c', d', j1, j2, j3, j4, j5⟩ := ih n n' to (k + 1) _ _ _ _ _ _ _ _ _ _ _ lU1 lL1 mU1 mL1 a1 b1 c1 d1 (by omega) i2 (by omega) (by omega) (by omega) (by omega) (hR.push (x := nI (to - at')) i1 q1 q2 q3)
    refine ⟨q, g', F', Ln', Up', Lo', fi', le', Mi', up', dn', he', lU', lL', mU', mL', a', b', c', d', j1, j2, j3, ?_, ?_⟩
    · unfold LX1_lay_4 JX1_lay_4
      simp (disch := omega) only [bn_s, gd_in, if_pos, if_neg, i_lt, i_le, nI_toInt, Int32.reduceToInt, Int32.reduceSub, reduceIte, nI_clamp, nI_1, nI_add, lit_mul, lit_add, add_lit, pk_mul, pk_us, pk_un, pk_uLs, pk_uLn, nI_eqL, nI_eq, one_0, ob1_s, ob2_s, ob3_s, ob4_s, ob5_s]
      rw [q4]; exact j4
    · unfold LX10_works_123 JX10_works_123
      simp (disch := omega) only [bn_s, gd_in, if_pos, if_neg, i_lt, i_le, nI_toInt, Int32.reduceToInt, Int32.reduceSub, reduceIte, nI_clamp, nI_1, nI_add, lit_mul, lit_add, add_lit, pk_mul, pk_us, pk_un, pk_uLs, pk_uLn, nI_eqL, nI_eq, one_0, ob1_s, ob2_s, ob3_s, ob4_s, ob5_s]
      rw [q5]; exact j5
