/-- the trains of both -/
def TrR (k : Nat) (f : Nat → Int32) (Fr To : Nat → Int32) : Prop :=
  k ≤ 10 ∧ (∀ i, i < 300 → (f i = 0 ∨ f i = 1) ∧ (f i = 1 ↔ ∃ j, j < k ∧ (Fr j).toInt ≤ i ∧ i < (To j).toInt))
theorem tadd_L {a b k : Nat} (ha : a < 300) (hb : b ≤ 300) (hk : k < 10) : ∀ d n (f : Nat → Int32), d ≤ 300 → a ≤ 300 - d → d + 1 ≤ n → ∃ f', LX7_add_17 n (nI k) f (nI a) (nI b) (nI (300 - d)) = some (nI k, nI (k + 1), f') ∧ ∀ i, i < 300 → f' i = if 300 - d ≤ i ∧ i < a + b then 1 else f i := by
  have e2 : nI (k + 1) - 1 = nI k := pk_sub (a := k + 1) (b := 1) (by omega)
  have e3 : vp_nar .boolean 1 = 1 := rfl
  intro d
  induction d with
  | zero =>
    intro n f _ _ hn
    obtain ⟨n, rfl⟩ : ∃ m, n = m + 1 := ⟨n - 1, by omega⟩
    refine ⟨f, ?_, fun i hi => by rw [if_neg (by omega)]⟩
    unfold LX7_add_17 JX7_add_17; simp (disch := omega) only [bn_s, gd_in, if_pos, if_neg, i_lt, i_le, nI_toInt, Int32.reduceToInt, Int32.reduceSub, reduceIte, nI_clamp, nI_1, nI_add, lit_mul, lit_add, add_lit, pk_mul, pk_us, pk_un, pk_uLs, pk_uLn, nI_eqL, nI_eq, one_0, ob1_s, ob2_s, ob3_s, ob4_s, ob5_s, e2]
  | succ d ih =>
    intro n f hd had hn
    obtain ⟨n, rfl⟩ : ∃ m, n = m + 1 := ⟨n - 1, by omega⟩
    have e1 : nI (300 - (d + 1)) - nI a = nI (300 - (d + 1) - a) := pk_sub (by omega)
    by_cases c : b ≤ 300 - (d + 1) - a
    · refine ⟨f, ?_, fun i hi => by rw [if_neg (by omega)]⟩
      unfold LX7_add_17 JX7_add_17; simp (disch := omega) only [bn_s, gd_in, if_pos, if_neg, i_lt, i_le, nI_toInt, Int32.reduceToInt, Int32.reduceSub, reduceIte, nI_clamp, nI_1, nI_add, lit_mul, lit_add, add_lit, pk_mul, pk_us, pk_un, pk_uLs, pk_uLn, nI_eqL, nI_eq, one_0, ob1_s, ob2_s, ob3_s, ob4_s, ob5_s, e1, e2]
    · obtain ⟨f', i1, i2⟩ := ih n (upd f (300 - (d + 1)) 1) (by omega) (by omega) (by omega)
      refine ⟨f', ?_, fun i hi => ?_⟩
      · unfold LX7_add_17 JX7_add_17
        simp (disch := omega) only [bn_s, gd_in, if_pos, if_neg, i_lt, i_le, nI_toInt, Int32.reduceToInt, Int32.reduceSub, reduceIte, nI_clamp, nI_1, nI_add, lit_mul, lit_add, add_lit, pk_mul, pk_us, pk_un, pk_uLs, pk_uLn, nI_eqL, nI_eq, one_0, ob1_s, ob2_s, ob3_s, ob4_s, ob5_s, e1, e2, e3]
        rw [show 300 - (d + 1) + 1 = 300 - d by omega]; exact i1
      · rw [i2 i hi]
        by_cases e : i = 300 - (d + 1)
        · subst e; rw [if_neg (by omega), pk_us, if_pos (by omega)]
        · rw [pk_un e]
          by_cases e2 : 300 - d ≤ i ∧ i < a + b
          · rw [if_pos e2, if_pos (by omega)]
          · rw [if_neg e2, if_neg (by omega)]
theorem call_train {n n' k : Nat} {f Fr To : Nat → Int32} {p q th : Int32} (hn : 1000 ≤ n) (h : TrR k f Fr To) :
    ∃ c r k' f' b th' Fr' To', FX9_train n f (nI k) p q = some (c, r, f', nI k') ∧ FX10_train n' th (nI k) Fr To p q = some (b, th', nI k', Fr', To') ∧ TrR k' f' Fr' To' ∧ Ans2 c r b th' := by
  obtain ⟨hk, hf⟩ := id h
  by_cases h1 : (0 : Int32).toInt ≤ p.toInt ∧ p.toInt ≤ (299 : Int32).toInt
  · by_cases h2 : (1 : Int32).toInt ≤ q.toInt ∧ q.toInt ≤ (300 : Int32).toInt
    · obtain ⟨a, ha, rfl⟩ := of_lt (x := p) (N := 300) (by have := h1.1; rw [t_0] at this; omega) (by have := h1.2; rw [show (299 : Int32).toInt = 299 from rfl] at this; omega) (by omega)
      obtain ⟨b, hb, rfl⟩ := of_lt (x := q) (N := 301) (by have := h2.1; rw [t_1] at this; omega) (by have := h2.2; rw [show (300 : Int32).toInt = 300 from rfl] at this; omega) (by omega)
      have hb1 := h2.1
      rw [nI_toInt (by omega), t_1] at hb1
      have m34 : FX10_train n' th (nI k) Fr To (nI a) (nI b) = JX10_train_34 n' 0 (nI k) Fr To (nI a) (nI b) 0 := by
        unfold FX10_train
        simp (disch := omega) only [bn_s, gd_in, if_pos, if_neg, i_lt, i_le, nI_toInt, Int32.reduceToInt, Int32.reduceSub, reduceIte, nI_clamp, nI_1, nI_add, lit_mul, lit_add, add_lit, pk_mul, pk_us, pk_un, pk_uLs, pk_uLn, nI_eqL, nI_eq, one_0, ob1_s, ob2_s, ob3_s, ob4_s, ob5_s]
      by_cases hlt : k < 10
      · obtain ⟨f', i1, i2⟩ := tadd_L (k := k) ha (show b ≤ 300 by omega) hlt (300 - a) n f (by omega) (by omega) (by omega)
        rw [show 300 - (300 - a) = a by omega] at i1 i2
        have e2 : nI (k + 1) - 1 = nI k := pk_sub (a := k + 1) (b := 1) (by omega)
        refine ⟨0, nI k, k + 1, f', nI k, 0, upd Fr k (nI a), upd To k (nI a + nI b), ?_, ?_, ⟨by omega, fun i hi => ?_⟩, Or.inl ⟨rfl, rfl, rfl⟩⟩
        · unfold FX9_train FX7_add
          rw [wi1 h1, ifo, wi1 h2, ifo, dm1]
          simp (disch := omega) only [bn_s, gd_in, if_pos, if_neg, i_lt, i_le, nI_toInt, Int32.reduceToInt, Int32.reduceSub, reduceIte, nI_clamp, nI_1, nI_add, lit_mul, lit_add, add_lit, pk_mul, pk_us, pk_un, pk_uLs, pk_uLn, nI_eqL, nI_eq, one_0, ob1_s, ob2_s, ob3_s, ob4_s, ob5_s]
          rw [i1]; rfl
        · rw [m34]
          unfold JX10_train_34
          rw [bd0, ifz]
          simp (disch := omega) only [bn_s, gd_in, if_pos, if_neg, i_lt, i_le, nI_toInt, Int32.reduceToInt, Int32.reduceSub, reduceIte, nI_clamp, nI_1, nI_add, lit_mul, lit_add, add_lit, pk_mul, pk_us, pk_un, pk_uLs, pk_uLn, nI_eqL, nI_eq, one_0, ob1_s, ob2_s, ob3_s, ob4_s, ob5_s, e2]
        · rw [i2 i hi]
          have hto : (nI a + nI b).toInt = a + b := by rw [nI_add, nI_toInt (by omega)]; omega
          by_cases c : a ≤ i ∧ i < a + b
          · rw [if_pos c]
            refine ⟨Or.inr rfl, fun _ => ⟨k, by omega, ?_, ?_⟩, fun _ => rfl⟩
            · rw [pk_us, nI_toInt (by omega)]; omega
            · rw [pk_us, hto]; omega
          · rw [if_neg c]
            refine ⟨(hf i hi).1, fun h9 => ?_, fun h9 => ?_⟩
            · obtain ⟨j, j1, j2, j3⟩ := (hf i hi).2.mp h9
              refine ⟨j, by omega, ?_, ?_⟩
              · rw [pk_un (by omega)]; exact j2
              · rw [pk_un (by omega)]; exact j3
            · obtain ⟨j, j1, j2, j3⟩ := h9
              by_cases e : j = k
              · subst e
                rw [pk_us, nI_toInt (by omega)] at j2
                rw [pk_us, hto] at j3
                exact absurd ⟨by omega, by omega⟩ c
              · rw [pk_un e] at j2 j3
                exact (hf i hi).2.mpr ⟨j, by omega, j2, j3⟩
      · have : k = 10 := by omega
        subst this
        refine ⟨0, -1, 10, f, -1, 0, Fr, To, ?_, ?_, h, Or.inl ⟨rfl, rfl, rfl⟩⟩
        · unfold FX9_train FX7_add
          rw [wi1 h1, ifo, wi1 h2, ifo, dm1]
          simp (disch := omega) only [bn_s, gd_in, if_pos, if_neg, i_lt, i_le, nI_toInt, Int32.reduceToInt, Int32.reduceSub, reduceIte, nI_clamp, nI_1, nI_add, lit_mul, lit_add, add_lit, pk_mul, pk_us, pk_un, pk_uLs, pk_uLn, nI_eqL, nI_eq, one_0, ob1_s, ob2_s, ob3_s, ob4_s, ob5_s]
        · rw [m34]
          unfold JX10_train_34
          rw [bd0, ifz]
          simp (disch := omega) only [bn_s, gd_in, if_pos, if_neg, i_lt, i_le, nI_toInt, Int32.reduceToInt, Int32.reduceSub, reduceIte, nI_clamp, nI_1, nI_add, lit_mul, lit_add, add_lit, pk_mul, pk_us, pk_un, pk_uLs, pk_uLn, nI_eqL, nI_eq, one_0, ob1_s, ob2_s, ob3_s, ob4_s, ob5_s]
    · refine ⟨2, 0, k, f, 0, 1, Fr, To, ?_, ?_, h, Or.inr ⟨rfl, rfl⟩⟩
      · unfold FX9_train
        rw [wi1 h1, ifo, wi0 h2, ifz]
      · have m29 : JX10_train_29 n' 0 (nI k) Fr To p q = some (0, 1, nI k, Fr, To) := by
          unfold JX10_train_29 JX10_train_34; rw [bd1, ifo]
        unfold FX10_train
        rw [m29]
        rw [t_0, show (299 : Int32).toInt = 299 from rfl] at h1
        rw [t_1, show (300 : Int32).toInt = 300 from rfl] at h2
        by_cases h3 : q.toInt < 1
        · simp (disch := omega) only [bn_s, gd_in, if_pos, if_neg, i_lt, i_le, nI_toInt, Int32.reduceToInt, Int32.reduceSub, reduceIte, nI_clamp, nI_1, nI_add, lit_mul, lit_add, add_lit, pk_mul, pk_us, pk_un, pk_uLs, pk_uLn, nI_eqL, nI_eq, one_0, ob1_s, ob2_s, ob3_s, ob4_s, ob5_s]
        · simp (disch := omega) only [bn_s, gd_in, if_pos, if_neg, i_lt, i_le, nI_toInt, Int32.reduceToInt, Int32.reduceSub, reduceIte, nI_clamp, nI_1, nI_add, lit_mul, lit_add, add_lit, pk_mul, pk_us, pk_un, pk_uLs, pk_uLn, nI_eqL, nI_eq, one_0, ob1_s, ob2_s, ob3_s, ob4_s, ob5_s]
  · refine ⟨2, 0, k, f, 0, 1, Fr, To, ?_, ?_, h, Or.inr ⟨rfl, rfl⟩⟩
    · unfold FX9_train
      rw [wi0 h1, ifz]
    · have m29 : JX10_train_29 n' 0 (nI k) Fr To p q = some (0, 1, nI k, Fr, To) := by
        unfold JX10_train_29 JX10_train_34; rw [bd1, ifo]
      unfold FX10_train
      rw [m29]
      rw [t_0, show (299 : Int32).toInt = 299 from rfl] at h1
      by_cases h3 : p.toInt < 0
      · simp (disch := omega) only [bn_s, gd_in, if_pos, if_neg, i_lt, i_le, nI_toInt, Int32.reduceToInt, Int32.reduceSub, reduceIte, nI_clamp, nI_1, nI_add, lit_mul, lit_add, add_lit, pk_mul, pk_us, pk_un, pk_uLs, pk_uLn, nI_eqL, nI_eq, one_0, ob1_s, ob2_s, ob3_s, ob4_s, ob5_s]
      · simp (disch := omega) only [bn_s, gd_in, if_pos, if_neg, i_lt, i_le, nI_toInt, Int32.reduceToInt, Int32.reduceSub, reduceIte, nI_clamp, nI_1, nI_add, lit_mul, lit_add, add_lit, pk_mul, pk_us, pk_un, pk_uLs, pk_uLn, nI_eqL, nI_eq, one_0, ob1_s, ob2_s, ob3_s, ob4_s, ob5_s]
/-- the tape of both -/
def TpR (k : Nat) (f tp : Nat → Int32) : Prop := k ≤ 300 ∧ ∀ i, i < k → f i = tp i &&& 255
theorem and255 (z : Int32) : z &&& 255 = nI (z.toInt % 256).toNat := by
  rw [pk_and z 8 (by decide)]
  congr 1
  have h1 : z.toInt = if 2 * z.toBitVec.toNat < 2 ^ 32 then (z.toBitVec.toNat : Int) else (z.toBitVec.toNat : Int) - 2 ^ 32 := BitVec.toInt_eq_toNat_cond z.toBitVec
  have h2 := z.toBitVec.isLt
  by_cases c : 2 * z.toBitVec.toNat < 2 ^ 32
  · rw [if_pos c] at h1; omega
  · rw [if_neg c] at h1; omega
theorem byt {v s : Int32} (k : Nat) (hk : k = 0 ∨ k = 8 ∨ k = 16 ∨ k = 24) (hs : s = nI k) : ((v.toUInt32 >>> (s.toUInt32 &&& Int32.toUInt32 31)).toInt32) &&& 255 = (vp_nar .byte ((v >>> (s &&& 31) : Int32).toInt8.toInt32)) &&& 255 := by
  rw [pk_vb, pk_and _ 8 (by decide), and255]
  congr 1
  rw [Int8.toInt_toInt32, Int32.toInt_toInt8]
  have h1 : v.toInt = if 2 * v.toBitVec.toNat < 2 ^ 32 then (v.toBitVec.toNat : Int) else (v.toBitVec.toNat : Int) - 2 ^ 32 := BitVec.toInt_eq_toNat_cond v.toBitVec
  have h2 := v.toBitVec.isLt
  have h3 : ∀ z : Int, (z.bmod (2 ^ 8)) % 256 = z % 256 := fun z => Int.bmod_emod
  rw [h3]
  rcases hk with rfl | rfl | rfl | rfl <;> subst hs
  · rw [pk_ushr v _ 0 (by decide), pk_shr v _ 0 (by decide), Int.shiftRight_eq_div_pow]
    by_cases c : 2 * v.toBitVec.toNat < 2 ^ 32
    · rw [if_pos c] at h1; rw [h1]; omega
    · rw [if_neg c] at h1; rw [h1]; omega
  · rw [pk_ushr v _ 8 (by decide), pk_shr v _ 8 (by decide), Int.shiftRight_eq_div_pow]
    by_cases c : 2 * v.toBitVec.toNat < 2 ^ 32
    · rw [if_pos c] at h1; rw [h1]; omega
    · rw [if_neg c] at h1; rw [h1]; omega
  · rw [pk_ushr v _ 16 (by decide), pk_shr v _ 16 (by decide), Int.shiftRight_eq_div_pow]
    by_cases c : 2 * v.toBitVec.toNat < 2 ^ 32
    · rw [if_pos c] at h1; rw [h1]; omega
    · rw [if_neg c] at h1; rw [h1]; omega
  · rw [pk_ushr v _ 24 (by decide), pk_shr v _ 24 (by decide), Int.shiftRight_eq_div_pow]
    by_cases c : 2 * v.toBitVec.toNat < 2 ^ 32
    · rw [if_pos c] at h1; rw [h1]; omega
    · rw [if_neg c] at h1; rw [h1]; omega
theorem TpR.push {k : Nat} {f tp : Nat → Int32} {a b : Int32} (h : TpR k f tp) (hk : k < 300) (e : a = b &&& 255) : TpR (k + 1) (upd f k a) (upd tp k b) := by
  refine ⟨by omega, fun i hi => ?_⟩
  by_cases c : i = k
  · subst c; rw [pk_us, pk_us, e]
  · rw [pk_un c, pk_un c]; exact h.2 i (by omega)
theorem n300 {k : Nat} (h : k < 300) : ¬ (300 : Int32) ≤ nI k := fun h9 => by
  have := i_le.mp h9
  rw [nI_toInt (by omega)] at this
  have e3 : (300 : Int32).toInt = 300 := rfl
  omega
theorem put_lk {k : Nat} {f tp : Nat → Int32} {v th x1 x2 x3 x4 x5 x6 : Int32} {k23 : Int32 → Int32 → (Nat → Int32) → Int32 → Int32 → Int32 → Int32 → Int32 → Int32 → Option (Int32 × Int32 × Int32 × (Nat → Int32))} (h : TpR k f tp) (hk : k + 4 ≤ 300) : ∃ f' tp', TpR (k + 4) f' tp' ∧ (∀ n, 6 ≤ n → FX5_put n (nI k) f v = some (nI (k + 4), f')) ∧ ∀ n, 6 ≤ n → LX10_feed_77 k23 n th (nI k) tp x1 x2 x3 x4 x5 x6 v 24 = k23 th (nI (k + 4)) tp' x1 x2 x3 x4 x5 (x6 + 1) := by
  have b3 := byt (v := v) (s := 24) 24 (by omega) rfl
  have b2 := byt (v := v) (s := 16) 16 (by omega) rfl
  have b1 := byt (v := v) (s := 8) 8 (by omega) rfl
  have b0 := byt (v := v) (s := 0) 0 (by omega) rfl
  have t3 := h.push (by omega) b3
  have t2 := t3.push (by omega) b2
  have t1 := t2.push (by omega) b1
  have t0 := t1.push (by omega) b0
  have s1 : (24 + -8 : Int32) = 16 := by decide
  have s2 : (16 + -8 : Int32) = 8 := by decide
  have s3 : (8 + -8 : Int32) = 0 := by decide
  have s4 : (0 + -8 : Int32) = -8 := by decide
  refine ⟨_, _, t0, fun n hn => ?_, fun n hn => ?_⟩
  · obtain ⟨n, rfl⟩ : ∃ m, n = m + 1 + 1 + 1 + 1 + 1 := ⟨n - 5, by omega⟩
    unfold FX5_put
    unfold LX5_put_3 JX5_put_3
    rw [if_neg (by decide), if_neg (n300 (k := k) (by omega)), gd_in (by omega) (by omega), bn_s, bn_s, bn_s, s1, nI_clamp (by omega), nI_1]
    unfold LX5_put_3 JX5_put_3
    rw [if_neg (by decide), if_neg (n300 (k := k + 1) (by omega)), gd_in (by omega) (by omega), bn_s, bn_s, bn_s, s2, nI_clamp (by omega), nI_1]
    unfold LX5_put_3 JX5_put_3
    rw [if_neg (by decide), if_neg (n300 (k := k + 1 + 1) (by omega)), gd_in (by omega) (by omega), bn_s, bn_s, bn_s, s3, nI_clamp (by omega), nI_1]
    unfold LX5_put_3 JX5_put_3
    rw [if_neg (by decide), if_neg (n300 (k := k + 1 + 1 + 1) (by omega)), gd_in (by omega) (by omega), bn_s, bn_s, bn_s, s4, nI_clamp (by omega), nI_1]
    unfold LX5_put_3 JX5_put_3
    rw [if_pos (by decide)]
  · obtain ⟨n, rfl⟩ : ∃ m, n = m + 1 + 1 + 1 + 1 + 1 := ⟨n - 5, by omega⟩
    unfold LX10_feed_77 JX10_feed_77
    rw [if_neg (by decide), gd_in (by omega) (by omega), bn_s, bn_s, bn_s, s1, nI_clamp (by omega), nI_1]
    unfold LX10_feed_77 JX10_feed_77
    rw [if_neg (by decide), gd_in (by omega) (by omega), bn_s, bn_s, bn_s, s2, nI_clamp (by omega), nI_1]
    unfold LX10_feed_77 JX10_feed_77
    rw [if_neg (by decide), gd_in (by omega) (by omega), bn_s, bn_s, bn_s, s3, nI_clamp (by omega), nI_1]
    unfold LX10_feed_77 JX10_feed_77
    rw [if_neg (by decide), gd_in (by omega) (by omega), bn_s, bn_s, bn_s, s4, nI_clamp (by omega), nI_1]
    unfold LX10_feed_77 JX10_feed_77
    rw [if_pos (by decide), bn_s]
theorem call_feed {n n' k : Nat} {f tp : Nat → Int32} {a b c d e th : Int32} (hn : 1000 ≤ n) (hn' : 1000 ≤ n') (h : TpR k f tp) :
    ∃ r k' f' tp', FX9_feed n f (nI k) a b c d e = some (r, f', nI k') ∧ FX10_feed n' th (nI k) tp a b c d e = some (r, 0, nI k', tp') ∧ TpR k' f' tp' := by
  have hk := h.1
  by_cases hlt : k + 20 ≤ 300
  · obtain ⟨n1, rfl⟩ : ∃ m, n' = m + 1 + 1 + 1 + 1 + 1 + 1 := ⟨n' - 6, by omega⟩
    obtain ⟨fa, ta, ra, pa, qa⟩ := put_lk (v := a) (th := 0) (x1 := a) (x2 := b) (x3 := c) (x4 := d) (x5 := e) (x6 := 0) (k23 := LX10_feed_23 (n1 + 5)) h (by omega)
    obtain ⟨fb, tb, rb, pb, qb⟩ := put_lk (v := b) (th := 0) (x1 := a) (x2 := b) (x3 := c) (x4 := d) (x5 := e) (x6 := 1) (k23 := LX10_feed_23 (n1 + 4)) ra (by omega)
    obtain ⟨fc, tc, rc, pc, qc⟩ := put_lk (v := c) (th := 0) (x1 := a) (x2 := b) (x3 := c) (x4 := d) (x5 := e) (x6 := 2) (k23 := LX10_feed_23 (n1 + 3)) rb (by omega)
    obtain ⟨fd, td, rd, pd, qd⟩ := put_lk (v := d) (th := 0) (x1 := a) (x2 := b) (x3 := c) (x4 := d) (x5 := e) (x6 := 3) (k23 := LX10_feed_23 (n1 + 2)) rc (by omega)
    obtain ⟨fe, te, re, pe, qe⟩ := put_lk (v := e) (th := 0) (x1 := a) (x2 := b) (x3 := c) (x4 := d) (x5 := e) (x6 := 4) (k23 := LX10_feed_23 (n1 + 1)) rd (by omega)
    refine ⟨nI (k + 4 + 4 + 4 + 4 + 4), k + 4 + 4 + 4 + 4 + 4, fe, te, ?_, ?_, re⟩
    · unfold FX9_feed FX5_hasRoom FX5_size
      rw [if_neg (show ¬ (300 - 20 : Int32) < nI k from nI_nlt (b := k) (a := 280) (by omega) (by omega)), ob1_s, ifo, pa n (by omega), ob2_s, pb n (by omega), ob2_s, pc n (by omega), ob2_s, pd n (by omega), ob2_s, pe n (by omega), ob2_s, ob1_s]
    · unfold FX10_feed
      rw [if_pos (show nI k + 20 ≤ (300 : Int32) from i_le.mpr (by rw [show nI k + 20 = nI (k + 20) from nI_add k 20, nI_toInt (by omega)]; have : (300 : Int32).toInt = 300 := rfl; omega))]
      unfold LX10_feed_23 JX10_feed_23
      rw [if_neg (by decide), if_pos rfl, qa _ (by omega)]
      unfold LX10_feed_23 JX10_feed_23
      rw [if_neg (by decide), if_neg (by decide), if_pos (by decide), show (0 + 1 : Int32) = 1 from rfl, qb _ (by omega)]
      unfold LX10_feed_23 JX10_feed_23
      rw [if_neg (by decide), if_neg (by decide), if_neg (by decide), if_pos (by decide), show (1 + 1 : Int32) = 2 from rfl, qc _ (by omega)]
      unfold LX10_feed_23 JX10_feed_23
      rw [if_neg (by decide), if_neg (by decide), if_neg (by decide), if_neg (by decide), if_pos (by decide), show (2 + 1 : Int32) = 3 from rfl, qd _ (by omega)]
      unfold LX10_feed_23 JX10_feed_23
      rw [if_neg (by decide), if_neg (by decide), if_neg (by decide), if_neg (by decide), if_neg (by decide), show (3 + 1 : Int32) = 4 from rfl, qe _ (by omega)]
      unfold LX10_feed_23 JX10_feed_23
      rw [if_pos (by decide)]
  · refine ⟨-1, k, f, tp, ?_, ?_, h⟩
    · unfold FX9_feed FX5_hasRoom
      rw [if_pos (show (300 - 20 : Int32) < nI k from i_lt.mpr (by rw [nI_toInt (by omega)]; have : (300 - 20 : Int32).toInt = 280 := rfl; omega)), ob1_s, ifz]
    · unfold FX10_feed
      rw [if_neg (fun h9 => by have := i_le.mp h9; rw [show nI k + 20 = nI (k + 20) from nI_add k 20, nI_toInt (by omega)] at this; have e3 : (300 : Int32).toInt = 300 := rfl; omega)]
