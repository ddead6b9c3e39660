theorem xor_s32 {x d : Int32} (hd : 0 < d.toInt) : 0 ≤ (x ^^^ d).toInt ↔ 0 ≤ x.toInt := by
  have e : (x ^^^ d).toInt < 0 ↔ x.toInt < 0 := by
    have h1 : (x ^^^ d).toBitVec.msb = (x.toBitVec.msb ^^ d.toBitVec.msb) := by
      rw [show (x ^^^ d).toBitVec = x.toBitVec ^^^ d.toBitVec from rfl, BitVec.msb_xor]
    rw [BitVec.msb_eq_toInt, BitVec.msb_eq_toInt, BitVec.msb_eq_toInt] at h1
    rw [show (x ^^^ d).toBitVec.toInt = (x ^^^ d).toInt from rfl, show x.toBitVec.toInt = x.toInt from rfl, show d.toBitVec.toInt = d.toInt from rfl] at h1
    rw [show decide (d.toInt < 0) = false from decide_eq_false (by omega), Bool.xor_false] at h1
    exact decide_eq_decide.mp h1
  omega
theorem xor_s64 {x d : Int64} (hd : 0 < d.toInt) : 0 ≤ (x ^^^ d).toInt ↔ 0 ≤ x.toInt := by
  have e : (x ^^^ d).toInt < 0 ↔ x.toInt < 0 := by
    have h1 : (x ^^^ d).toBitVec.msb = (x.toBitVec.msb ^^ d.toBitVec.msb) := by
      rw [show (x ^^^ d).toBitVec = x.toBitVec ^^^ d.toBitVec from rfl, BitVec.msb_xor]
    rw [BitVec.msb_eq_toInt, BitVec.msb_eq_toInt, BitVec.msb_eq_toInt] at h1
    rw [show (x ^^^ d).toBitVec.toInt = (x ^^^ d).toInt from rfl, show x.toBitVec.toInt = x.toInt from rfl, show d.toBitVec.toInt = d.toInt from rfl] at h1
    rw [show decide (d.toInt < 0) = false from decide_eq_false (by omega), Bool.xor_false] at h1
    exact decide_eq_decide.mp h1
  omega
/-- floor out of the division that cuts -/
theorem fl_pos {x d : Int} (h : 0 ≤ x) : x.tdiv d = x / d := Int.tdiv_eq_ediv_of_nonneg h
theorem fl_neg {x d : Int} (hd : 0 < d) (h : x < 0) : (x.tdiv d * d = x → x / d = x.tdiv d) ∧ (¬ x.tdiv d * d = x → x / d = x.tdiv d - 1) ∧ x ≤ x.tdiv d ∧ x.tdiv d ≤ 0 ∧ x ≤ x.tdiv d * d ∧ x.tdiv d * d ≤ 0 := by
  have e : x.tdiv d = -((-x) / d) := by
    rw [← Int.tdiv_eq_ediv_of_nonneg (by omega : 0 ≤ -x), Int.neg_tdiv, Int.neg_neg]
  have h1 := Int.mul_ediv_add_emod (-x) d
  have h2 := Int.emod_nonneg (-x) (show d ≠ 0 by omega)
  have h3 := Int.emod_lt_of_pos (-x) hd
  have h4 : 0 ≤ (-x) / d := Int.ediv_nonneg (by omega) (by omega)
  have h5 : (-x) / d ≤ -x := Int.ediv_le_self _ (by omega)
  generalize hq : (-x) / d = q at *
  generalize hr : (-x) % d = r at *
  rw [e]
  have h6 : -q * d = - (d * q) := by rw [Int.neg_mul, Int.mul_comm]
  rw [h6]
  have h7 : 0 ≤ d * q := Int.mul_nonneg (by omega) h4
  refine ⟨fun h => ?_, fun h => ?_, by omega, by omega, by omega, by omega⟩
  · rw [show x = -q * d by omega, Int.mul_ediv_cancel _ (by omega)]
  · have hm : (-q - 1) * d = - (d * q) - d := by rw [Int.sub_mul, h6]; omega
    have := Int.ediv_emod_unique (a := x) (r := d - r) (q := -q - 1) hd
    refine (this.mpr ⟨?_, by omega, by omega⟩).1
    rw [Int.mul_comm d, hm]; omega
theorem fdiv32 {n : Nat} {x d : Int32} (hd : 0 < d.toInt) : ∃ y, FJ9_floorDiv_7cf53 n x d = some y ∧ y.toInt = x.toInt / d.toInt := by
  unfold FJ9_floorDiv_7cf53
  have hx1 := Int32.le_toInt x
  have hx2 := Int32.toInt_lt x
  rw [gd_t (fun e => by rw [e] at hd; exact absurd hd (by decide)), bn_s]
  by_cases h : 0 ≤ x.toInt
  · rw [if_pos (i_le.mpr (by rw [t_0]; exact (xor_s32 hd).mpr h))]
    refine ⟨_, rfl, ?_⟩
    rw [Int32.toInt_div, fl_pos h]
    have h4 : 0 ≤ x.toInt / d.toInt := Int.ediv_nonneg h (by omega)
    have h5 : x.toInt / d.toInt ≤ x.toInt := Int.ediv_le_self _ h
    exact Int.bmod_eq_of_le (by omega) (by omega)
  · rw [if_neg (fun h9 => h ((xor_s32 hd).mp (by have := i_le.mp h9; rw [t_0] at this; exact this)))]
    obtain ⟨h1, h2, h3, h4, h5, h6⟩ := fl_neg hd (show x.toInt < 0 by omega)
    have e : (x / d).toInt = x.toInt.tdiv d.toInt := by
      rw [Int32.toInt_div]; exact Int.bmod_eq_of_le (by omega) (by omega)
    have e2 : (x / d * d).toInt = x.toInt.tdiv d.toInt * d.toInt := by
      rw [Int32.toInt_mul, e]; exact Int.bmod_eq_of_le (by omega) (by omega)
    by_cases h7 : x / d * d = x
    · rw [if_pos h7]
      exact ⟨_, rfl, by rw [e, h1 (by rw [← e2, h7])]⟩
    · rw [if_neg h7]
      refine ⟨_, rfl, ?_⟩
      rw [h2 (fun h9 => h7 (i_eq.mpr (by rw [e2, h9])))]
      rw [sub_t] <;> rw [e, t_1]
      · have : x.toInt.tdiv d.toInt ≠ x.toInt ∨ ¬ x.toInt = -2147483648 := by
          by_cases h8 : x.toInt.tdiv d.toInt = x.toInt
          · refine Or.inr (fun h9 => ?_)
            have hd1 : d.toInt = 1 := by
              rw [h8, h9] at h5; omega
            exact h7 (i_eq.mpr (by rw [e2, h8, hd1]; omega))
          · exact Or.inl h8
        omega
      · omega
theorem l_lt {a b : Int64} : a < b ↔ a.toInt < b.toInt := Int64.lt_iff_toInt_lt
theorem l_le {a b : Int64} : a ≤ b ↔ a.toInt ≤ b.toInt := Int64.le_iff_toInt_le
theorem l_eq {a b : Int64} : a = b ↔ a.toInt = b.toInt := Int64.toInt_inj.symm
theorem cmp3 (a b : Int64) : (b.toInt < a.toInt ∧ lg_cmp a b = 1) ∨ (a = b ∧ lg_cmp a b = 0) ∨ (a.toInt < b.toInt ∧ lg_cmp a b = -1) := by
  unfold lg_cmp
  by_cases h : a > b
  · rw [if_pos h]; exact Or.inl ⟨l_lt.mp h, rfl⟩
  · rw [if_neg h]
    by_cases e : a = b
    · rw [if_pos e]; exact Or.inr (Or.inl ⟨e, rfl⟩)
    · rw [if_neg e]
      have h1 := mt l_lt.mpr h
      have h2 := mt l_eq.mpr e
      exact Or.inr (Or.inr ⟨by omega, rfl⟩)
theorem cmp_ge {a b : Int64} : 0 ≤ lg_cmp a b ↔ b.toInt ≤ a.toInt := by
  rcases cmp3 a b with ⟨h, e⟩ | ⟨h, e⟩ | ⟨h, e⟩ <;> rw [e]
  · exact ⟨fun _ => by omega, fun _ => by decide⟩
  · subst h; exact ⟨fun _ => by omega, fun _ => by decide⟩
  · exact ⟨fun h9 => absurd h9 (by decide), fun _ => by omega⟩
theorem cmp_le {a b : Int64} : lg_cmp a b ≤ 0 ↔ a.toInt ≤ b.toInt := by
  rcases cmp3 a b with ⟨h, e⟩ | ⟨h, e⟩ | ⟨h, e⟩ <;> rw [e]
  · exact ⟨fun h9 => absurd h9 (by decide), fun _ => by omega⟩
  · subst h; exact ⟨fun _ => by omega, fun _ => by decide⟩
  · exact ⟨fun _ => by omega, fun _ => by decide⟩
theorem cmp_gt {a b : Int64} : 0 < lg_cmp a b ↔ b.toInt < a.toInt := by
  rcases cmp3 a b with ⟨h, e⟩ | ⟨h, e⟩ | ⟨h, e⟩ <;> rw [e]
  · exact ⟨fun _ => by omega, fun _ => by decide⟩
  · subst h; exact ⟨fun h9 => absurd h9 (by decide), fun _ => by omega⟩
  · exact ⟨fun h9 => absurd h9 (by decide), fun _ => by omega⟩
theorem cmp_lt {a b : Int64} : lg_cmp a b < 0 ↔ a.toInt < b.toInt := by
  rcases cmp3 a b with ⟨h, e⟩ | ⟨h, e⟩ | ⟨h, e⟩ <;> rw [e]
  · exact ⟨fun h9 => absurd h9 (by decide), fun _ => by omega⟩
  · subst h; exact ⟨fun h9 => absurd h9 (by decide), fun _ => by omega⟩
  · exact ⟨fun _ => by omega, fun _ => by decide⟩
theorem cmp_eq {a b : Int64} : lg_cmp a b = 0 ↔ a = b := by
  rcases cmp3 a b with ⟨h, e⟩ | ⟨h, e⟩ | ⟨h, e⟩ <;> rw [e]
  · exact ⟨fun h9 => absurd h9 (by decide), fun h9 => by rw [h9] at h; omega⟩
  · exact ⟨fun _ => h, fun _ => rfl⟩
  · exact ⟨fun h9 => absurd h9 (by decide), fun h9 => by rw [h9] at h; omega⟩
theorem t64_0 : (0 : Int64).toInt = 0 := by decide
theorem t64_1 : (1 : Int64).toInt = 1 := by decide
theorem sub64 {a b : Int64} (h1 : -9223372036854775808 ≤ a.toInt - b.toInt) (h2 : a.toInt - b.toInt ≤ 9223372036854775807) : (a - b).toInt = a.toInt - b.toInt := by
  rw [Int64.toInt_sub]; exact Int.bmod_eq_of_le (by omega) (by omega)
theorem add64 {a b : Int64} (h1 : -9223372036854775808 ≤ a.toInt + b.toInt) (h2 : a.toInt + b.toInt ≤ 9223372036854775807) : (a + b).toInt = a.toInt + b.toInt := by
  rw [Int64.toInt_add]; exact Int.bmod_eq_of_le (by omega) (by omega)
theorem mul64 {a b : Int64} (h1 : -9223372036854775808 ≤ a.toInt * b.toInt) (h2 : a.toInt * b.toInt ≤ 9223372036854775807) : (a * b).toInt = a.toInt * b.toInt := by
  rw [Int64.toInt_mul]; exact Int.bmod_eq_of_le (by omega) (by omega)
theorem fdiv64 {n : Nat} {x d : Int64} (hd : 0 < d.toInt) (hx : -4611686018427387904 ≤ x.toInt) : ∃ y, FJ9_floorDiv_f86c9 n x d = some y ∧ y.toInt = x.toInt / d.toInt := by
  unfold FJ9_floorDiv_f86c9
  have hx2 := Int64.toInt_lt x
  rw [gd_t (fun e => by rw [e] at hd; exact absurd hd (by decide)), bn_s]
  by_cases h : 0 ≤ x.toInt
  · rw [if_pos (cmp_ge.mpr (by rw [t64_0]; exact (xor_s64 hd).mpr h))]
    refine ⟨_, rfl, ?_⟩
    rw [Int64.toInt_div, fl_pos h]
    have h4 : 0 ≤ x.toInt / d.toInt := Int.ediv_nonneg h (by omega)
    have h5 : x.toInt / d.toInt ≤ x.toInt := Int.ediv_le_self _ h
    exact Int.bmod_eq_of_le (by omega) (by omega)
  · rw [if_neg (fun h9 => h ((xor_s64 hd).mp (by have := cmp_ge.mp h9; rw [t64_0] at this; exact this)))]
    obtain ⟨h1, h2, h3, h4, h5, h6⟩ := fl_neg hd (show x.toInt < 0 by omega)
    have e : (x / d).toInt = x.toInt.tdiv d.toInt := by
      rw [Int64.toInt_div]; exact Int.bmod_eq_of_le (by omega) (by omega)
    have e2 : (x / d * d).toInt = x.toInt.tdiv d.toInt * d.toInt := by
      rw [Int64.toInt_mul, e]; exact Int.bmod_eq_of_le (by omega) (by omega)
    by_cases h7 : x / d * d = x
    · rw [if_pos (cmp_eq.mpr h7)]
      exact ⟨_, rfl, by rw [e, h1 (by rw [← e2, h7])]⟩
    · rw [if_neg (fun h9 => h7 (cmp_eq.mp h9))]
      refine ⟨_, rfl, ?_⟩
      rw [h2 (fun h9 => h7 (l_eq.mpr (by rw [e2, h9])))]
      rw [sub64] <;> rw [e, t64_1] <;> omega
theorem floor64 {n : Nat} {x d : Int64} (hd : 0 < d.toInt) (hx : -4611686018427387904 ≤ x.toInt) : ∃ y, FX10_floor n x d = some y ∧ y.toInt = x.toInt / d.toInt := by
  unfold FX10_floor
  have hx2 := Int64.toInt_lt x
  rw [gd_t (fun e => by rw [e] at hd; exact absurd hd (by decide)), bn_s, gd_t (fun e => by rw [e] at hd; exact absurd hd (by decide))]
  by_cases h : 0 ≤ x.toInt
  · have h4 : 0 ≤ x.toInt / d.toInt := Int.ediv_nonneg h (by omega)
    have h5 : x.toInt / d.toInt ≤ x.toInt := Int.ediv_le_self _ h
    have e : (x / d).toInt = x.toInt / d.toInt := by
      rw [Int64.toInt_div, fl_pos h]; exact Int.bmod_eq_of_le (by omega) (by omega)
    have h6 := Int.mul_ediv_add_emod x.toInt d.toInt
    have h7 := Int.emod_nonneg x.toInt (show d.toInt ≠ 0 by omega)
    have h8 : 0 ≤ d.toInt * (x.toInt / d.toInt) := Int.mul_nonneg (by omega) h4
    have e2 : (x / d * d).toInt = x.toInt / d.toInt * d.toInt := by
      rw [Int64.toInt_mul, e, Int.mul_comm]; exact Int.bmod_eq_of_le (by omega) (by omega)
    have e3 : (x - x / d * d).toInt = x.toInt - x.toInt / d.toInt * d.toInt := by
      rw [sub64] <;> rw [e2, Int.mul_comm] <;> omega
    rw [if_pos (cmp_ge.mpr (by rw [t64_0, e3, Int.mul_comm]; omega))]
    exact ⟨_, rfl, e⟩
  · obtain ⟨h1, h2, h3, h4, h5, h6⟩ := fl_neg hd (show x.toInt < 0 by omega)
    have e : (x / d).toInt = x.toInt.tdiv d.toInt := by
      rw [Int64.toInt_div]; exact Int.bmod_eq_of_le (by omega) (by omega)
    have e2 : (x / d * d).toInt = x.toInt.tdiv d.toInt * d.toInt := by
      rw [Int64.toInt_mul, e]; exact Int.bmod_eq_of_le (by omega) (by omega)
    have e3 : (x - x / d * d).toInt = x.toInt - x.toInt.tdiv d.toInt * d.toInt := by
      rw [sub64] <;> rw [e2] <;> omega
    by_cases h7 : x.toInt.tdiv d.toInt * d.toInt = x.toInt
    · rw [if_pos (cmp_ge.mpr (by rw [t64_0, e3]; omega))]
      exact ⟨_, rfl, by rw [e, h1 h7]⟩
    · rw [if_neg (fun h9 => h7 (by have := cmp_ge.mp h9; rw [t64_0, e3] at this; omega))]
      refine ⟨_, rfl, ?_⟩
      rw [h2 h7]
      rw [sub64] <;> rw [e, t64_1] <;> omega
