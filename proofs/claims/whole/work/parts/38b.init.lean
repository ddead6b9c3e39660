/-! a new object of both: pure -/
theorem init6 {n : Nat} {f : Nat → Int32} (hf : FJ7_fill_53178 n 300 (fun _ => 0) (-2000000000) = some f) : FX6_init n = some (f, f, f, f, f) := by
  unfold FX6_init FX2_init FX0_init FX1_init
  rw [hf]
  rfl
theorem init3 {n : Nat} : FX3_init n = some (fix (fun _ => 0)) := by
  unfold FX3_init
  rw [rreset_s, ob9_s]
theorem init9 : ∃ f : Nat → Int32, (∀ i, i < 300 → f i = -2000000000) ∧ FX9_init 3000 = some (f, f, f, f, f, f, f, f, f, f, f, f, f, f, f, fix (fun _ => 0), fix (fun _ => 0)) := by
  obtain ⟨f, hf, hv⟩ := fill_s (n := 3000) (N1 := 300) (v := -2000000000) (p := fun _ => 0) (by omega) (by omega)
  refine ⟨f, hv, ?_⟩
  unfold FX9_init FX4_init FX5_init FX7_init FX8_init
  rw [init6 hf, ob5_s, ob5_s, ob5_s, init3]
  rfl
theorem i242s {m j : Nat} {v : Int32} {f g : Nat → Int32} (hj : j < 9) (hf : FX10_firstIndex m (nI j) = some v) : LX10_init_242 (m + 1) f g (nI j) = LX10_init_242 m (upd f j v) g (nI (j + 1)) := by
  conv => { lhs; unfold LX10_init_242 JX10_init_242 }
  rw [if_neg (show ¬ (9 : Int32) ≤ nI j from nI_ge (a := j) (b := 9) (by omega) (by omega)), hf, ob1_s, gd_in (by omega) (by omega), bn_s, bn_s, nI_clamp (by omega), nI_1]
theorem i266 {y : Nat → Int32} : ∀ (d i n : Nat) (g : Nat → Int32), i + d = 900 → d + 1 ≤ n → ∃ g' : Nat → Int32, (∀ j, j < 900 → g' j = if i ≤ j then -2000000000 else g j) ∧ LX10_init_266 n y g (nI i) = some (y, g') := by
  intro d
  induction d with
  | zero =>
    intro i n g hi hn
    obtain ⟨n, rfl⟩ : ∃ m, n = m + 1 := ⟨n - 1, by omega⟩
    refine ⟨g, fun j hj => by rw [if_neg (by omega)], ?_⟩
    unfold LX10_init_266 JX10_init_266
    rw [if_pos (show (900 : Int32) ≤ nI i from nI_le (a := 900) (by omega) (by omega))]
  | succ d ih =>
    intro i n g hi hn
    obtain ⟨n, rfl⟩ : ∃ m, n = m + 1 := ⟨n - 1, by omega⟩
    obtain ⟨g', i1, i2⟩ := ih (i + 1) n (upd g i (-2000000000)) (by omega) (by omega)
    refine ⟨g', fun j hj => ?_, ?_⟩
    · rw [i1 j hj]
      by_cases c : i + 1 ≤ j
      · rw [if_pos c, if_pos (by omega)]
      · by_cases c2 : j = i
        · rw [if_neg c, c2, pk_us, if_pos (Nat.le_refl _)]
        · rw [if_neg c, pk_un c2, if_neg (by omega)]
    · conv => { lhs; unfold LX10_init_266 JX10_init_266 }
      rw [if_neg (show ¬ (900 : Int32) ≤ nI i from nI_ge (a := i) (b := 900) (by omega) (by omega)), gd_in (by omega) (by omega), bn_s, bn_s, nI_clamp (by omega), nI_1]
      exact i2
theorem init10 : ∃ g : Nat → Int32, (∀ i, i < 900 → g i = -2000000000) ∧ FX10_init 3000 = some (fix (fun _ => 0), g) := by
  obtain ⟨g, h1, h2⟩ := i266 (y := fix (fun _ => 0)) 900 0 2990 (fun _ => 0) (by omega) (by omega)
  refine ⟨g, fun i hi => by rw [h1 i hi, if_pos (Nat.zero_le _)], ?_⟩
  have e : LX10_init_242 (2990 + 1 + 1 + 1 + 1 + 1 + 1 + 1 + 1 + 1 + 1) (fun _ => 0) (fun _ => 0) (nI 0) = LX10_init_242 (2990 + 1) (fix (fun _ => 0)) (fun _ => 0) (nI 9) := by
    rw [i242s (j := 0) (v := 5) (by omega) rfl, i242s (j := 1) (v := 10) (by omega) rfl, i242s (j := 2) (v := 20) (by omega) rfl, i242s (j := 3) (v := 40) (by omega) rfl, i242s (j := 4) (v := 70) (by omega) rfl, i242s (j := 5) (v := 120) (by omega) rfl, i242s (j := 6) (v := 200) (by omega) rfl, i242s (j := 7) (v := 330) (by omega) rfl, i242s (j := 8) (v := 500) (by omega) rfl]
    rfl
  unfold FX10_init
  refine Eq.trans (show LX10_init_242 3000 (fun _ => 0) (fun _ => 0) 0 = _ from e) ?_
  conv => { lhs; unfold LX10_init_242 JX10_init_242 }
  rw [if_pos (by decide)]
  exact h2
/-- a new track -/
def ts0 (f : Nat → Int32) : TS := (f, 0, f, 0, (fun _ => 0), (fun _ => 0), (fun _ => 0), (fun _ => 0), 0, (fun _ => 0), (fun _ => 0), (fun _ => 0), 0, (fun _ => 0), (fun _ => 0), (fun _ => 0), (fun _ => 0), (fun _ => 0), 0, 0, 0, 0, 0, f, f, f, -1)
theorem ti0 {f g : Nat → Int32} {t : Nat} (ht : t < 3) (hf : ∀ i, i < 300 → f i = -2000000000) (hg : ∀ i, i < 900 → g i = -2000000000) : TI t (ts0 f) (fun _ => 0) (fun _ => 0) (fun _ => 0) (fun _ => 0) (fun _ => 0) (fun _ => 0) (fun _ => 0) g := by
  have row : ∀ r, RowR f 0 (fun _ => 0) (fun _ => 0) r 0 := fun r => ⟨by omega, rfl, rfl, fun i hi => by rw [if_neg (by omega)]; exact hf i hi, fun i hi => by omega⟩
  refine ⟨⟨0, row _⟩, ⟨0, row _⟩, ⟨0, by omega, rfl, rfl, fun i hi => by omega, fun i j _ hj => by omega⟩, fun i hi => ?_, fun i hi _ _ => ⟨hf i hi, hf i hi⟩, Or.inl rfl⟩
  rw [hg (300 * t + i) (by omega)]
  exact hf i hi
theorem it0 {f g : Nat → Int32} (hf : ∀ i, i < 300 → f i = -2000000000) (hg : ∀ i, i < 900 → g i = -2000000000) : IT (ts0 f) (ts0 f) (ts0 f) (fun _ => 0) (fun _ => 0) (fun _ => 0) (fun _ => 0) (fun _ => 0) (fun _ => 0) (fun _ => 0) g :=
  ⟨ti0 (by omega) hf hg, ti0 (by omega) hf hg, ti0 (by omega) hf hg⟩
theorem trn0 {f Fr To : Nat → Int32} (hf : ∀ i, f i = 0) : TrR 0 f Fr To := ⟨by omega, fun i hi => ⟨Or.inl (hf i), ⟨fun h => by rw [hf i] at h; exact absurd h (by decide), fun ⟨j, hj, _⟩ => by omega⟩⟩⟩
theorem tpe0 {f tp : Nat → Int32} : TpR 0 f tp := ⟨by omega, fun i hi => by omega⟩
