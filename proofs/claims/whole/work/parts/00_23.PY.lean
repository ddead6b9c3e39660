theorem call_index {n n' w k c : Nat} {x0 x1 x2 : TS} {R M Ms W Me Lf En Pb J F T P E fi lg f Fr To st ix I : Nat → Int32} {up dn he : Nat → Int64} {a b c' d : Int64} {nr sh so z p th pts pcs : Int32} (hn : 1000 ≤ n) (hn' : 1010 ≤ n') (hnr : 0 ≤ nr.toInt) (hw : 2 ≤ w) (hw2 : w ≤ 60) (hT : TrR k f Fr To) (hS : SpR c st ix) (h : IT x0 x1 x2 R M Ms W Me Lf En Pb) :
    ∃ r I' z' y0 y1 y2 pts' pcs' a' b' c'' d' J' F' T' P' E' fi' lg' up' dn' he', FX9_index n nr sh so (nI w) st (nI c) f I z x0 x1 x2 p = some (r, I', z', y0, y1, y2) ∧ FX10_index n' th pts pcs a b c' d nr sh so (nI w) (nI c) (nI k) R M J F W Me En Ms T P E fi lg up dn he ix Fr To p = some (r, 0, pts', pcs', a', b', c'', d', J', F', T', P', E', fi', lg', up', dn', he') ∧ IT y0 y1 y2 R M Ms W Me Lf En Pb := by
  obtain ⟨Tm, N, g, u0, u1, u2, hTm, hNe, hN, l1, l2, ⟨s1, s2, s3⟩, l4, l5, l6⟩ := lay_s (I := I) (z := z) (sh := sh) (so := so) hn hnr hw hw2 hT hS h
  have hwM := isWin_s (n := n') (w := w) (p := p) hTm hw hw2 (l4 n' (by omega))
  rw [hNe] at hwM
  obtain ⟨pts2, pcs2, a2, b2, c2, d2, J2, F2, T2, P2, E2, fi2, lg2, up2, dn2, he2, q1, q2⟩ := l6 n' pts pcs a b c' d J F T P E fi lg up dn he hn'
  by_cases hv : 0 ≤ p.toInt ∧ p.toInt < N
  · obtain ⟨i, hi, rfl⟩ := of_lt (x := p) (N := N) (by omega) hv.2 (by omega)
    refine ⟨g i, g, nI N, u0, u1, u2, pts2, pcs2, a2, b2, c2, d2, J2, F2, T2, P2, E2, fi2, lg2, up2, dn2, he2, ?_, ?_, l2⟩
    · unfold FX9_index FX8_indexOf
      rw [l1, ob5_s, if_neg (fun h9 => by have := i_lt.mp h9; rw [nI_toInt (by omega), t_0] at this; omega), if_pos (i_lt.mpr (by rw [nI_toInt (by omega), nI_toInt (by omega)]; omega)), gd_in (by omega) (by omega), nI_clamp (by omega), ob1_s, eta25 s1, eta25 s2, eta25 s3]
    · unfold FX10_index
      rw [hwM, if_pos hv, ob1_s, ifo, q1, ob16_s, q2 n' (by omega) i hi, ob1_s]
  · refine ⟨-1, g, nI N, u0, u1, u2, pts, pcs, a, b, c', d, J, F, T, P, E, fi, lg, up, dn, he, ?_, ?_, l2⟩
    · unfold FX9_index FX8_indexOf
      rw [l1, ob5_s]
      by_cases c0 : p < 0
      · rw [if_pos c0, ob1_s, eta25 s1, eta25 s2, eta25 s3]
      · have := mt i_lt.mpr c0
        rw [t_0] at this
        rw [if_neg c0, if_neg (fun h9 => by have := i_lt.mp h9; rw [nI_toInt (by omega)] at this; omega), ob1_s, eta25 s1, eta25 s2, eta25 s3]
    · unfold FX10_index
      rw [hwM, if_neg hv, ob1_s, ifz]
/-- a stormy window -/
def stm (g : Nat → Int32) (N : Nat) (sto : Int32) (i : Nat) : Prop := i < N ∧ sto.toInt ≤ (g i).toInt
theorem ixO_s {n N i : Nat} {g : Nat → Int32} (hN : N ≤ 150) (hi : i < 2 ^ 31) : FX8_indexOf n (nI N) g (nI i) = some (if i < N then g i else -1) := by
  unfold FX8_indexOf
  rw [if_neg (fun h9 => by have := i_lt.mp h9; rw [nI_toInt (by omega), t_0] at this; omega)]
  by_cases c : i < N
  · rw [if_pos (i_lt.mpr (by rw [nI_toInt (by omega), nI_toInt (by omega)]; omega)), gd_in (by omega) (by omega), nI_clamp (by omega), if_pos c]
  · rw [if_neg (fun h9 => by have := i_lt.mp h9; rw [nI_toInt (by omega), nI_toInt (by omega)] at this; omega), if_neg c]
/-- the length of the run of stormy windows from i on, looked at d windows far -/
noncomputable def run (g : Nat → Int32) (N : Nat) (sto : Int32) : Nat → Nat → Nat
  | 0, _ => 0
  | d + 1, i => @ite Nat (stm g N sto i) (Classical.propDecidable _) (run g N sto d (i + 1) + 1) 0
theorem run_p {g : Nat → Int32} {N d i : Nat} {sto : Int32} (h : stm g N sto i) : run g N sto (d + 1) i = run g N sto d (i + 1) + 1 := by conv => { lhs; unfold run }; rw [if_pos h]
theorem run_n {g : Nat → Int32} {N d i : Nat} {sto : Int32} (h : ¬ stm g N sto i) : run g N sto (d + 1) i = 0 := by conv => { lhs; unfold run }; rw [if_neg h]
theorem run_le {g : Nat → Int32} {N : Nat} {sto : Int32} : ∀ d i, i ≤ N → i + run g N sto d i ≤ N := by
  intro d
  induction d with
  | zero => intro i hi; exact hi
  | succ d ih =>
    intro i hi
    by_cases h : stm g N sto i
    · rw [run_p h]; have := ih (i + 1) (by have := h.1; omega); omega
    · rw [run_n h]; omega
theorem run_i {g : Nat → Int32} {N : Nat} {sto : Int32} : ∀ d d' i, N - i ≤ d → N - i ≤ d' → run g N sto d i = run g N sto d' i := by
  intro d
  induction d with
  | zero =>
    intro d' i h1 h2
    have hn : ¬ stm g N sto i := fun h => by have := h.1; omega
    cases d' with
    | zero => rfl
    | succ d' => rw [run_n hn]; rfl
  | succ d ih =>
    intro d' i h1 h2
    by_cases h : stm g N sto i
    · have := h.1
      obtain ⟨e, rfl⟩ : ∃ e, d' = e + 1 := ⟨d' - 1, by omega⟩
      rw [run_p h, run_p h, ih e (i + 1) (by omega) (by omega)]
    · rw [run_n h]
      cases d' with
      | zero => rfl
      | succ d' => rw [run_n h]
theorem sLen_L {N s : Nat} {g : Nat → Int32} {sto : Int32} (hN : N ≤ 150) (hs : s < N) (h0 : 0 ≤ sto.toInt) : ∀ d n m, m ≤ N → N - m ≤ d → d + 1 ≤ n → LX8_stormLength_2 n (nI N) g (nI s) sto (nI m) = some (nI (m + run g N sto (N - m) (s + m))) := by
  intro d
  induction d with
  | zero =>
    intro n m hm hd hn
    obtain ⟨n, rfl⟩ : ∃ m, n = m + 1 := ⟨n - 1, by omega⟩
    have : m = N := by omega
    subst this
    unfold LX8_stormLength_2 JX8_stormLength_2
    rw [if_pos (Int32.le_refl _), Nat.sub_self]; rfl
  | succ d ih =>
    intro n m hm hd hn
    obtain ⟨n, rfl⟩ : ∃ m, n = m + 1 := ⟨n - 1, by omega⟩
    by_cases e : m = N
    · subst e
      unfold LX8_stormLength_2 JX8_stormLength_2
      rw [if_pos (Int32.le_refl _), Nat.sub_self]; rfl
    · unfold LX8_stormLength_2 JX8_stormLength_2
      rw [if_neg (by rw [nI_le' (by omega) (by omega)]; omega), nI_add, ixO_s hN (by omega), ob1_s]
      obtain ⟨r, hr⟩ : ∃ r, N - m = r + 1 := ⟨N - m - 1, by omega⟩
      by_cases h : stm g N sto (s + m)
      · rw [if_pos h.1, if_neg (fun h9 => by have := i_lt.mp h9; have := h.2; omega), bn_s, nI_1, ih n (m + 1) (by omega) (by omega) (by omega), hr, run_p h, show N - (m + 1) = r by omega, show s + m + 1 = s + (m + 1) by omega]
        congr 2; omega
      · have : (if s + m < N then g (s + m) else -1) < sto := by
          by_cases c : s + m < N
          · rw [if_pos c]; exact i_lt.mpr (by by_cases c2 : sto.toInt ≤ (g (s + m)).toInt; exact absurd ⟨c, c2⟩ h; omega)
          · rw [if_neg c]; exact i_lt.mpr (by rw [m1_t]; omega)
        rw [if_pos this, hr, run_n h]; rfl
theorem sLen_s {n N s : Nat} {g : Nat → Int32} {sto : Int32} (hN : N ≤ 150) (hs : s < N) (h0 : 0 ≤ sto.toInt) (hn : 200 ≤ n) : FX8_stormLength n (nI N) g (nI s) sto = some (nI (run g N sto N s)) := by
  have := sLen_L (g := g) hN hs h0 N n 0 (by omega) (by omega) (by omega)
  rw [Nat.zero_add, Nat.sub_zero, Nat.add_zero] at this
  exact this
theorem isSt_s {n N i c k : Nat} {sh so w sto : Int32} {g F ix Fr To : Nat → Int32} (h0 : 0 ≤ sto.toInt) (hi : i < N) (hg : ∀ i, i < N → ixd (g i)) (hx : FX10_indexOf n sh so w (nI c) (nI k) F ix Fr To (nI i) = some (g i)) : (stm g N sto i → FX10_isStorm n sh so w sto (nI c) (nI k) F ix Fr To (nI i) = some 1) ∧ (¬ stm g N sto i → FX10_isStorm n sh so w sto (nI c) (nI k) F ix Fr To (nI i) = some 0) := by
  unfold FX10_isStorm
  rw [hx, ob1_s]
  refine ⟨fun h => ?_, fun h => ?_⟩
  · have := h.2
    rw [if_neg (fun h9 => by have := i_lt.mp h9; rw [t_0] at this; omega), if_neg (fun h9 => by have := i_lt.mp h9; omega)]
  · have h2 : ¬ sto.toInt ≤ (g i).toInt := fun h9 => h ⟨hi, h9⟩
    by_cases c : g i < 0
    · rw [if_pos c]
    · rw [if_neg c, if_pos (i_lt.mpr (by omega))]
theorem st63_L {N c k s : Nat} {k49 : Int32 → Int32 → Int32 → Int64 → Int64 → Int64 → Int64 → Int32 → Int32 → Int32 → Int32 → Int32 → Int32 → Int32 → (Nat → Int32) → (Nat → Int32) → (Nat → Int32) → (Nat → Int32) → (Nat → Int32) → (Nat → Int32) → (Nat → Int32) → (Nat → Int32) → (Nat → Int32) → (Nat → Int32) → (Nat → Int32) → (Nat → Int32) → (Nat → Int32) → (Nat → Int64) → (Nat → Int64) → (Nat → Int64) → (Nat → Int32) → (Nat → Int32) → (Nat → Int32) → Int32 → Int32 → Int32 → Int32 → Int32 → Option (Int32 × Int32 × Int32 × Int32 × Int64 × Int64 × Int64 × Int64 × (Nat → Int32) × (Nat → Int32) × (Nat → Int32) × (Nat → Int32) × (Nat → Int32) × (Nat → Int32) × (Nat → Int32) × (Nat → Int64) × (Nat → Int64) × (Nat → Int64))}
    {th pts pcs nr sh so w sto p q x4 : Int32} {a b c' d' : Int64} {R M J F W Me En Ms T P E fi lg ix Fr To g : Nat → Int32} {up dn he : Nat → Int64} (hN : N ≤ 150) (h0 : 0 ≤ sto.toInt) (hg : ∀ i, i < N → ixd (g i)) (hx : ∀ m, 300 ≤ m → ∀ i, i < N → FX10_indexOf m sh so w (nI c) (nI k) F ix Fr To (nI i) = some (g i)) :
    ∀ d n m, m ≤ N → N - m ≤ d → d + 301 ≤ n → ∃ n', LX10_storm_63 k49 n th pts pcs a b c' d' nr sh so w sto (nI c) (nI k) R M J F W Me En Ms T P E fi lg up dn he ix Fr To p q (nI N) x4 (nI s) (nI m) = JX10_storm_84 k49 n' th pts pcs a b c' d' nr sh so w sto (nI c) (nI k) R M J F W Me En Ms T P E fi lg up dn he ix Fr To p q (nI N) x4 (nI s) (nI (m + run g N sto (N - m) m)) := by
  intro d
  induction d with
  | zero =>
    intro n m hm hd hn
    obtain ⟨n, rfl⟩ : ∃ m, n = m + 1 := ⟨n - 1, by omega⟩
    have : m = N := by omega
    subst this
    refine ⟨n, ?_⟩
    unfold LX10_storm_63 JX10_storm_63
    rw [if_pos (Int32.le_refl _), Nat.sub_self]; rfl
  | succ d ih =>
    intro n m hm hd hn
    obtain ⟨n, rfl⟩ : ∃ m, n = m + 1 := ⟨n - 1, by omega⟩
    by_cases e : m = N
    · subst e
      refine ⟨n, ?_⟩
      unfold LX10_storm_63 JX10_storm_63
      rw [if_pos (Int32.le_refl _), Nat.sub_self]; rfl
    · obtain ⟨r, hr⟩ : ∃ r, N - m = r + 1 := ⟨N - m - 1, by omega⟩
      have his := isSt_s (sto := sto) (n := n) h0 (show m < N by omega) hg (hx n (by omega) m (by omega))
      by_cases h : stm g N sto m
      · obtain ⟨n', i1⟩ := ih n (m + 1) (by omega) (by omega) (by omega)
        refine ⟨n', ?_⟩
        rw [hr, run_p h, show m + (run g N sto r (m + 1) + 1) = m + 1 + run g N sto (N - (m + 1)) (m + 1) by rw [show N - (m + 1) = r by omega]; omega, ← i1]
        conv => lhs; unfold LX10_storm_63 JX10_storm_63
        rw [if_neg (by rw [nI_le' (by omega) (by omega)]; omega), his.1 h, ob1_s, ifo, bn_s, nI_1]
      · refine ⟨n, ?_⟩
        rw [hr, run_n h]
        conv => lhs; unfold LX10_storm_63 JX10_storm_63
        rw [if_neg (by rw [nI_le' (by omega) (by omega)]; omega), his.2 h, ob1_s, ifz]
        rfl
