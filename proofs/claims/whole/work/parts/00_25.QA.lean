/-- how many windows ahead of i have the index v -/
def cq (g : Nat → Int32) (v : Nat) : Nat → Nat
  | 0 => 0
  | i + 1 => cq g v i + if g i = nI v then 1 else 0
/-- how many of the first N have an index below v -/
def cs (g : Nat → Int32) (N : Nat) : Nat → Nat
  | 0 => 0
  | v + 1 => cs g N v + cq g v N
theorem cq_le {g : Nat → Int32} {v : Nat} : ∀ i, cq g v i ≤ i
  | 0 => Nat.le_refl _
  | i + 1 => by
    have := cq_le (g := g) (v := v) i
    unfold cq
    by_cases h : g i = nI v
    · rw [if_pos h]; omega
    · rw [if_neg h]; omega
theorem cs_le {g : Nat → Int32} {N : Nat} : ∀ v, cs g N v ≤ N * v
  | 0 => Nat.zero_le _
  | v + 1 => by
    have := cs_le (g := g) (N := N) v
    have h2 := cq_le (g := g) (v := v) N
    unfold cs
    rw [Nat.mul_succ]; omega
theorem cq_mono {g : Nat → Int32} {v : Nat} : ∀ j i, i ≤ j → cq g v i ≤ cq g v j := by
  intro j
  induction j with
  | zero => intro i h; rw [show i = 0 by omega]; exact Nat.le_refl _
  | succ j ih =>
    intro i h
    by_cases e : i = j + 1
    · rw [e]; exact Nat.le_refl _
    · have := ih i (by omega)
      conv => rhs; unfold cq
      omega
theorem cs_mono {g : Nat → Int32} {N : Nat} : ∀ v u, u ≤ v → cs g N u ≤ cs g N v := by
  intro v
  induction v with
  | zero => intro u h; rw [show u = 0 by omega]; exact Nat.le_refl _
  | succ v ih =>
    intro u h
    by_cases e : u = v + 1
    · rw [e]; exact Nat.le_refl _
    · have := ih u (by omega)
      conv => rhs; unfold cs
      omega
theorem cq_lt {g : Nat → Int32} {v i j : Nat} (h : g i = nI v) (hij : i < j) : cq g v i < cq g v j := by
  have h1 : cq g v (i + 1) = cq g v i + 1 := by conv => { lhs; unfold cq }; rw [if_pos h]
  have := cq_mono (g := g) (v := v) j (i + 1) (by omega)
  omega
theorem rank_inj {g : Nat → Int32} {N v v' i i' : Nat} (hi : i < N) (hi' : i' < N) (h : g i = nI v) (h' : g i' = nI v') (e : cs g N v + cq g v i = cs g N v' + cq g v' i') : i = i' := by
  rcases Nat.lt_trichotomy v v' with c | c | c
  · have h1 := cq_lt h hi
    have h2 := cs_mono (g := g) (N := N) v' (v + 1) (by omega)
    have h3 : cs g N (v + 1) = cs g N v + cq g v N := rfl
    omega
  · subst c
    rcases Nat.lt_trichotomy i i' with c | c | c
    · have := cq_lt h c; omega
    · exact c
    · have := cq_lt h' c; omega
  · have h1 := cq_lt h' hi'
    have h2 := cs_mono (g := g) (N := N) v (v' + 1) (by omega)
    have h3 : cs g N (v' + 1) = cs g N v' + cq g v' N := rfl
    omega
/-- the window at the place p in the order of quiet -/
def Hit (g : Nat → Int32) (N : Nat) (p : Int32) (v i : Nat) : Prop := i < N ∧ g i = nI v ∧ nI (cs g N v + cq g v i) = p
theorem qw_in {N v : Nat} {g : Nat → Int32} {p : Int32} {k4 : Int32 → (Nat → Int32) → Int32 → Int32 → Int32 → Option Int32} (hN : N ≤ 150) (hv : v ≤ 9) : ∀ d n i, i ≤ N → N - i ≤ d → d + 1 ≤ n →
    (∃ i', i ≤ i' ∧ Hit g N p v i' ∧ LX8_quietWindow_13 k4 n (nI N) g p (nI (cs g N v + cq g v i)) (nI v) (nI i) = some (nI i')) ∨ ((∀ i', i ≤ i' → ¬ Hit g N p v i') ∧ LX8_quietWindow_13 k4 n (nI N) g p (nI (cs g N v + cq g v i)) (nI v) (nI i) = k4 (nI N) g p (nI (cs g N (v + 1))) (nI (v + 1))) := by
  have hcs := cs_le (g := g) (N := N) v
  have hm : N * v ≤ 150 * 9 := Nat.mul_le_mul hN hv
  intro d
  induction d with
  | zero =>
    intro n i hi hd hn
    obtain ⟨n, rfl⟩ : ∃ m, n = m + 1 := ⟨n - 1, by omega⟩
    have : i = N := by omega
    subst this
    refine Or.inr ⟨fun i' h1 h2 => by have := h2.1; omega, ?_⟩
    unfold LX8_quietWindow_13 JX8_quietWindow_13
    rw [if_pos (Int32.le_refl _), bn_s, nI_1]; rfl
  | succ d ih =>
    intro n i hi hd hn
    obtain ⟨n, rfl⟩ : ∃ m, n = m + 1 := ⟨n - 1, by omega⟩
    unfold LX8_quietWindow_13 JX8_quietWindow_13
    by_cases e : i = N
    · subst e
      refine Or.inr ⟨fun i' h1 h2 => by have := h2.1; omega, ?_⟩
      rw [if_pos (Int32.le_refl _), bn_s, nI_1]; rfl
    · have hq := cq_le (g := g) (v := v) i
      rw [if_neg (by rw [nI_le' (by omega) (by omega)]; omega), gd_in (by omega) (by omega), nI_clamp (by omega)]
      have i1 := ih n (i + 1) (by omega) (by omega) (by omega)
      by_cases c : g i = nI v
      · have eq1 : cq g v (i + 1) = cq g v i + 1 := by conv => { lhs; unfold cq }; rw [if_pos c]
        rw [if_pos c]
        by_cases c2 : nI (cs g N v + cq g v i) = p
        · rw [if_pos c2]
          exact Or.inl ⟨i, Nat.le_refl _, ⟨by omega, c, c2⟩, rfl⟩
        · rw [if_neg c2, bn_s, bn_s, nI_1, nI_1, show cs g N v + cq g v i + 1 = cs g N v + cq g v (i + 1) by omega]
          rcases i1 with ⟨i', h1, h2, h3⟩ | ⟨h1, h2⟩
          · exact Or.inl ⟨i', by omega, h2, h3⟩
          · refine Or.inr ⟨fun i' h3 h4 => ?_, h2⟩
            by_cases e2 : i' = i
            · subst e2; exact c2 h4.2.2
            · exact h1 i' (by omega) h4
      · have eq1 : cq g v (i + 1) = cq g v i := by conv => { lhs; unfold cq }; rw [if_neg c]; rfl
        rw [if_neg c, bn_s, nI_1, ← eq1]
        rcases i1 with ⟨i', h1, h2, h3⟩ | ⟨h1, h2⟩
        · exact Or.inl ⟨i', by omega, h2, h3⟩
        · refine Or.inr ⟨fun i' h3 h4 => ?_, h2⟩
          by_cases e2 : i' = i
          · subst e2; exact c h4.2.1
          · exact h1 i' (by omega) h4
theorem qw_out {N : Nat} {g : Nat → Int32} {p : Int32} (hN : N ≤ 150) : ∀ d n v, v ≤ 10 → 10 - v ≤ d → d + 200 ≤ n →
    (∃ v' i', v' ≤ 9 ∧ Hit g N p v' i' ∧ LX8_quietWindow_4 n (nI N) g p (nI (cs g N v)) (nI v) = some (nI i')) ∨ ((∀ v' i', v ≤ v' → v' ≤ 9 → ¬ Hit g N p v' i') ∧ LX8_quietWindow_4 n (nI N) g p (nI (cs g N v)) (nI v) = some (-1)) := by
  intro d
  induction d with
  | zero =>
    intro n v hv hd hn
    obtain ⟨n, rfl⟩ : ∃ m, n = m + 1 := ⟨n - 1, by omega⟩
    have : v = 10 := by omega
    subst this
    refine Or.inr ⟨fun v' i' h1 h2 => by omega, ?_⟩
    unfold LX8_quietWindow_4 JX8_quietWindow_4
    rw [if_pos (by decide)]
  | succ d ih =>
    intro n v hv hd hn
    obtain ⟨n, rfl⟩ : ∃ m, n = m + 1 := ⟨n - 1, by omega⟩
    unfold LX8_quietWindow_4 JX8_quietWindow_4
    by_cases e : v = 10
    · subst e
      refine Or.inr ⟨fun v' i' h1 h2 => by omega, ?_⟩
      rw [if_pos (by decide)]
    · rw [if_neg (fun h9 => by have := i_lt.mp h9; rw [nI_toInt (by omega)] at this; have e2 : (9 : Int32).toInt = 9 := rfl; omega)]
      have h1 := qw_in (k4 := LX8_quietWindow_4 n) (g := g) (p := p) hN (show v ≤ 9 by omega) N n 0 (by omega) (by omega) (by omega)
      rw [show cq g v 0 = 0 from rfl, Nat.add_zero] at h1
      rcases h1 with ⟨i', _, h2, h3⟩ | ⟨h2, h3⟩
      · exact Or.inl ⟨v, i', by omega, h2, h3⟩
      · have h3 : LX8_quietWindow_13 (LX8_quietWindow_4 n) n (nI N) g p (nI (cs g N v)) (nI v) 0 = _ := h3
        rw [h3]
        rcases ih n (v + 1) (by omega) (by omega) (by omega) with ⟨v', i', h4, h5, h6⟩ | ⟨h4, h5⟩
        · exact Or.inl ⟨v', i', h4, h5, h6⟩
        · refine Or.inr ⟨fun v' i' h6 h7 h8 => ?_, h5⟩
          by_cases e2 : v' = v
          · subst e2; exact h2 i' (Nat.zero_le _) h8
          · exact h4 v' i' (by omega) h7 h8
/-- the same, as the model counts it -/
def al (g : Nat → Int32) (u w : Nat) : Nat → Nat
  | 0 => 0
  | o + 1 => al g u w o + if 0 ≤ (g o).toInt ∧ ((g o).toInt < u ∨ ((g o).toInt = u ∧ o < w)) then 1 else 0
theorem al_le {g : Nat → Int32} {u w : Nat} : ∀ o, al g u w o ≤ o
  | 0 => Nat.le_refl _
  | o + 1 => by
    have := al_le (g := g) (u := u) (w := w) o
    unfold al
    split <;> omega
theorem cs_step {g : Nat → Int32} {o : Nat} (hg : ixd (g o)) : ∀ u, u ≤ 10 → cs g (o + 1) u = cs g o u + if 0 ≤ (g o).toInt ∧ (g o).toInt < u then 1 else 0 := by
  intro u
  induction u with
  | zero => intro _; rw [if_neg (by omega)]; rfl
  | succ u ih =>
    intro hu
    have h1 : cs g (o + 1) (u + 1) = cs g (o + 1) u + cq g u (o + 1) := rfl
    have h2 : cs g o (u + 1) = cs g o u + cq g u o := rfl
    have h3 : cq g u (o + 1) = cq g u o + if g o = nI u then 1 else 0 := rfl
    rw [h1, h2, h3, ih (by omega)]
    have e : g o = nI u ↔ (g o).toInt = u := by rw [i_eq, nI_toInt (by omega)]
    by_cases c : g o = nI u
    · have := e.mp c
      rw [if_pos c, if_neg (by omega), if_pos (by omega)]; omega
    · have := mt e.mpr c
      rw [if_neg c]
      by_cases c2 : 0 ≤ (g o).toInt ∧ (g o).toInt < u
      · rw [if_pos c2, if_pos (by omega)]; omega
      · rw [if_neg c2, if_neg (by omega)]; omega
theorem al_e {g : Nat → Int32} {u w : Nat} (hu : u ≤ 9) : ∀ o, (∀ i, i < o → ixd (g i)) → al g u w o = cs g o u + cq g u (min w o) := by
  intro o
  induction o with
  | zero =>
    intro _
    rw [Nat.min_zero]
    have : ∀ u, cs g 0 u = 0 := by
      intro u
      induction u with
      | zero => rfl
      | succ u ih => show cs g 0 u + cq g u 0 = 0; rw [ih]; rfl
    rw [this]; rfl
  | succ o ih =>
    intro hg
    have h1 : al g u w (o + 1) = al g u w o + if 0 ≤ (g o).toInt ∧ ((g o).toInt < u ∨ ((g o).toInt = u ∧ o < w)) then 1 else 0 := rfl
    rw [h1, ih (fun i hi => hg i (by omega)), cs_step (hg o (by omega)) u (by omega)]
    have e : g o = nI u ↔ (g o).toInt = u := by rw [i_eq, nI_toInt (by omega)]
    have h3 : cq g u (o + 1) = cq g u o + if g o = nI u then 1 else 0 := rfl
    by_cases hw : o < w
    · rw [Nat.min_eq_right (show o ≤ w by omega), Nat.min_eq_right (show o + 1 ≤ w by omega), h3]
      by_cases c : g o = nI u
      · have := e.mp c
        rw [if_pos c, if_pos (by omega), if_neg (by omega)]; omega
      · have := mt e.mpr c
        rw [if_neg c]
        by_cases c2 : 0 ≤ (g o).toInt ∧ (g o).toInt < u
        · rw [if_pos (by omega), if_pos c2]; omega
        · rw [if_neg (by omega), if_neg c2]; omega
    · rw [Nat.min_eq_left (show w ≤ o by omega), Nat.min_eq_left (show w ≤ o + 1 by omega)]
      by_cases c2 : 0 ≤ (g o).toInt ∧ (g o).toInt < u
      · rw [if_pos (by omega), if_pos c2]; omega
      · rw [if_neg (by omega), if_neg c2]; omega
theorem qm_in {N c k u w : Nat} {k21 : Int32 → Int32 → Int32 → Int64 → Int64 → Int64 → Int64 → Int32 → Int32 → Int32 → Int32 → Int32 → Int32 → (Nat → Int32) → (Nat → Int32) → (Nat → Int32) → (Nat → Int32) → (Nat → Int32) → (Nat → Int32) → (Nat → Int32) → (Nat → Int32) → (Nat → Int32) → (Nat → Int32) → (Nat → Int32) → (Nat → Int32) → (Nat → Int32) → (Nat → Int64) → (Nat → Int64) → (Nat → Int64) → (Nat → Int32) → (Nat → Int32) → (Nat → Int32) → Int32 → Int32 → Int32 → Option (Int32 × Int32 × Int32 × Int32 × Int64 × Int64 × Int64 × Int64 × (Nat → Int32) × (Nat → Int32) × (Nat → Int32) × (Nat → Int32) × (Nat → Int32) × (Nat → Int32) × (Nat → Int32) × (Nat → Int64) × (Nat → Int64) × (Nat → Int64))}
    {th pts pcs nr sh so ww p : Int32} {a b c' d' : Int64} {R M J F W Me En Ms T P E fi lg ix Fr To g : Nat → Int32} {up dn he : Nat → Int64} (hN : N ≤ 150) (hw : w < N) (hu : u ≤ 9) (hg : ∀ i, i < N → ixd (g i)) (hx : ∀ m, 300 ≤ m → ∀ i, i < N → FX10_indexOf m sh so ww (nI c) (nI k) F ix Fr To (nI i) = some (g i)) :
    ∀ d n o, o ≤ N → N - o ≤ d → d + 301 ≤ n → LX10_quiet_47 k21 n th pts pcs a b c' d' nr sh so ww (nI c) (nI k) R M J F W Me En Ms T P E fi lg up dn he ix Fr To p (nI N) (nI w) (nI u) (nI (al g u w o)) (nI o) = if nI (al g u w N) = p then some (nI w, th, pts, pcs, a, b, c', d', J, F, T, P, E, fi, lg, up, dn, he) else k21 th pts pcs a b c' d' nr sh so ww (nI c) (nI k) R M J F W Me En Ms T P E fi lg up dn he ix Fr To p (nI N) (nI (w + 1)) := by
  intro d
  induction d with
  | zero =>
    intro n o ho hd hn
    obtain ⟨n, rfl⟩ : ∃ m, n = m + 1 := ⟨n - 1, by omega⟩
    have : o = N := by omega
    subst this
    unfold LX10_quiet_47 JX10_quiet_47
    rw [if_pos (Int32.le_refl _), bn_s, nI_1]
  | succ d ih =>
    intro n o ho hd hn
    obtain ⟨n, rfl⟩ : ∃ m, n = m + 1 := ⟨n - 1, by omega⟩
    by_cases e : o = N
    · subst e
      unfold LX10_quiet_47 JX10_quiet_47
      rw [if_pos (Int32.le_refl _), bn_s, nI_1]
    · have i1 := ih n (o + 1) (by omega) (by omega) (by omega)
      have h1 : al g u w (o + 1) = al g u w o + if 0 ≤ (g o).toInt ∧ ((g o).toInt < u ∨ ((g o).toInt = u ∧ o < w)) then 1 else 0 := rfl
      have hal := al_le (g := g) (u := u) (w := w) o
      have e0 : g o = nI u ↔ (g o).toInt = u := by rw [i_eq, nI_toInt (by omega)]
      have l0 : g o < 0 ↔ (g o).toInt < 0 := by rw [i_lt, t_0]
      have lu : g o < nI u ↔ (g o).toInt < u := by rw [i_lt, nI_toInt (by omega)]
      unfold LX10_quiet_47 JX10_quiet_47
      rw [if_neg (by rw [nI_le' (by omega) (by omega)]; omega), hx n (by omega) o (by omega), ob1_s]
      simp only [bn_s, Int32.add_zero, nI_1]
      by_cases c0 : g o < 0
      · rw [if_pos c0]
        rw [if_neg (by have := l0.mp c0; omega)] at h1
        rw [h1] at i1; exact i1
      · have q0 := mt l0.mpr c0
        rw [if_neg c0]
        by_cases c1 : g o < nI u
        · have q1 := lu.mp c1
          rw [if_pos c1]
          rw [if_pos (by omega)] at h1
          rw [← h1]; exact i1
        · have q1 := mt lu.mpr c1
          rw [if_neg c1]
          by_cases c2 : g o = nI u
          · have q2 := e0.mp c2
            rw [if_pos c2]
            by_cases c3 : w ≤ o
            · rw [if_pos (by rw [nI_le' (by omega) (by omega)]; exact c3)]
              rw [if_neg (by omega)] at h1
              rw [h1] at i1; exact i1
            · rw [if_neg (by rw [nI_le' (by omega) (by omega)]; exact c3)]
              rw [if_pos (by omega)] at h1
              rw [← h1]; exact i1
          · have q2 := mt e0.mpr c2
            rw [if_neg c2]
            rw [if_neg (by omega)] at h1
            rw [h1] at i1; exact i1
theorem qm_out {N c k : Nat} {th pts pcs nr sh so ww p : Int32} {a b c' d' : Int64} {R M J F W Me En Ms T P E fi lg ix Fr To g : Nat → Int32} {up dn he : Nat → Int64} (hN : N ≤ 150) (hg : ∀ i, i < N → ixd (g i)) (hx : ∀ m, 300 ≤ m → ∀ i, i < N → FX10_indexOf m sh so ww (nI c) (nI k) F ix Fr To (nI i) = some (g i)) :
    ∀ d n w, w ≤ N → N - w ≤ d → d + 500 ≤ n →
    (∃ v' i', v' ≤ 9 ∧ Hit g N p v' i' ∧ LX10_quiet_21 n th pts pcs a b c' d' nr sh so ww (nI c) (nI k) R M J F W Me En Ms T P E fi lg up dn he ix Fr To p (nI N) (nI w) = some (nI i', th, pts, pcs, a, b, c', d', J, F, T, P, E, fi, lg, up, dn, he)) ∨ ((∀ v' i', w ≤ i' → v' ≤ 9 → ¬ Hit g N p v' i') ∧ LX10_quiet_21 n th pts pcs a b c' d' nr sh so ww (nI c) (nI k) R M J F W Me En Ms T P E fi lg up dn he ix Fr To p (nI N) (nI w) = some (-1, th, pts, pcs, a, b, c', d', J, F, T, P, E, fi, lg, up, dn, he)) := by
  intro d
  induction d with
  | zero =>
    intro n w hw hd hn
    obtain ⟨n, rfl⟩ : ∃ m, n = m + 1 := ⟨n - 1, by omega⟩
    have : w = N := by omega
    subst this
    refine Or.inr ⟨fun v' i' h1 _ h2 => by have := h2.1; omega, ?_⟩
    unfold LX10_quiet_21 JX10_quiet_21
    rw [if_pos (Int32.le_refl _)]
  | succ d ih =>
    intro n w hw hd hn
    obtain ⟨n, rfl⟩ : ∃ m, n = m + 1 := ⟨n - 1, by omega⟩
    unfold LX10_quiet_21 JX10_quiet_21
    by_cases e : w = N
    · subst e
      refine Or.inr ⟨fun v' i' h1 _ h2 => by have := h2.1; omega, ?_⟩
      rw [if_pos (Int32.le_refl _)]
    · rw [if_neg (by rw [nI_le' (by omega) (by omega)]; omega), hx n (by omega) w (by omega), ob1_s]
      have i1 := ih n (w + 1) (by omega) (by omega) (by omega)
      rcases hg w (by omega) with hm | ⟨u, hu, hm⟩
      · rw [hm, if_neg (by decide), bn_s, nI_1]
        rcases i1 with ⟨v', i', h1, h2, h3⟩ | ⟨h1, h2⟩
        · exact Or.inl ⟨v', i', h1, h2, h3⟩
        · refine Or.inr ⟨fun v' i' h3 h4 h5 => ?_, h2⟩
          by_cases e2 : i' = w
          · subst e2
            have := h5.2.1
            rw [hm] at this
            have := i_eq.mp this
            rw [nI_toInt (by omega), m1_t] at this
            omega
          · exact h1 v' i' (by omega) h4 h5
      · have hin := qm_in (k21 := LX10_quiet_21 n) (p := p) (th := th) (pts := pts) (pcs := pcs) (nr := nr) (a := a) (b := b) (c' := c') (d' := d') (R := R) (M := M) (J := J) (W := W) (Me := Me) (En := En) (Ms := Ms) (T := T) (P := P) (E := E) (fi := fi) (lg := lg) (up := up) (dn := dn) (he := he) hN (show w < N by omega) hu hg hx N n 0 (by omega) (by omega) (by omega)
        rw [hm, if_pos (i_le.mpr (by rw [t_0, nI_toInt (by omega)]; omega))]
        have hin : LX10_quiet_47 (LX10_quiet_21 n) n th pts pcs a b c' d' nr sh so ww (nI c) (nI k) R M J F W Me En Ms T P E fi lg up dn he ix Fr To p (nI N) (nI w) (nI u) 0 0 = _ := hin
        rw [hin, al_e hu N hg, Nat.min_eq_left (show w ≤ N by omega)]
        by_cases c2 : nI (cs g N u + cq g u w) = p
        · rw [if_pos c2]
          exact Or.inl ⟨u, w, hu, ⟨by omega, hm, c2⟩, rfl⟩
        · rw [if_neg c2]
          rcases i1 with ⟨v', i', h1, h2, h3⟩ | ⟨h1, h2⟩
          · exact Or.inl ⟨v', i', h1, h2, h3⟩
          · refine Or.inr ⟨fun v' i' h3 h4 h5 => ?_, h2⟩
            by_cases e2 : i' = w
            · subst e2
              have h6 := h5.2.1
              rw [hm] at h6
              have h6 := i_eq.mp h6
              rw [nI_toInt (by omega), nI_toInt (by omega)] at h6
              have : u = v' := by omega
              subst this
              exact c2 h5.2.2
            · exact h1 v' i' (by omega) h4 h5
theorem call_quiet {n n' w k c : Nat} {x0 x1 x2 : TS} {R M Ms W Me Lf En Pb J F T P E fi lg f Fr To st ix I : Nat → Int32} {up dn he : Nat → Int64} {a b c' d : Int64} {nr sh so z p th pts pcs : Int32} (hn : 1000 ≤ n) (hn' : 1010 ≤ n') (hnr : 0 ≤ nr.toInt) (hw : 2 ≤ w) (hw2 : w ≤ 60) (hT : TrR k f Fr To) (hS : SpR c st ix) (h : IT x0 x1 x2 R M Ms W Me Lf En Pb) :
    ∃ r I' z' y0 y1 y2 pts' pcs' a' b' c'' d' J' F' T' P' E' fi' lg' up' dn' he', FX9_quiet n nr sh so (nI w) st (nI c) f I z x0 x1 x2 p = some (r, I', z', y0, y1, y2) ∧ FX10_quiet n' th pts pcs a b c' d nr sh so (nI w) (nI c) (nI k) R M J F W Me En Ms T P E fi lg up dn he ix Fr To p = some (r, 0, pts', pcs', a', b', c'', d', J', F', T', P', E', fi', lg', up', dn', he') ∧ IT y0 y1 y2 R M Ms W Me Lf En Pb := by
  obtain ⟨Tm, N, g, u0, u1, u2, hTm, hNe, hN, l1, l2, ⟨s1, s2, s3⟩, l4, l5, l6⟩ := lay_s (I := I) (z := z) (sh := sh) (so := so) hn hnr hw hw2 hT hS h
  obtain ⟨pts2, pcs2, a2, b2, c2, d2, J2, F2, T2, P2, E2, fi2, lg2, up2, dn2, he2, q1, q2⟩ := l6 n' pts pcs a b c' d J F T P E fi lg up dn he hn'
  have hC := qw_out (g := g) (p := p) hN 10 n 0 (by omega) (by omega) (by omega)
  have hM := qm_out (p := p) (th := 0) (pts := pts2) (pcs := pcs2) (nr := nr) (a := a2) (b := b2) (c' := c2) (d' := d2) (R := R) (M := M) (J := J2) (W := W) (Me := Me) (En := En) (Ms := Ms) (T := T2) (P := P2) (E := E2) (fi := fi2) (lg := lg2) (up := up2) (dn := dn2) (he := he2) hN l5 q2 N n' 0 (by omega) (by omega) (by omega)
  have key : ∃ y, FX8_quietWindow n (nI N) g p = some y ∧ LX10_quiet_21 n' 0 pts2 pcs2 a2 b2 c2 d2 nr sh so (nI w) (nI c) (nI k) R M J2 F2 W Me En Ms T2 P2 E2 fi2 lg2 up2 dn2 he2 ix Fr To p (nI N) 0 = some (y, 0, pts2, pcs2, a2, b2, c2, d2, J2, F2, T2, P2, E2, fi2, lg2, up2, dn2, he2) := by
    have bd : ∀ v i, v ≤ 9 → i < N → cs g N v + cq g v i < 2 ^ 31 := fun v i hv hi => by
      have h1 := cs_le (g := g) (N := N) v
      have h2 : N * v ≤ 150 * 9 := Nat.mul_le_mul hN hv
      have h3 := cq_le (g := g) (v := v) i
      omega
    rcases hC with ⟨v, i, hv, h1, h2⟩ | ⟨h1, h2⟩
    · rcases hM with ⟨v', i', hv', h3, h4⟩ | ⟨h3, h4⟩
      · have e : i = i' := by
          refine rank_inj h1.1 h3.1 h1.2.1 h3.2.1 ?_
          have e1 := i_eq.mp (h1.2.2.trans h3.2.2.symm)
          rw [nI_toInt (bd v i hv h1.1), nI_toInt (bd v' i' hv' h3.1)] at e1
          omega
        subst e
        exact ⟨_, h2, h4⟩
      · exact absurd h1 (h3 v i (Nat.zero_le _) hv)
    · rcases hM with ⟨v', i', hv', h3, h4⟩ | ⟨h3, h4⟩
      · exact absurd h3 (h1 v' i' (Nat.zero_le _) hv')
      · exact ⟨_, h2, h4⟩
  obtain ⟨y, y1, y2⟩ := key
  refine ⟨y, g, nI N, u0, u1, u2, pts2, pcs2, a2, b2, c2, d2, J2, F2, T2, P2, E2, fi2, lg2, up2, dn2, he2, ?_, ?_, l2⟩
  · unfold FX9_quiet
    rw [l1, ob5_s, y1, ob1_s, eta25 s1, eta25 s2, eta25 s3]
  · unfold FX10_quiet
    rw [q1, ob16_s, l4 n' (by omega), ob1_s, gd_t (nI_n0 (by omega) (by omega)), bn_s, pk_div (by omega) (by omega) (by omega), hNe]
    exact y2
