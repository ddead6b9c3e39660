/-- what is kept was laid by settle -/
def Ch (x : TS) : Prop := ∃ (n : Nat) (sN pts psz : Int32) (lU lL mU mL : Int64) (T lo hi F Ln Up Lo J fn : Nat → Int32) (Mi : Nat → Int64), 1000 ≤ n ∧ ¬ sN = tg26 x ∧ (∀ i : Nat, i < 300 → (tg1 x).toInt ≤ i → (tg3 x).toInt ≤ i → J i = -2000000000 ∧ fn i = -2000000000) ∧
  FX6_settle n sN (tg1 x) (tg0 x) (tg3 x) (tg2 x) (tg8 x) (tg4 x) (tg5 x) (tg6 x) (tg7 x) pts psz lU lL mU mL T lo hi F Ln Up Lo Mi J fn (tg26 x) = some (tg26 x, tg12 x, tg18 x, tg19 x, tg20 x, tg21 x, tg22 x, tg9 x, tg10 x, tg11 x, tg13 x, tg14 x, tg15 x, tg16 x, tg17 x, tg23 x, tg24 x)
/-- one track of the class against the model -/
def TI (t : Nat) (x : TS) (R M Ms W Me Lf En Pb : Nat → Int32) : Prop :=
  (∃ k0, RowR (tg0 x) (tg1 x) R M (3 * 0 + t) k0) ∧ (∃ k1, RowR (tg2 x) (tg3 x) R M (3 * 1 + t) k1) ∧ (∃ m, MeR t m (tg8 x) (tg4 x) (tg5 x) (tg6 x) (tg7 x) Ms W Me Lf En) ∧ (∀ i, i < 300 → tg25 x i = Pb (300 * t + i)) ∧
  (∀ i : Nat, i < 300 → (tg1 x).toInt ≤ i → (tg3 x).toInt ≤ i → tg23 x i = -2000000000 ∧ tg24 x i = -2000000000) ∧ (tg26 x = -1 ∨ Ch x)
/-- what the model finds is what the class keeps -/
def Gd (t : Nat) (nr : Int32) (x : TS) (R M Ms W Me En : Nat → Int32) : Prop :=
  ∀ (n' : Nat) (pts' pcs' : Int32) (a b c d : Int64) (J' fn' T' P E fi lg : Nat → Int32) (up dn he : Nat → Int64), 1000 ≤ n' →
    ∃ (p q : Nat) (g : Nat → Nat) (J2' fn2' T2' P2 E2 fi2 lg2 : Nat → Int32) (up2 dn2 he2 : Nat → Int64) (a2 b2 c2 d2 : Int64),
      q ≤ p ∧ (q = 0 ↔ p = 0) ∧ tg18 x = nI q ∧ PR p (tg9 x) (tg10 x) (tg11 x) T2' P2 E2 ∧ PcR q p g T2' (tg13 x) (tg14 x) (tg15 x) (tg16 x) (tg17 x) fi2 lg2 up2 dn2 he2 ∧
      (∀ i, i < 300 → tg23 x i = J2' (300 * t + i)) ∧ (∀ i, i < 300 → gl (tg23 x i)) ∧ (∀ i, i < 300 → tg24 x i = fn2' (300 * t + i)) ∧ (∀ t' i, t' ≠ t → i < 300 → fn2' (300 * t' + i) = fn' (300 * t' + i)) ∧
      FX10_joins n' nr R M J' (nI t) = some J2' ∧
      FX10_works n' pts' pcs' a b c d nr R M J' W Me En Ms T' P E fi lg up dn he (nI t) = some (nI p, nI q, a2, b2, c2, d2, J2', T2', P2, E2, fi2, lg2, up2, dn2, he2) ∧
      FX10_finishes n' pts' pcs' a b c d nr R M J' fn' W Me En Ms T' P E fi lg up dn he (nI t) = some (nI p, nI q, a2, b2, c2, d2, J2', fn2', T2', P2, E2, fi2, lg2, up2, dn2, he2)
theorem settled_s {n t : Nat} {nr : Int32} {x : TS} {R M Ms W Me Lf En Pb : Nat → Int32} (hn : 1000 ≤ n) (ht : t < 3) (hnr : 0 ≤ nr.toInt) (h : TI t x R M Ms W Me Lf En Pb) :
    ∃ x', FX9_settled_0 n nr x = some x' ∧ TI t x' R M Ms W Me Lf En Pb ∧ Gd t nr x' R M Ms W Me En ∧ tg25 x' = tg25 x ∧ tg0 x' = tg0 x ∧ tg1 x' = tg1 x ∧ tg2 x' = tg2 x ∧ tg3 x' = tg3 x := by
  obtain ⟨⟨k0, h0⟩, ⟨k1, h1⟩, ⟨m, hM⟩, h4, h5, h6⟩ := id h
  have z0 := h0.2.1
  have z1 := h1.2.1
  have kb0 := h0.1
  have kb1 := h1.1
  by_cases hs : tg26 x = nr
  · have hc : Ch x := by
      rcases h6 with h6 | h6
      · exfalso; rw [h6] at hs; rw [← hs] at hnr; exact absurd hnr (by decide)
      · exact h6
    have e : FX9_settled_0 n nr x = some x := by
      unfold FX9_settled_0 FX9_trackOf_0 FX6_settle
      rw [if_pos hs]; rfl
    refine ⟨x, e, h, ?_, rfl, rfl, rfl, rfl, rfl⟩
    obtain ⟨n0, sN, pts, psz, lU, lL, mU, mL, T, lo, hi, F, Ln, Up, Lo, J, fn, Mi, c1, c2, c3, c4⟩ := hc
    intro n' pts' pcs' a b c d J' fn' T' P E fi lg up dn he hn'
    obtain ⟨p, q, g, T2, lo2, hi2, F2, Ln2, Up2, Lo2, J2, fn2, J2', fn2', T2', P2, E2, fi2, lg2, Mi2, up2, dn2, he2, lU2, lL2, mU2, mL2, a2, b2, c2', d2, r1, r2, r3, r4, r5, r6, r7, r8, r9, r10, r11, r12⟩ := settle_lk (n := n0) (n' := n') (nr := tg26 x) (sN := sN) (pts := pts) (psz := psz) (lU := lU) (lL := lL) (mU := mU) (mL := mL) (T := T) (lo := lo) (hi := hi) (F := F) (Ln := Ln) (Up := Up) (Lo := Lo) (J := J) (fn := fn) (Mi := Mi) (pts' := pts') (pcs' := pcs') (a := a) (b := b) (c := c) (d := d) (J' := J') (fn' := fn') (T' := T') (P := P) (E := E) (fi := fi) (lg := lg) (up := up) (dn := dn) (he := he) ht h0 h1 hM (fun i hi e0 e1 => c3 i hi (by rw [z0, nI_toInt (by omega)]; omega) (by rw [z1, nI_toInt (by omega)]; omega)) c2 c1 hn'
    rw [c4] at r9
    simp only [Option.some.injEq, Prod.mk.injEq] at r9
    obtain ⟨_, e1, e2, e3, e4, e5, e6, e7, e8, e9, e10, e11, e12, e13, e14, e15, e16⟩ := r9
    rw [hs] at r10 r11 r12 r5
    refine ⟨p, q, g, J2', fn2', T2', P2, E2, fi2, lg2, up2, dn2, he2, a2, b2, c2', d2, r1, r2, e2, ?_, ?_, fun i hi => ?_, fun i hi => ?_, fun i hi => ?_, r7, r10, r11, r12⟩
    · rw [e7, e8, e9]; exact r3
    · rw [e10, e11, e12, e13, e14]; exact r4
    · rw [e15, (r5 i hi).1, (r5 i hi).2]
    · rw [e15, (r5 i hi).1]; exact jn_g h0.gl h1.gl (i + 1) (by omega)
    · rw [e16, r6 i hi]
  · have key := fun (n' : Nat) (pts' pcs' : Int32) (a b c d : Int64) (J' fn' T' P E fi lg : Nat → Int32) (up dn he : Nat → Int64) (hn' : 1000 ≤ n') => settle_lk (n := n) (n' := n') (nr := nr) (sN := tg26 x) (pts := tg12 x) (psz := tg18 x) (lU := tg19 x) (lL := tg20 x) (mU := tg21 x) (mL := tg22 x) (T := tg9 x) (lo := tg10 x) (hi := tg11 x) (F := tg13 x) (Ln := tg14 x) (Up := tg15 x) (Lo := tg16 x) (J := tg23 x) (fn := tg24 x) (Mi := tg17 x) (pts' := pts') (pcs' := pcs') (a := a) (b := b) (c := c) (d := d) (J' := J') (fn' := fn') (T' := T') (P := P) (E := E) (fi := fi) (lg := lg) (up := up) (dn := dn) (he := he) ht h0 h1 hM (fun i hi e0 e1 => h5 i hi (by rw [z0, nI_toInt (by omega)]; omega) (by rw [z1, nI_toInt (by omega)]; omega)) hs hn hn'
    obtain ⟨p, q, g, T2, lo2, hi2, F2, Ln2, Up2, Lo2, J2, fn2, _, _, _, _, _, _, _, Mi2, _, _, _, lU2, lL2, mU2, mL2, _, _, _, _, _, _, _, _, s5, _, _, s8, s9, _, _, _⟩ := key 1000 0 0 0 0 0 0 (fun _ => 0) (fun _ => 0) (fun _ => 0) (fun _ => 0) (fun _ => 0) (fun _ => 0) (fun _ => 0) (fun _ => 0) (fun _ => 0) (fun _ => 0) (by omega)
    refine ⟨(tg0 x, tg1 x, tg2 x, tg3 x, tg4 x, tg5 x, tg6 x, tg7 x, tg8 x, T2, lo2, hi2, nI p, F2, Ln2, Up2, Lo2, Mi2, nI q, lU2, lL2, mU2, mL2, J2, fn2, tg25 x, nr), ?_, ⟨⟨k0, h0⟩, ⟨k1, h1⟩, ⟨m, hM⟩, h4, ?_, Or.inr ?_⟩, ?_, rfl, rfl, rfl, rfl, rfl⟩
    · unfold FX9_settled_0 FX9_trackOf_0
      rw [ob1_s, s9, ob17_s]
    · intro i hi e0 e1
      have e0 : (tg1 x).toInt ≤ i := e0
      have e1 : (tg3 x).toInt ≤ i := e1
      rw [z0, nI_toInt (by omega)] at e0
      rw [z1, nI_toInt (by omega)] at e1
      exact s8 i hi (by omega) (by omega)
    · exact ⟨n, tg26 x, tg12 x, tg18 x, tg19 x, tg20 x, tg21 x, tg22 x, tg9 x, tg10 x, tg11 x, tg13 x, tg14 x, tg15 x, tg16 x, tg23 x, tg24 x, tg17 x, hn, hs, h5, s9⟩
    · intro n' pts' pcs' a b c d J' fn' T' P E fi lg up dn he hn'
      obtain ⟨p', q', g', T3, lo3, hi3, F3, Ln3, Up3, Lo3, J3, fn3, J2', fn2', T2', P2, E2, fi2, lg2, Mi3, up2, dn2, he2, lU3, lL3, mU3, mL3, a2, b2, c2', d2, r1, r2, r3, r4, r5, r6, r7, r8, r9, r10, r11, r12⟩ := key n' pts' pcs' a b c d J' fn' T' P E fi lg up dn he hn'
      rw [s9] at r9
      simp only [Option.some.injEq, Prod.mk.injEq] at r9
      obtain ⟨_, e1, e2, e3, e4, e5, e6, e7, e8, e9, e10, e11, e12, e13, e14, e15, e16⟩ := r9
      refine ⟨p', q', g', J2', fn2', T2', P2, E2, fi2, lg2, up2, dn2, he2, a2, b2, c2', d2, r1, r2, e2, ?_, ?_, fun i hi => ?_, fun i hi => ?_, fun i hi => ?_, r7, r10, r11, r12⟩
      · show PR p' T2 lo2 hi2 T2' P2 E2
        rw [e7, e8, e9]; exact r3
      · show PcR q' p' g' T2' F2 Ln2 Up2 Lo2 Mi2 fi2 lg2 up2 dn2 he2
        rw [e10, e11, e12, e13, e14]; exact r4
      · show J2 i = _
        rw [e15, (r5 i hi).1, (r5 i hi).2]
      · show gl (J2 i)
        rw [e15, (r5 i hi).1]; exact jn_g h0.gl h1.gl (i + 1) (by omega)
      · show fn2 i = _
        rw [e16, r6 i hi]
