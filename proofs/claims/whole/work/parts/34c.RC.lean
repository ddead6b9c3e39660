/-- the steps of an index clause -/
theorem rsteps_L {k L : Nat} {f tp : Nat → Int32} {g : Nat → Nat} {fk fp pl li ne sh so wi sto : Int32} (h : TH k L f tp g) : ∀ (d i p n n' : Nat) (st ix : Nat → Int32) (np bg ahead : Int32), i + d = 9 → p < 900 → d + 310 ≤ n → d + 310 ≤ n' → (∀ j, j < i → st j = ix j) → ((i = 0 ∧ ahead = -1) ∨ (0 < i ∧ ∃ a : Nat, a ≤ 10000 ∧ ahead = nI a ∧ st (i - 1) = nI a)) →
    (∃ (e c m : Nat) (np' bg' : Int32) (st' ix' : Nat → Int32), e ≤ L ∧ SpR c st' ix' ∧ 301 ≤ m ∧ LX4_readSteps_8 n (nI L) (nI p) np fk fp (nI k) f (nI i) st ahead (nI i) = some (1, nI e, np', fk, fp, nI c, st') ∧ LX10_clause_203 n' (nI L) (nI p) 0 pl li ne sh so wi sto (nI i) bg tp ix 1 = JX10_clause_311 m (nI L) (nI e) 0 pl li ne sh so wi sto (nI c) bg' tp ix') ∨
    (∃ (e e' kd : Nat) (wh np' bg' c' mn' : Int32) (st' ix' : Nat → Int32), e < 1000 ∧ e' < 1000 ∧ (1 ≤ kd ∧ kd ≤ 3) ∧ LX4_readSteps_8 n (nI L) (nI p) np fk fp (nI k) f (nI i) st ahead (nI i) = some (0, nI e, np', nI kd, wh, c', st') ∧ LX10_clause_203 n' (nI L) (nI p) 0 pl li ne sh so wi sto (nI i) bg tp ix 1 = some (nI e', nI kd, wh, li, ne, sh, so, wi, sto, mn', bg', ix')) := by
  have hk := h.1
  have hk2 := h.2.1
  have t1 : (10000 : Int32).toInt = 10000 := rfl
  have t0 : (0 : Int32).toInt = 0 := rfl
  have tm : (-1 : Int32).toInt = -1 := rfl
  intro d
  induction d with
  | zero =>
    intro i p n n' st ix np bg ahead hi hp hn hn' hs ha
    have : i = 9 := by omega
    subst this
    obtain ⟨n, rfl⟩ : ∃ m, n = m + 1 := ⟨n - 1, by omega⟩
    obtain ⟨n', rfl⟩ : ∃ m, n' = m + 1 := ⟨n' - 1, by omega⟩
    obtain ⟨a, ha1, ha2, ha3⟩ : ∃ a : Nat, a ≤ 10000 ∧ ahead = nI a ∧ st 8 = nI a := by
      rcases ha with ⟨h9, _⟩ | ⟨_, h9⟩
      · omega
      · exact h9
    right
    have hM0 : LX10_clause_203 (n' + 1) (nI L) (nI p) 0 pl li ne sh so wi sto (nI 9) bg tp ix 1 = JX10_clause_232 (LX10_clause_203 n') n' (nI L) (nI p) 0 pl li ne sh so wi sto (nI 9) bg tp ix (nI (a + 1)) := by
      conv => { lhs; unfold LX10_clause_203 JX10_clause_203 }
      rw [ifo, if_neg (nI_n0 (by omega) (by omega)), show nI 9 - 1 = nI 8 from rfl, gd_in (by omega) (by omega), nI_clamp (by omega), ← hs 8 (by omega), ha3, nI_1]
    rw [hM0]
    unfold LX4_readSteps_8 JX4_readSteps_8 JX10_clause_232
    rw [if_neg (by decide)]
    rcases num_s (p := p) h hp with ⟨e, q, kd, wh, he, hkd2, hC, hM⟩ | ⟨e, q, v, he, hv, hC, hM⟩
    · obtain ⟨v1, m1⟩ := hM n' pl bg (nI (a + 1)) 10000 (by omega) (by rw [t1]; omega)
      refine ⟨e, e, kd, wh, nI q, nI q, nI 9, nI 9, st, ix, by omega, by omega, by omega, ?_, ?_⟩
      · rw [hC n np fk fp (by omega), ob5_s, if_pos rfl]
      · rw [m1, ob5_s, if_neg (nI_n0 (by omega) (by omega))]
        unfold JX10_clause_264
        rw [if_neg (nI_nle (by omega) (by omega))]
    · have nv : ¬ nI v = -1 := fun e9 => by have := i_eq.mp e9; rw [nI_toInt (by omega), tm] at this; omega
      rw [hC n np fk fp (by omega), ob5_s, if_neg nv, hM n' pl bg (nI (a + 1)) 10000 (by omega), t1, nI_toInt (by omega)]
      unfold FX4_refuse
      rw [ob3_s, ob3_s, gn0, gn0, ha2]
      by_cases c : a < v
      · refine ⟨e, e, 3, nI q, nI q, nI q, nI 9, nI 9, st, ix, by omega, by omega, by omega, ?_, ?_⟩
        · rw [if_pos (nI_lt c (by omega)), if_pos (by decide)]; rfl
        · rw [if_pos (show ((a + 1 : Nat) : Int) ≤ v ∧ (v : Int) ≤ 10000 by omega), ob5_s, if_pos rfl, if_pos (by decide), wr0]
          unfold JX10_clause_264
          rw [if_neg (by decide)]; rfl
      · refine ⟨e, e, 2, nI q, nI q, nI q, nI 9, nI 9, st, ix, by omega, by omega, by omega, ?_, ?_⟩
        · rw [if_neg (nI_nlt (by omega) (by omega))]; rfl
        · rw [if_neg (show ¬ (((a + 1 : Nat) : Int) ≤ v ∧ (v : Int) ≤ 10000) by omega), ob5_s, if_neg (by decide)]
          unfold JX10_clause_264
          rw [if_neg (by decide)]; rfl
  | succ d ih =>
    intro i p n n' st ix np bg ahead hi hp hn hn' hs ha
    obtain ⟨n, rfl⟩ : ∃ m, n = m + 1 := ⟨n - 1, by omega⟩
    obtain ⟨n', rfl⟩ : ∃ m, n' = m + 1 := ⟨n' - 1, by omega⟩
    have hM0 : ∃ lo : Int32, (∀ v : Nat, v ≤ 10000 → (lo.toInt ≤ v ↔ ahead < nI v)) ∧ LX10_clause_203 (n' + 1) (nI L) (nI p) 0 pl li ne sh so wi sto (nI i) bg tp ix 1 = JX10_clause_232 (LX10_clause_203 n') n' (nI L) (nI p) 0 pl li ne sh so wi sto (nI i) bg tp ix lo := by
      conv => { rhs; intro lo; rhs; lhs; unfold LX10_clause_203 JX10_clause_203 }
      rcases ha with ⟨h9, h8⟩ | ⟨h9, a, h8, h7, h6⟩
      · refine ⟨0, fun v hv => ?_, ?_⟩
        · rw [h8, i_lt, nI_toInt (by omega), t0, tm]; omega
        · rw [ifo, if_pos (by rw [h9]; rfl)]
      · refine ⟨nI (a + 1), fun v hv => ?_, ?_⟩
        · rw [h7, i_lt, nI_toInt (by omega), nI_toInt (by omega), nI_toInt (by omega)]; omega
        · rw [ifo, if_neg (nI_n0 h9 (by omega)), show nI i - 1 = nI (i - 1) from pk_sub (b := 1) (by omega), gd_in (by omega) (by omega), nI_clamp (by omega), ← hs (i - 1) (by omega), h6, nI_1]
    obtain ⟨lo, hlo, hM0⟩ := hM0
    have n9 : ¬ nI i = 9 := fun e9 => by have := (nI_eq (by omega) (by omega)).mp (show nI i = nI 9 from e9); omega
    have n9l : ¬ (9 : Int32) < nI i := nI_nlt (a := 9) (b := i) (by omega) (by omega)
    have hC0 : LX4_readSteps_8 (n + 1) (nI L) (nI p) np fk fp (nI k) f (nI i) st ahead (nI i) = JX4_readSteps_8 (LX4_readSteps_8 n) n (nI L) (nI p) np fk fp (nI k) f (nI i) st ahead (nI i) := rfl
    rw [hM0, hC0]
    rcases num_s (p := p) h hp with ⟨e, q, kd, wh, he, hkd2, hC, hM⟩ | ⟨e, q, v, he, hv, hC, hM⟩
    · right
      obtain ⟨v1, m1⟩ := hM n' pl bg lo 10000 (by omega) (by rw [t1]; omega)
      refine ⟨e, e, kd, wh, nI q, nI q, nI i, nI i, st, ix, by omega, by omega, by omega, ?_, ?_⟩
      · unfold JX4_readSteps_8
        rw [if_neg n9l, hC n np fk fp (by omega), ob5_s, if_pos rfl]
      · unfold JX10_clause_232
        rw [m1, ob5_s, if_neg (nI_n0 (by omega) (by omega))]
        unfold JX10_clause_264
        rw [if_neg (nI_nle (by omega) (by omega))]
    · have nv : ¬ nI v = -1 := fun e9 => by have := i_eq.mp e9; rw [nI_toInt (by omega), tm] at this; omega
      by_cases c : ahead < nI v
      · have hl := (hlo v hv).mpr c
        obtain ⟨z, hb⟩ := bl_ex (p := e) h (by omega)
        have hz : z ≤ L := by have := hb.2.1; omega
        have hadd : FX3_addStep n (nI i) st (nI v) = some (nI (i + 1), upd st i (nI v)) := by
          unfold FX3_addStep
          rw [if_neg (show ¬ (9 : Int32) ≤ nI i from nI_ge (a := i) (b := 9) (by omega) (by omega)), gd_in (by omega) (by omega), bn_s, bn_s, nI_clamp (by omega), nI_1]
        have hCn : JX4_readSteps_8 (LX4_readSteps_8 n) n (nI L) (nI p) np fk fp (nI k) f (nI i) st ahead (nI i) = ob1 (FX4_look n (nI L) (nI z) (nI k) f) (fun r18 => ob1 (FX4_isDigit n r18) (fun r20 => if r20 = 0 then (some ((1 : Int32), nI z, nI q, fk, fp, nI (i + 1), upd st i (nI v))) else LX4_readSteps_8 n (nI L) (nI z) (nI q) fk fp (nI k) f (nI (i + 1)) (upd st i (nI v)) (nI v) (nI (i + 1)))) := by
          unfold JX4_readSteps_8
          rw [if_neg n9l, hC n np fk fp (by omega), ob5_s, if_neg nv, if_pos c, if_neg n9, hadd, ob2_s, hb.2.2.2.1 n (by omega), ob1_s, bn_s, nI_1]
        have hMn : JX10_clause_232 (LX10_clause_203 n') n' (nI L) (nI p) 0 pl li ne sh so wi sto (nI i) bg tp ix lo = ob1 (FX10_byteAt n' (nI L) tp (nI z)) (fun r97 => ob1 (FX10_isDigit n' r97) (fun r99 => LX10_clause_203 n' (nI L) (nI z) 0 pl li ne sh so wi sto (nI (i + 1)) (nI q) tp (upd ix i (nI v)) r99)) := by
          unfold JX10_clause_232 JX10_clause_264
          rw [hM n' pl bg lo 10000 (by omega), t1, if_pos (show lo.toInt ≤ v ∧ (v : Int) ≤ 10000 by omega), ob5_s, if_pos rfl, if_neg n9, if_pos (by decide), gd_in (by omega) (by omega), bn_s, bn_s, nI_clamp (by omega), hb.2.2.2.2 n' (by omega), ob1_s, nI_1]
        have hs' : ∀ j, j < i + 1 → upd st i (nI v) j = upd ix i (nI v) j := fun j hj => by
          by_cases e9 : j = i
          · rw [e9, pk_us, pk_us]
          · rw [pk_un e9, pk_un e9]; exact hs j (by omega)
        have stop : ¬ (z < L ∧ 48 ≤ g z ∧ g z ≤ 57) → (∃ (e c m : Nat) (np' bg' : Int32) (st' ix' : Nat → Int32), e ≤ L ∧ SpR c st' ix' ∧ 301 ≤ m ∧ JX4_readSteps_8 (LX4_readSteps_8 n) n (nI L) (nI p) np fk fp (nI k) f (nI i) st ahead (nI i) = some (1, nI e, np', fk, fp, nI c, st') ∧ JX10_clause_232 (LX10_clause_203 n') n' (nI L) (nI p) 0 pl li ne sh so wi sto (nI i) bg tp ix lo = JX10_clause_311 m (nI L) (nI e) 0 pl li ne sh so wi sto (nI c) bg' tp ix') := fun hd => by
          obtain ⟨n2, rfl⟩ : ∃ m, n' = m + 1 := ⟨n' - 1, by omega⟩
          have hend : LX10_clause_203 (n2 + 1) (nI L) (nI z) 0 pl li ne sh so wi sto (nI (i + 1)) (nI q) tp (upd ix i (nI v)) 0 = JX10_clause_311 n2 (nI L) (nI z) 0 pl li ne sh so wi sto (nI (i + 1)) (nI q) tp (upd ix i (nI v)) := by
            conv => { lhs; unfold LX10_clause_203 JX10_clause_203 }
            rw [ifz]
          refine ⟨z, i + 1, n2, nI q, nI q, upd st i (nI v), upd ix i (nI v), hz, ⟨by omega, hs'⟩, by omega, ?_, ?_⟩
          · rw [hCn]
            by_cases c2 : z < L
            · have hg := (h.2.2 z (by omega)).2.2
              rw [look_i h c2, ob1_s, dgC0 (fun h9 => hd ⟨c2, h9⟩) (by omega), ob1_s, ifz]
            · rw [look_o (by omega) (by omega), ob1_s, dgCm, ob1_s, ifz]
          · rw [hMn]
            by_cases c2 : z < L
            · have hg := (h.2.2 z (by omega)).2.2
              rw [mby_i h c2, ob1_s, dgM0 (fun h9 => hd ⟨c2, h9⟩) (by omega), ob1_s, hend]
            · rw [mby_o (by omega) (by omega), ob1_s, dgM0 (by omega) (by omega), ob1_s, hend]
        by_cases hd : z < L ∧ 48 ≤ g z ∧ g z ≤ 57
        · rw [hCn, hMn, look_i h hd.1, ob1_s, dgC1 hd.2, ob1_s, ifo, mby_i h hd.1, ob1_s, dgM1 hd.2, ob1_s]
          exact ih (i + 1) z n n' _ _ _ _ _ (by omega) (by omega) (by omega) (by omega) hs' (Or.inr ⟨by omega, v, hv, rfl, by rw [show i + 1 - 1 = i by omega, pk_us]⟩)
        · exact Or.inl (stop hd)
      · right
        have hl : ¬ lo.toInt ≤ v := fun h9 => c ((hlo v hv).mp h9)
        refine ⟨e, e, 2, nI q, nI q, nI q, nI i, nI i, st, ix, by omega, by omega, by omega, ?_, ?_⟩
        · unfold JX4_readSteps_8 FX4_refuse
          rw [if_neg n9l, hC n np fk fp (by omega), ob5_s, if_neg nv, if_neg c, ob3_s, gn0]; rfl
        · unfold JX10_clause_232
          rw [hM n' pl bg lo 10000 (by omega), t1, if_neg (show ¬ (lo.toInt ≤ v ∧ (v : Int) ≤ 10000) by omega), ob5_s, if_neg (by decide)]
          unfold JX10_clause_264
          rw [if_neg (by decide)]; rfl
theorem wordOf_s {m i : Nat} (hi : i < 6) : FX10_wordOf m (nI i) = some i := by
  have : i = 0 ∨ i = 1 ∨ i = 2 ∨ i = 3 ∨ i = 4 ∨ i = 5 := by omega
  rcases this with e | e | e | e | e | e <;> subst e <;> rfl
theorem nI_nm {v : Nat} (h : v < 2 ^ 31) : ¬ nI v = -1 := fun e9 => by
  have := i_eq.mp e9
  rw [nI_toInt h, show (-1 : Int32).toInt = -1 from rfl] at this
  omega
/-- one clause -/
theorem clause_o {k L n n' p w c cl : Nat} {f tp st ix : Nat → Int32} {g : Nat → Nat} {np fk fp pl li ne sh so sto bg : Int32} (h : TH k L f tp g) (hp : p < 900) (hb : Bl k L f tp g p p) (hcl : cl < 12) (hn : 400 ≤ n) (hn' : 400 ≤ n') (h1 : 0 ≤ ne.toInt ∧ 0 ≤ sto.toInt) (h2 : 2 ≤ w ∧ w ≤ 60) (h3 : SpR c st ix) :
    ClO L fk fp cl pl (FX4_readClause n (nI L) (nI p) np fk fp (nI k) f li ne sh so (nI w) sto (nI c) (nI cl) st) (FX10_clause n' (nI L) (nI p) 0 pl li ne sh so (nI w) sto (nI c) bg tp ix) := by
  have hk := h.1
  have hk2 := h.2.1
  unfold FX4_readClause FX10_clause
  rcases kind_s h hp hb with ⟨e, he, hC, hM⟩ | ⟨w0, hw0, heL, hC, hM⟩
  · unfold FX4_refuse
    rw [hC n (by omega), ob2_s, if_pos rfl, ob3_s, gn0, hM n' (by omega), ob2_s, if_neg (by decide), wr0]
    exact Or.inr ⟨e, p, 1, nI p, by omega, by omega, by omega, ⟨_, _, _, _, _, _, _, _, _, _, rfl⟩, _, _, _, _, _, _, _, _, _, rfl⟩
  · rw [hC n (by omega), ob2_s, if_neg (nI_nm (by omega)), if_pos (show nI cl < (12 : Int32) from nI_lt (a := cl) (b := 12) hcl (by omega)), hM n' (by omega), ob2_s, if_pos (nI_pos' (by omega)), wordOf_s hw0, ob1_s, gd_t (by omega), bn_s, nI_add]
    generalize p + sLen.getD w0 0 = e at *
    have : w0 = 0 ∨ w0 = 1 ∨ w0 = 2 ∨ w0 = 3 ∨ w0 = 4 ∨ w0 = 5 := by omega
    rcases this with e9 | e9 | e9 | e9 | e9 | e9 <;> subst e9
    · have := sett_o (np := np) (fk := fk) (fp := fp) (pl := pl) (li := li) (sh := sh) (so := so) (sto := sto) (bg := bg) (cl := cl) (kind := 0) (n := n) (n' := n') (p := e) h (by omega) (by omega) (by omega) h1 h2 h3 (by omega)
      rw [if_pos (by decide)] at this
      rw [if_neg (by decide), if_neg (by decide), if_pos (by decide)]
      exact this
    · have := sett_o (np := np) (fk := fk) (fp := fp) (pl := pl) (li := li) (sh := sh) (so := so) (sto := sto) (bg := bg) (cl := cl) (kind := 1) (n := n) (n' := n') (p := e) h (by omega) (by omega) (by omega) h1 h2 h3 (by omega)
      rw [if_neg (by decide), if_pos (by decide)] at this
      rw [if_neg (by decide), if_neg (by decide), if_neg (by decide), if_pos (by decide)]
      exact this
    · rw [if_neg (by decide), if_pos (by decide), if_neg (by decide), if_neg (by decide), if_pos (by decide)]
      exact share_o h (by omega) heL (by omega) (by omega) h1 h2 h3
    · have := sett_o (np := np) (fk := fk) (fp := fp) (pl := pl) (li := li) (sh := sh) (so := so) (sto := sto) (bg := bg) (cl := cl) (kind := 3) (n := n) (n' := n') (p := e) h (by omega) (by omega) (by omega) h1 h2 h3 (by omega)
      rw [if_neg (by decide), if_neg (by decide), if_pos (by decide)] at this
      rw [if_neg (by decide), if_neg (by decide), if_neg (by decide), if_neg (by decide), if_neg (by decide), if_pos (by decide)]
      exact this
    · have := sett_o (np := np) (fk := fk) (fp := fp) (pl := pl) (li := li) (sh := sh) (so := so) (sto := sto) (bg := bg) (cl := cl) (kind := 4) (n := n) (n' := n') (p := e) h (by omega) (by omega) (by omega) h1 h2 h3 (by omega)
      rw [if_neg (by decide), if_neg (by decide), if_neg (by decide)] at this
      rw [if_neg (by decide), if_neg (by decide), if_neg (by decide), if_neg (by decide), if_neg (by decide), if_neg (by decide), if_pos (by decide)]
      exact this
    · rw [if_pos (by decide), if_neg (by decide), if_neg (by decide), if_neg (by decide), if_neg (by decide), if_neg (by decide)]
      unfold FX4_readSteps FX3_clearSteps
      rw [ob1_s]
      rcases rsteps_L (fk := fk) (fp := fp) (pl := pl) (li := li) (ne := ne) (sh := sh) (so := so) (wi := nI w) (sto := sto) h 9 0 e n n' st ix np bg (-1) (by omega) (by omega) (by omega) (by omega) (fun j hj => by omega) (Or.inl ⟨rfl, rfl⟩) with ⟨e2, c2, m, np2, bg2, st2, ix2, he2, hS2, hm, i1, i2⟩ | ⟨e2, e3, kd, wh, np2, bg2, c2, mn2, st2, ix2, he2, he3, hkd, i1, i2⟩
      · rw [show LX4_readSteps_8 n (nI L) (nI e) np fk fp (nI k) f 0 st (-1) 0 = _ from i1, ob7_s, show LX10_clause_203 n' (nI L) (nI e) 0 pl li ne sh so (nI w) sto 0 bg tp ix 1 = _ from i2]
        exact tail_o h (by omega) (by omega) (by omega) h1 h2 hS2
      · rw [show LX4_readSteps_8 n (nI L) (nI e) np fk fp (nI k) f 0 st (-1) 0 = _ from i1, ob7_s, show LX10_clause_203 n' (nI L) (nI e) 0 pl li ne sh so (nI w) sto 0 bg tp ix 1 = _ from i2, t70f]
        exact Or.inr ⟨e2, e3, kd, wh, he2, he3, hkd, ⟨_, _, _, _, _, _, _, _, _, _, rfl⟩, _, _, _, _, _, _, _, _, _, rfl⟩
theorem rI_f {m : Nat} {x1 x2 x3 x4 x5 x6 y1 y2 y3 y4 y5 y6 y7 y8 x : Int32} {b st : Nat → Int32} : LX4_readInto_33 (m + 1) x1 x2 x3 x4 x5 x6 b y1 y2 y3 y4 y5 y6 y7 y8 st 0 x = some (0, x1, x2, x3, x4, x5, y1, y2, y3, y4, y5, y6, y7, y8, st) := by
  unfold LX4_readInto_33 JX4_readInto_33
  by_cases c : 12 < x
  · rw [if_pos c, gn0]
  · rw [if_neg c, ifz, gn0]
theorem r125f {m kd : Nat} {th tpd s a wh kc kl kn k1 k2 kw ks km y1 y2 y3 y4 y5 y6 y7 bg x : Int32} {tp idx ix : Nat → Int32} (h1 : 1 ≤ kd) (h2 : kd ≤ 3) : LX10_rule_125 (m + 1) th tpd s a (nI kd) wh kc kl kn k1 k2 kw ks km y1 y2 y3 y4 y5 y6 y7 bg tp idx ix x = some (nI kd - 10, th, tpd, s, a, nI kd, wh, kc, kl, kn, k1, k2, kw, ks, km, y1, y2, y3, y4, y5, y6, y7, bg, idx, ix) := by
  unfold LX10_rule_125 JX10_rule_125 JX10_rule_186
  rw [if_neg (nI_n0 h1 (by omega)), if_neg (nI_nle h1 (by omega))]
theorem cp_L {th tpd s a fa pl kc kl kn k1 k2 kw ks km y1 y2 y3 y4 y5 y6 y7 bg x : Int32} {tp ix : Nat → Int32} : ∀ (d i n : Nat) (idx : Nat → Int32), i + d = 9 → d + 1 ≤ n → ∃ idx' : Nat → Int32, (∀ j, j < 9 → idx' j = if i ≤ j then ix j else idx j) ∧ LX10_rule_264 n th tpd s a fa pl kc kl kn k1 k2 kw ks km y1 y2 y3 y4 y5 y6 y7 bg tp idx ix x (nI i) = some (x, th, tpd, s, a, fa, pl, kc, kl, kn, k1, k2, kw, ks, km, y1, y2, y3, y4, y5, y6, y7, bg, idx', ix) := by
  intro d
  induction d with
  | zero =>
    intro i n idx hi hn
    obtain ⟨n, rfl⟩ : ∃ m, n = m + 1 := ⟨n - 1, by omega⟩
    refine ⟨idx, fun j hj => by rw [if_neg (by omega)], ?_⟩
    unfold LX10_rule_264 JX10_rule_264
    rw [if_pos (show (9 : Int32) ≤ nI i from nI_le (a := 9) (by omega) (by omega))]
  | succ d ih =>
    intro i n idx hi hn
    obtain ⟨n, rfl⟩ : ∃ m, n = m + 1 := ⟨n - 1, by omega⟩
    obtain ⟨idx', i1, i2⟩ := ih (i + 1) n (upd idx i (ix i)) (by omega) (by omega)
    refine ⟨idx', fun j hj => ?_, ?_⟩
    · rw [i1 j hj]
      by_cases c : i + 1 ≤ j
      · rw [if_pos c, if_pos (by omega)]
      · by_cases c2 : j = i
        · rw [if_neg c, c2, pk_us, if_pos (Nat.le_refl _)]
        · rw [if_neg c, pk_un c2, if_neg (by omega)]
    · conv => { lhs; unfold LX10_rule_264 JX10_rule_264 }
      rw [if_neg (show ¬ (9 : Int32) ≤ nI i from nI_ge (a := i) (b := 9) (by omega) (by omega)), gd_in (by omega) (by omega), gd_in (by omega) (by omega), bn_s, bn_s, nI_clamp (by omega), nI_1]
      exact i2
/-- all clauses -/
theorem loop_s {k L : Nat} {f tp : Nat → Int32} {g : Nat → Nat} {th tpd kc kl kn k1 k2 kw ks km : Int32} {idx : Nat → Int32} (h : TH k L f tp g) : ∀ (d i p n n' w c : Nat) (np li ne sh so sto bg : Int32) (st ix : Nat → Int32), i + d = 13 → i ≤ 12 → d + 500 ≤ n → d + 500 ≤ n' → p ≤ L → Bl k L f tp g p p → 0 ≤ ne.toInt ∧ 0 ≤ sto.toInt → 2 ≤ w ∧ w ≤ 60 → SpR c st ix →
    (∃ (w' c' : Nat) (pC np' at' bg' li' ne' sh' so' sto' cl' : Int32) (st' ix' idx' : Nat → Int32), (0 ≤ ne'.toInt ∧ 0 ≤ sto'.toInt) ∧ (2 ≤ w' ∧ w' ≤ 60) ∧ SpR c' st' idx' ∧
      LX4_readInto_33 n (nI L) (nI p) np 0 (-1) (nI k) f li ne sh so (nI w) sto (nI c) (nI i) st 1 (nI i) = some (1, nI L, pC, np', 0, -1, li', ne', sh', so', nI w', sto', nI c', cl', st') ∧
      LX10_rule_125 n' th tpd (nI L) (nI p) 0 (-1) kc kl kn k1 k2 kw ks km li ne sh so (nI w) sto (nI c) bg tp idx ix (nI i) = some (cl', th, tpd, nI L, at', 0, -1, cl', li', ne', sh', so', nI w', sto', nI c', li', ne', sh', so', nI w', sto', nI c', bg', idx', ix')) ∨
    (∃ (kd : Nat) (wh pC np' at' bg' a1 a2 a3 a4 a5 a6 a7 a8 b1 b2 b3 b4 b5 b6 b7 : Int32) (st' ix' : Nat → Int32), (1 ≤ kd ∧ kd ≤ 3) ∧
      LX4_readInto_33 n (nI L) (nI p) np 0 (-1) (nI k) f li ne sh so (nI w) sto (nI c) (nI i) st 1 (nI i) = some (0, nI L, pC, np', nI kd, wh, a1, a2, a3, a4, a5, a6, a7, a8, st') ∧
      LX10_rule_125 n' th tpd (nI L) (nI p) 0 (-1) kc kl kn k1 k2 kw ks km li ne sh so (nI w) sto (nI c) bg tp idx ix (nI i) = some (nI kd - 10, th, tpd, nI L, at', nI kd, wh, kc, kl, kn, k1, k2, kw, ks, km, b1, b2, b3, b4, b5, b6, b7, bg', idx, ix')) := by
  have hk := h.1
  have hk2 := h.2.1
  intro d
  induction d with
  | zero => intro i p n n' w c np li ne sh so sto bg st ix hi hi2; omega
  | succ d ih =>
    intro i p n n' w c np li ne sh so sto bg st ix hi hi2 hn hn' hpL hb h1 h2 h3
    obtain ⟨n, rfl⟩ : ∃ m, n = m + 1 := ⟨n - 1, by omega⟩
    obtain ⟨n', rfl⟩ : ∃ m, n' = m + 1 := ⟨n' - 1, by omega⟩
    have n12 : ¬ (12 : Int32) < nI i := nI_nlt (a := 12) (b := i) (by omega) (by omega)
    have hC0 : LX4_readInto_33 (n + 1) (nI L) (nI p) np 0 (-1) (nI k) f li ne sh so (nI w) sto (nI c) (nI i) st 1 (nI i) = JX4_readInto_33 (LX4_readInto_33 n) n (nI L) (nI p) np 0 (-1) (nI k) f li ne sh so (nI w) sto (nI c) (nI i) st 1 (nI i) := rfl
    have hM0 : LX10_rule_125 (n' + 1) th tpd (nI L) (nI p) 0 (-1) kc kl kn k1 k2 kw ks km li ne sh so (nI w) sto (nI c) bg tp idx ix (nI i) = JX10_rule_125 (LX10_rule_125 n') n' th tpd (nI L) (nI p) 0 (-1) kc kl kn k1 k2 kw ks km li ne sh so (nI w) sto (nI c) bg tp idx ix (nI i) := rfl
    rw [hC0, hM0]
    unfold JX4_readInto_33 JX10_rule_125
    rw [if_neg n12, ifo, if_pos rfl]
    by_cases c1 : p < L
    · rw [if_neg (nI_ge c1 (by omega)), if_neg (nI_ge c1 (by omega))]
      by_cases c2 : i = 12
      · subst c2
        rw [if_pos (by decide)]
        right
        unfold FX4_readClause FX4_refuse
        rcases kind_s h (by omega) hb with ⟨e, he, hC, hM⟩ | ⟨w0, hw0, heL, hC, hM⟩
        · obtain ⟨z, hz⟩ := bl_ex (p := e) h (by omega)
          obtain ⟨n, rfl⟩ : ∃ m, n = m + 1 := ⟨n - 1, by omega⟩
          obtain ⟨n', rfl⟩ : ∃ m, n' = m + 1 := ⟨n' - 1, by omega⟩
          rw [hC _ (by omega), ob2_s, if_pos rfl, ob3_s, gn0, ob14_s, hz.2.2.2.1 _ (by omega), ob1_s, bn_s, rI_f, hM _ (by omega), ob2_s, if_pos (by decide), wr0, show (1 : Int32) = nI 1 from rfl, r125f (by omega) (by omega)]
          exact ⟨1, _, _, _, _, _, _, _, _, _, _, _, _, _, _, _, _, _, _, _, _, _, _, by omega, rfl, rfl⟩
        · obtain ⟨z, hz⟩ := bl_ex (p := p + sLen.getD w0 0) h (by omega)
          obtain ⟨n, rfl⟩ : ∃ m, n = m + 1 := ⟨n - 1, by omega⟩
          obtain ⟨n', rfl⟩ : ∃ m, n' = m + 1 := ⟨n' - 1, by omega⟩
          rw [hC _ (by omega), ob2_s, if_neg (nI_nm (by omega)), if_neg (by decide), ob3_s, gn0, ob14_s, hz.2.2.2.1 _ (by omega), ob1_s, bn_s, rI_f, hM _ (by omega), ob2_s, if_neg (nI_pos (by omega)), wr0, show (3 : Int32) = nI 3 from rfl, r125f (by omega) (by omega)]
          exact ⟨3, _, _, _, _, _, _, _, _, _, _, _, _, _, _, _, _, _, _, _, _, _, _, by omega, rfl, rfl⟩
      · rw [if_neg (fun e9 => c2 ((nI_eqL i 12 (by omega) (by decide)).mp e9))]
        rcases clause_o (n := n) (n' := n') (np := np) (fk := 0) (fp := -1) (pl := -1) (li := li) (sh := sh) (so := so) (sto := sto) (bg := bg) (cl := i) h (by omega) hb (by omega) (by omega) (by omega) h1 h2 h3 with ⟨e, w2, c3, np2, li2, ne2, sh2, so2, sto2, bg2, st2, ix2, he, q1, q2, q3, q4, q5⟩ | ⟨e, e', kd, wh, he, he', hkd, ⟨np2, a1, a2, a3, a4, a5, a6, a7, a8, st2, q4⟩, b1, b2, b3, b4, b5, b6, b7, b8, ix2, q5⟩
        · obtain ⟨z, hz⟩ := bl_ex (p := e) h (by omega)
          rw [q4, ob14_s, hz.2.2.2.1 _ (by omega), ob1_s, bn_s, q5, ob12_s, bn_s, hz.2.2.2.2 _ (by omega), ob1_s, nI_1]
          exact ih (i + 1) z n n' w2 c3 np2 li2 ne2 sh2 so2 sto2 bg2 st2 ix2 (by omega) (by omega) (by omega) (by omega) (by have := hz.2.1; omega) (Bl.again h (by omega) hz) q1 q2 q3
        · obtain ⟨z, hz⟩ := bl_ex (p := e) h (by omega)
          obtain ⟨z', hz'⟩ := bl_ex (p := e') h (by omega)
          obtain ⟨n, rfl⟩ : ∃ m, n = m + 1 := ⟨n - 1, by omega⟩
          obtain ⟨n', rfl⟩ : ∃ m, n' = m + 1 := ⟨n' - 1, by omega⟩
          rw [q4, ob14_s, hz.2.2.2.1 _ (by omega), ob1_s, bn_s, rI_f, q5, ob12_s, bn_s, hz'.2.2.2.2 _ (by omega), ob1_s, r125f hkd.1 hkd.2]
          exact Or.inr ⟨kd, _, _, _, _, _, _, _, _, _, _, _, _, _, _, _, _, _, _, _, _, _, _, hkd, rfl, rfl⟩
    · obtain ⟨idx', i1, i2⟩ := cp_L (th := th) (tpd := tpd) (s := nI L) (a := nI p) (fa := 0) (pl := -1) (kc := nI i) (kl := li) (kn := ne) (k1 := sh) (k2 := so) (kw := nI w) (ks := sto) (km := nI c) (y1 := li) (y2 := ne) (y3 := sh) (y4 := so) (y5 := nI w) (y6 := sto) (y7 := nI c) (bg := bg) (x := nI i) (tp := tp) (ix := ix) 9 0 n' idx (by omega) (by omega)
      rw [if_pos (nI_le (by omega) (by omega)), if_pos (nI_le (by omega) (by omega)), gn1]
      unfold JX10_rule_186
      rw [if_pos (by decide)]
      exact Or.inl ⟨w, c, _, _, _, _, li, ne, sh, so, sto, nI i, st, ix, idx', h1, h2, ⟨h3.1, fun j hj => by rw [i1 j (by have := h3.1; omega), if_pos (Nat.zero_le _)]; exact h3.2 j hj⟩, rfl, i2⟩
/-- the first steps -/
def fix (s : Nat → Int32) : Nat → Int32 := upd (upd (upd (upd (upd (upd (upd (upd (upd s 0 5) 1 10) 2 20) 3 40) 4 70) 5 120) 6 200) 7 330) 8 500
theorem fix_eq {s t : Nat → Int32} : SpR 9 (fix s) (fix t) := ⟨Nat.le_refl _, fun j hj => by
  have : j = 0 ∨ j = 1 ∨ j = 2 ∨ j = 3 ∨ j = 4 ∨ j = 5 ∨ j = 6 ∨ j = 7 ∨ j = 8 := by omega
  rcases this with e | e | e | e | e | e | e | e | e <;> subst e <;> rfl⟩
theorem as_s {n j : Nat} {st : Nat → Int32} {v : Int32} (hj : j < 9) {β : Type} (F : Int32 → (Nat → Int32) → Option β) : ob2 (FX3_addStep n (nI j) st v) F = F (nI (j + 1)) (upd st j v) := by
  unfold FX3_addStep
  rw [if_neg (show ¬ (9 : Int32) ≤ nI j from nI_ge (a := j) (b := 9) (by omega) (by omega)), gd_in (by omega) (by omega), bn_s, bn_s, nI_clamp (by omega), nI_1]
  rfl
theorem as_0 {n : Nat} {st : Nat → Int32} {v : Int32} {β : Type} (F : Int32 → (Nat → Int32) → Option β) : ob2 (FX3_addStep n 0 st v) F = F (nI 1) (upd st 0 v) := as_s (j := 0) (by omega) F
theorem rreset_s {n : Nat} {a1 a2 a3 a4 a5 a6 a7 a8 : Int32} {st : Nat → Int32} : FX3_reset n a1 a2 a3 a4 a5 a6 a7 a8 st = some (50, 5, 1, 2, 10, 5, nI 9, 0, fix st) := by
  unfold FX3_reset FX3_clearSteps
  rw [ob1_s, as_0, as_s (by omega), as_s (by omega), as_s (by omega), as_s (by omega), as_s (by omega), as_s (by omega), as_s (by omega), as_s (by omega)]
  rfl
theorem r97s {m j : Nat} {v th tpd s a fa pl kc kl kn k1 k2 kw ks km y1 y2 y3 y4 y5 y6 y7 bg : Int32} {tp idx ix : Nat → Int32} (hj : j < 9) (hf : FX10_firstIndex m (nI j) = some v) : LX10_rule_97 (m + 1) th tpd s a fa pl kc kl kn k1 k2 kw ks km y1 y2 y3 y4 y5 y6 y7 bg tp idx ix (nI j) = LX10_rule_97 m th tpd s a fa pl kc kl kn k1 k2 kw ks km y1 y2 y3 y4 y5 y6 y7 bg tp idx (upd ix j v) (nI (j + 1)) := by
  conv => { lhs; unfold LX10_rule_97 JX10_rule_97 }
  rw [if_neg (show ¬ (9 : Int32) ≤ nI j from nI_ge (a := j) (b := 9) (by omega) (by omega)), hf, ob1_s, gd_in (by omega) (by omega), bn_s, bn_s, nI_clamp (by omega), nI_1]
theorem r97 {m : Nat} {th tpd s a fa pl kc kl kn k1 k2 kw ks km y1 y2 y3 y4 y5 y6 y7 bg : Int32} {tp idx ix : Nat → Int32} : LX10_rule_97 (m + 10) th tpd s a fa pl kc kl kn k1 k2 kw ks km y1 y2 y3 y4 y5 y6 y7 bg tp idx ix 0 = ob1 (FX10_blanks m s a tp) (fun v8 => LX10_rule_125 m th tpd s v8 fa pl kc kl kn k1 k2 kw ks km y1 y2 y3 y4 y5 y6 y7 bg tp idx (fix ix) 0) := by
  have e : LX10_rule_97 (m + 1 + 1 + 1 + 1 + 1 + 1 + 1 + 1 + 1 + 1) th tpd s a fa pl kc kl kn k1 k2 kw ks km y1 y2 y3 y4 y5 y6 y7 bg tp idx ix (nI 0) = LX10_rule_97 (m + 1) th tpd s a fa pl kc kl kn k1 k2 kw ks km y1 y2 y3 y4 y5 y6 y7 bg tp idx (fix ix) (nI 9) := by
    rw [r97s (j := 0) (v := 5) (by omega) rfl, r97s (j := 1) (v := 10) (by omega) rfl, r97s (j := 2) (v := 20) (by omega) rfl, r97s (j := 3) (v := 40) (by omega) rfl, r97s (j := 4) (v := 70) (by omega) rfl, r97s (j := 5) (v := 120) (by omega) rfl, r97s (j := 6) (v := 200) (by omega) rfl, r97s (j := 7) (v := 330) (by omega) rfl, r97s (j := 8) (v := 500) (by omega) rfl]
    rfl
  refine Eq.trans e ?_
  conv => { lhs; unfold LX10_rule_97 JX10_rule_97 }
  rw [if_pos (by decide)]
theorem call_rule {n n' kk w c : Nat} {f tp st ix est nix : Nat → Int32} {len plc np fk fp li ne sh so sto cl e1 e2 e3 e4 e5 e6 e7 e8 th sz at' fa m1 m2 m3 m4 m5 m6 m7 bg p : Int32} (hn : 1000 ≤ n) (hn' : 1000 ≤ n') (hT : TpR kk f tp) (hne : 0 ≤ ne.toInt ∧ 0 ≤ sto.toInt) (hw : 2 ≤ w ∧ w ≤ 60) (hS : SpR c st ix) :
    ∃ (o kk' w' c' : Nat) (r len' plc' np' fk' fp' li' ne' sh' so' sto' cl' d1 d2 d3 d4 d5 d6 d7 d8 b th' sz' at2 fa' q1 q2 q3 q4 q5 q6 q7 bg' : Int32) (st' dst ix' nix' : Nat → Int32),
      FX9_rule n f (nI kk) len plc np fk fp li ne sh so (nI w) sto st (nI c) cl e1 e2 e3 e4 e5 e6 est e7 e8 p = some (o, r, nI kk', len', plc', np', fk', fp', li', ne', sh', so', nI w', sto', st', nI c', cl', d1, d2, d3, d4, d5, d6, dst, d7, d8) ∧
      FX10_rule n' th (nI kk) sz at' fa fp cl li ne sh so (nI w) sto (nI c) m1 m2 m3 m4 m5 m6 m7 bg tp ix nix p = some (b, th', nI kk', sz', at2, fa', fp', cl', li', ne', sh', so', nI w', sto', nI c', q1, q2, q3, q4, q5, q6, q7, bg', ix', nix') ∧
      TpR kk' f tp ∧ (0 ≤ ne'.toInt ∧ 0 ≤ sto'.toInt) ∧ (2 ≤ w' ∧ w' ≤ 60) ∧ SpR c' st' ix' ∧ Ans2 o r b th' := by
  have hk := hT.1
  have hkt : (nI kk).toInt = kk := nI_toInt (by omega)
  unfold FX9_rule FX5_size
  rw [ob1_s]
  by_cases hp : (0 : Int32).toInt ≤ p.toInt ∧ p.toInt ≤ (nI kk).toInt
  · obtain ⟨L, hL, rfl⟩ := of_lt (x := p) (N := kk + 1) (by have := hp.1; rw [t_0] at this; omega) (by have := hp.2; rw [hkt] at this; omega) (by omega)
    obtain ⟨g, hg⟩ := hT.th (L := L) (by omega)
    obtain ⟨z, hz⟩ := bl_ex (p := 0) hg (by omega)
    have hzL : z ≤ L := by have := hz.2.1; omega
    have hm : ∃ m, n' = m + 10 := ⟨n' - 10, by omega⟩
    obtain ⟨m, rfl⟩ := hm
    have hMr : FX10_rule (m + 10) th (nI kk) sz at' fa fp cl li ne sh so (nI w) sto (nI c) m1 m2 m3 m4 m5 m6 m7 bg tp ix nix (nI L) = LX10_rule_125 m 0 0 (nI L) (nI z) 0 (-1) cl li ne sh so (nI w) sto (nI c) 50 5 1 2 (nI 10) 5 (nI 9) bg tp ix (fix nix) (nI 0) := by
      unfold FX10_rule
      rw [if_neg (nI_pos (by omega)), if_pos (nI_le (by omega) (by omega))]
      unfold JX10_rule_23
      rw [bd0, ifz, r97, show FX10_blanks m (nI L) 0 tp = _ from hz.2.2.2.2 m (by omega), ob1_s]
      rfl
    have hCr : FX4_readInto n len plc np fk fp (nI kk) f e1 e2 e3 e4 e5 e6 e7 e8 est (nI L) = LX4_readInto_33 n (nI L) (nI z) np 0 (-1) (nI kk) f 50 5 1 2 (nI 10) 5 (nI 9) (nI 0) (fix est) 1 (nI 0) := by
      unfold FX4_readInto
      rw [rreset_s, ob9_s, show FX4_skipBlanks n (nI L) 0 (nI kk) f = _ from hz.2.2.2.1 n (by omega), ob1_s]
      rfl
    rw [wi1 hp, ifo, dm1, hMr, hCr]
    unfold FX5_empty FX4_faultKind
    rcases loop_s (th := 0) (tpd := 0) (kc := cl) (kl := li) (kn := ne) (k1 := sh) (k2 := so) (kw := nI w) (ks := sto) (km := nI c) (idx := ix) hg 13 0 z n m 10 9 np 50 5 1 2 5 bg (fix est) (fix nix) (by omega) (by omega) (by omega) (by omega) hzL (Bl.again hg (by omega) hz) (by decide) (by omega) fix_eq with ⟨w2, c2, pC, np2, at2, bg2, li2, ne2, sh2, so2, sto2, cl2, st2, ix2, idx2, j1, j2, j3, j4, j5⟩ | ⟨kd, wh, pC, np2, at2, bg2, a1, a2, a3, a4, a5, a6, a7, a8, b1, b2, b3, b4, b5, b6, b7, st2, ix2, hkd, j4, j5⟩
    · rw [j4, ob15_s, ob1_s, ifo]
      unfold FX3_become
      rw [bn_s, ob9_s, j5]
      exact ⟨0, 0, w2, c2, _, _, _, _, _, _, _, _, _, _, _, _, _, _, _, _, _, _, _, _, _, _, _, _, _, _, _, _, _, _, _, _, _, _, _, _, _, rfl, rfl, ⟨Nat.zero_le _, fun i hi => by omega⟩, j1, j2, ⟨j3.1, fun j hj => by
        have := j3.1
        rw [← j3.2 j hj]
        show va_cpy st2 st 0 0 9 j = st2 j
        rw [pk_cpy_in (by omega) (by omega)]
        congr 1; omega⟩, Or.inl ⟨rfl, rfl, rfl⟩⟩
    · rw [j4, ob15_s, ob1_s, ifz, ob1_s, j5]
      exact ⟨0, 0, w, c, _, _, _, _, _, _, _, _, _, _, _, _, _, _, _, _, _, _, _, _, _, _, _, _, _, _, _, _, _, _, _, _, _, _, _, _, _, rfl, rfl, ⟨Nat.zero_le _, fun i hi => by omega⟩, hne, hw, hS, Or.inl ⟨rfl, rfl, rfl⟩⟩
  · rw [wi0 hp, ifz]
    have hM : FX10_rule n' th (nI kk) sz at' fa fp cl li ne sh so (nI w) sto (nI c) m1 m2 m3 m4 m5 m6 m7 bg tp ix nix p = some (0, 1, nI kk, sz, at', fa, fp, cl, li, ne, sh, so, nI w, sto, nI c, m1, m2, m3, m4, m5, m6, m7, bg, ix, nix) := by
      unfold FX10_rule JX10_rule_18 JX10_rule_23
      rw [bd1, ifo]
      rw [t_0, hkt] at hp
      by_cases c1 : p < 0
      · rw [if_pos c1]
      · rw [if_neg c1, if_neg (fun h9 => by
          have h8 := i_le.mp h9
          have h7 := mt i_lt.mpr c1
          rw [hkt] at h8; rw [t_0] at h7
          exact hp ⟨by omega, h8⟩)]
    rw [hM]
    exact ⟨2, kk, w, c, _, _, _, _, _, _, _, _, _, _, _, _, _, _, _, _, _, _, _, _, _, _, _, _, _, _, _, _, _, _, _, _, _, _, _, _, _, rfl, rfl, hT, hne, hw, hS, Or.inr ⟨rfl, rfl⟩⟩
