theorem rn67 {n L k e q v : Nat} {fk fp : Int32} {f : Nat → Int32} (he : e < 2000) (hq : q < 2000) (hv : v < 2000000) : JX4_readNumber_67 n (nI L) (nI e) (nI q) fk fp (nI k) f (nI (min v 10001)) = some (if e = q then (-1, nI e, nI q, 1, nI e) else if v ≤ 10000 then (nI v, nI e, nI q, fk, fp) else (-1, nI e, nI q, 2, nI q)) := by
  unfold JX4_readNumber_67 FX4_refuse
  by_cases c : e = q
  · rw [if_pos (by rw [c]), ob3_s, if_pos c]
  · rw [if_neg (fun e9 => c ((nI_eq (by omega) (by omega)).mp e9)), if_neg c]
    by_cases c2 : v ≤ 10000
    · rw [if_pos (show nI (min v 10001) ≤ (10000 : Int32) from nI_le (a := min v 10001) (b := 10000) (by omega) (by omega)), if_pos c2, show min v 10001 = v by omega]
    · rw [if_neg (show ¬ nI (min v 10001) ≤ (10000 : Int32) from nI_ge (a := 10000) (b := min v 10001) (by omega) (by omega)), if_neg c2, ob3_s]
theorem wr0 {n : Nat} {pl a b : Int32} {β : Type} (F : Int32 → Int32 → Option β) : ob2 (FX10_wrong n 0 pl a b) F = F a b := by unfold FX10_wrong; rw [if_pos (by decide)]; rfl
theorem nm_end {n e q v : Nat} {pl lo hi : Int32} (hv : v < 2000000) : (if nI v < lo then (ob2 (FX10_wrong n 0 pl 2 (nI q)) (fun v18 v19 => some (nI v, nI e, v18, v19, nI q))) else (if nI v ≤ hi then (some (nI v, nI e, (0 : Int32), pl, nI q)) else (ob2 (FX10_wrong n 0 pl 2 (nI q)) (fun v22 v23 => some (nI v, nI e, v22, v23, nI q))))) = some (if lo.toInt ≤ v ∧ v ≤ hi.toInt then (nI v, nI e, 0, pl, nI q) else (nI v, nI e, 2, nI q, nI q)) := by
  rw [wr0]
  by_cases c1 : nI v < lo
  · have := i_lt.mp c1
    rw [nI_toInt (by omega)] at this
    rw [if_pos c1, if_neg (by omega)]
  · have h1 := mt i_lt.mpr c1
    rw [nI_toInt (by omega)] at h1
    rw [if_neg c1]
    by_cases c2 : nI v ≤ hi
    · have h2 := i_le.mp c2
      rw [nI_toInt (by omega)] at h2
      rw [if_pos c2, if_pos (by omega)]
    · have h2 := mt i_le.mpr c2
      rw [nI_toInt (by omega)] at h2
      rw [if_neg c2, if_neg (by omega)]
theorem nm_L {k L q : Nat} {f tp : Nat → Int32} {g : Nat → Nat} (h : TH k L f tp g) (hq : q < 1000) : ∀ d p v, p < 1000 → L ≤ p + d → v ≤ 1000009 → ∃ e v', p ≤ e ∧ (e ≤ L ∨ e = p) ∧ (p < L ∧ 48 ≤ g p ∧ g p ≤ 57 → p < e) ∧ (¬ (p < L ∧ 48 ≤ g p ∧ g p ≤ 57) → e = p) ∧ v' ≤ 1000009 ∧
    (∀ n, d + 1 ≤ n → ∀ fk fp, LX4_readNumber_14 n (nI L) (nI p) (nI q) fk fp (nI k) f (nI (min v 10001)) = some (if e = q then (-1, nI e, nI q, 1, nI e) else if v' ≤ 10000 then (nI v', nI e, nI q, fk, fp) else (-1, nI e, nI q, 2, nI q))) ∧
    (∀ n, d + 1 ≤ n → ∀ pl lo hi, LX10_number_48 n (nI L) (nI p) 0 pl (nI q) tp lo hi (nI v) = some (if lo.toInt ≤ v' ∧ v' ≤ hi.toInt then (nI v', nI e, 0, pl, nI q) else (nI v', nI e, 2, nI q, nI q))) := by
  have hk := h.1
  have hk2 := h.2.1
  have stop : ∀ d p v, p < 1000 → v ≤ 1000009 → ¬ (p < L ∧ 48 ≤ g p ∧ g p ≤ 57) → ∃ e v', p ≤ e ∧ (e ≤ L ∨ e = p) ∧ (p < L ∧ 48 ≤ g p ∧ g p ≤ 57 → p < e) ∧ (¬ (p < L ∧ 48 ≤ g p ∧ g p ≤ 57) → e = p) ∧ v' ≤ 1000009 ∧
    (∀ n, d + 1 ≤ n → ∀ fk fp, LX4_readNumber_14 n (nI L) (nI p) (nI q) fk fp (nI k) f (nI (min v 10001)) = some (if e = q then (-1, nI e, nI q, 1, nI e) else if v' ≤ 10000 then (nI v', nI e, nI q, fk, fp) else (-1, nI e, nI q, 2, nI q))) ∧
    (∀ n, d + 1 ≤ n → ∀ pl lo hi, LX10_number_48 n (nI L) (nI p) 0 pl (nI q) tp lo hi (nI v) = some (if lo.toInt ≤ v' ∧ v' ≤ hi.toInt then (nI v', nI e, 0, pl, nI q) else (nI v', nI e, 2, nI q, nI q))) := by
    intro d p v hp hv hc
    refine ⟨p, v, Nat.le_refl _, Or.inr rfl, fun h9 => absurd h9 hc, fun _ => rfl, hv, fun n hn fk fp => ?_, fun n hn pl lo hi => ?_⟩
    · obtain ⟨n, rfl⟩ : ∃ m, n = m + 1 := ⟨n - 1, by omega⟩
      unfold LX4_readNumber_14 JX4_readNumber_14
      by_cases c : p < L
      · have hg := (h.2.2 p (by omega)).2.2
        rw [if_neg (nI_ge c (by omega)), look_i h c, ob1_s, dgC0 (fun h9 => hc ⟨c, h9⟩) (by omega), ob1_s, ifz, rn67 (by omega) (by omega) (by omega)]
      · rw [if_pos (nI_le (by omega) (by omega)), rn67 (by omega) (by omega) (by omega)]
    · obtain ⟨n, rfl⟩ : ∃ m, n = m + 1 := ⟨n - 1, by omega⟩
      unfold LX10_number_48 JX10_number_48
      by_cases c : p < L
      · have hg := (h.2.2 p (by omega)).2.2
        rw [mby_i h c, ob1_s, dgM0 (fun h9 => hc ⟨c, h9⟩) (by omega), ob1_s, ifz]
        exact nm_end (by omega)
      · rw [mby_o (by omega) (by omega), ob1_s, dgM0 (by omega) (by omega), ob1_s, ifz]
        exact nm_end (by omega)
  intro d
  induction d with
  | zero => intro p v hp hd hv; exact stop 0 p v hp hv (by omega)
  | succ d ih =>
    intro p v hp hd hv
    by_cases hc : p < L ∧ 48 ≤ g p ∧ g p ≤ 57
    · obtain ⟨c, hdg⟩ := hc
      obtain ⟨e, v', i1, i2, i3, i4, i5, i6, i7⟩ := ih (p + 1) (if v ≤ 100000 then 10 * v + g p - 48 else v) (by omega) (by omega) (by by_cases c9 : v ≤ 100000 <;> simp only [c9, if_true, if_false] <;> omega)
      refine ⟨e, v', by omega, by omega, fun _ => by omega, fun h9 => absurd ⟨c, hdg⟩ h9, i5, fun n hn fk fp => ?_, fun n hn pl lo hi => ?_⟩
      · obtain ⟨n, rfl⟩ : ∃ m, n = m + 1 := ⟨n - 1, by omega⟩
        have e1 : (nI (min v 10001) * 10 + nI (g p)) - 48 = nI (min v 10001 * 10 + g p - 48) := by
          rw [show (10 : Int32) = nI 10 from rfl, pk_mul, nI_add, show (48 : Int32) = nI 48 from rfl, pk_sub (by omega)]
        have e2 : (if (10001 : Int32) < nI (min v 10001 * 10 + g p - 48) then (10001 : Int32) else nI (min v 10001 * 10 + g p - 48)) = nI (min (if v ≤ 100000 then 10 * v + g p - 48 else v) 10001) := by
          by_cases c2 : 10001 < min v 10001 * 10 + g p - 48
          · rw [if_pos (show (10001 : Int32) < nI (min v 10001 * 10 + g p - 48) from nI_lt (a := 10001) c2 (by omega))]
            rw [show min (if v ≤ 100000 then 10 * v + g p - 48 else v) 10001 = 10001 by by_cases c9 : v ≤ 100000 <;> simp only [c9, if_true, if_false] <;> omega]
            rfl
          · rw [if_neg (show ¬ (10001 : Int32) < nI (min v 10001 * 10 + g p - 48) from nI_nlt (a := 10001) (by omega) (by omega))]
            congr 1
            by_cases c9 : v ≤ 100000 <;> simp only [c9, if_true, if_false] <;> omega
        conv => { lhs; unfold LX4_readNumber_14 JX4_readNumber_14 }
        rw [if_neg (nI_ge c (by omega)), look_i h c, ob1_s, dgC1 hdg, ob1_s, ifo, ob1_s, bn_s, bn_s, e1, e2, nI_1]
        exact i6 n (by omega) fk fp
      · obtain ⟨n, rfl⟩ : ∃ m, n = m + 1 := ⟨n - 1, by omega⟩
        conv => { lhs; unfold LX10_number_48 JX10_number_48 }
        rw [mby_i h c, ob1_s, dgM1 hdg, ob1_s, ifo]
        have i7 := i7 n (by omega) pl lo hi
        by_cases c9 : v ≤ 100000
        · rw [if_pos c9] at i7
          have e1 : (10 * nI v + nI (g p)) - 48 = nI (10 * v + g p - 48) := by
            rw [show (10 : Int32) = nI 10 from rfl, pk_mul, nI_add, show (48 : Int32) = nI 48 from rfl, pk_sub (by omega)]
          rw [if_pos (show nI v ≤ (100000 : Int32) from nI_le (a := v) (b := 100000) c9 (by omega)), ob1_s, bn_s, bn_s, e1, nI_1]
          exact i7
        · rw [if_neg c9] at i7
          rw [if_neg (show ¬ nI v ≤ (100000 : Int32) from nI_ge (a := 100000) (b := v) (by omega) (by omega)), bn_s, nI_1]
          exact i7
    · exact stop (d + 1) p v hp hv hc
/-- both read a number at p: a fault of the same kind at the same place, or the same number -/
theorem num_s {k L p : Nat} {f tp : Nat → Int32} {g : Nat → Nat} (h : TH k L f tp g) (hp : p < 900) :
    (∃ e q kd : Nat, ∃ wh : Int32, e < 950 ∧ (kd = 1 ∨ kd = 2) ∧ (∀ n np fk fp, 301 ≤ n → FX4_readNumber n (nI L) (nI p) np fk fp (nI k) f = some (-1, nI e, nI q, nI kd, wh)) ∧ ∀ n pl bg lo hi, 301 ≤ n → hi.toInt ≤ 10000 → ∃ vm, FX10_number n (nI L) (nI p) 0 pl bg tp lo hi = some (vm, nI e, nI kd, wh, nI q)) ∨
    (∃ e q v : Nat, e ≤ L ∧ v ≤ 10000 ∧ (∀ n np fk fp, 301 ≤ n → FX4_readNumber n (nI L) (nI p) np fk fp (nI k) f = some (nI v, nI e, nI q, fk, fp)) ∧ ∀ n pl bg lo hi, 301 ≤ n → FX10_number n (nI L) (nI p) 0 pl bg tp lo hi = some (if lo.toInt ≤ v ∧ v ≤ hi.toInt then (nI v, nI e, 0, pl, nI q) else (nI v, nI e, 2, nI q, nI q))) := by
  have hk := h.1
  have hk2 := h.2.1
  obtain ⟨q, b1, b2, b3, b4, b5⟩ := bl_ex (p := p) h (by omega)
  obtain ⟨e, v, i1, i2, i3, i4, i5, i6, i7⟩ := nm_L (q := q) h (by omega) 300 q 0 (by omega) (by omega) (by omega)
  rw [show min 0 10001 = 0 by omega] at i6
  have hC : ∀ n np fk fp, 301 ≤ n → FX4_readNumber n (nI L) (nI p) np fk fp (nI k) f = some (if e = q then (-1, nI e, nI q, 1, nI e) else if v ≤ 10000 then (nI v, nI e, nI q, fk, fp) else (-1, nI e, nI q, 2, nI q)) := fun n np fk fp hn => by
    unfold FX4_readNumber
    rw [b4 n hn, ob1_s]
    exact i6 n (by omega) fk fp
  by_cases c : q < L ∧ 48 ≤ g q ∧ g q ≤ 57
  · have hM : ∀ n pl bg lo hi, 301 ≤ n → FX10_number n (nI L) (nI p) 0 pl bg tp lo hi = some (if lo.toInt ≤ v ∧ v ≤ hi.toInt then (nI v, nI e, 0, pl, nI q) else (nI v, nI e, 2, nI q, nI q)) := fun n pl bg lo hi hn => by
      unfold FX10_number
      rw [if_pos (by decide), b5 n hn, ob1_s, mby_i h c.1, ob1_s, dgM1 c.2, ob1_s, ifo]
      exact i7 n (by omega) pl lo hi
    have := i3 c
    by_cases c2 : v ≤ 10000
    · right
      refine ⟨e, q, v, by omega, c2, fun n np fk fp hn => ?_, hM⟩
      rw [hC n np fk fp hn, if_neg (by omega), if_pos c2]
    · left
      refine ⟨e, q, 2, nI q, by omega, Or.inr rfl, fun n np fk fp hn => ?_, fun n pl bg lo hi hn hh => ⟨nI v, ?_⟩⟩
      · rw [hC n np fk fp hn, if_neg (by omega), if_neg c2]; rfl
      · rw [hM n pl bg lo hi hn, if_neg (by omega)]; rfl
  · left
    have := i4 c
    subst this
    refine ⟨e, e, 1, nI e, by omega, Or.inl rfl, fun n np fk fp hn => ?_, fun n pl bg lo hi hn hh => ⟨0, ?_⟩⟩
    · rw [hC n np fk fp hn, if_pos rfl]; rfl
    · unfold FX10_number
      rw [if_pos (by decide), b5 n hn, ob1_s]
      by_cases c2 : e < L
      · have hg := (h.2.2 e (by omega)).2.2
        rw [mby_i h c2, ob1_s, dgM0 (fun h9 => c ⟨c2, h9⟩) (by omega), ob1_s, ifz, wr0]; rfl
      · rw [mby_o (by omega) (by omega), ob1_s, dgM0 (by omega) (by omega), ob1_s, ifz, wr0]; rfl
/-- a clause of both: well read, or a fault of the same kind at the same place -/
def ClO (L : Nat) (fk fp : Int32) (cl : Nat) (pl : Int32) (C : Option (Int32 × Int32 × Int32 × Int32 × Int32 × Int32 × Int32 × Int32 × Int32 × Int32 × Int32 × Int32 × Int32 × (Nat → Int32))) (M : Option (Int32 × Int32 × Int32 × Int32 × Int32 × Int32 × Int32 × Int32 × Int32 × Int32 × Int32 × (Nat → Int32))) : Prop :=
  (∃ (e w c : Nat) (np li ne sh so sto bg : Int32) (st ix : Nat → Int32), e ≤ L ∧ (0 ≤ ne.toInt ∧ 0 ≤ sto.toInt) ∧ (2 ≤ w ∧ w ≤ 60) ∧ SpR c st ix ∧ C = some (1, nI e, np, fk, fp, li, ne, sh, so, nI w, sto, nI c, nI (cl + 1), st) ∧ M = some (nI e, 0, pl, li, ne, sh, so, nI w, sto, nI c, bg, ix)) ∨
  (∃ (e e' kd : Nat) (wh : Int32), e < 1000 ∧ e' < 1000 ∧ (1 ≤ kd ∧ kd ≤ 3) ∧ (∃ (np a1 a2 a3 a4 a5 a6 a7 a8 : Int32) (st : Nat → Int32), C = some (0, nI e, np, nI kd, wh, a1, a2, a3, a4, a5, a6, a7, a8, st)) ∧ ∃ (b1 b2 b3 b4 b5 b6 b7 b8 : Int32) (ix : Nat → Int32), M = some (nI e', nI kd, wh, b1, b2, b3, b4, b5, b6, b7, b8, ix))
theorem t70f {n : Nat} {x1 x2 x3 x4 x5 x6 y1 y2 y3 y4 y5 y6 y7 y8 : Int32} {b st : Nat → Int32} : JX4_readClause_70 n x1 x2 x3 x4 x5 x6 b y1 y2 y3 y4 y5 y6 y7 y8 st 0 = some (0, x2, x3, x4, x5, y1, y2, y3, y4, y5, y6, y7, y8, st) := by
  unfold JX4_readClause_70; rw [ifz]
theorem t311f {n kd : Nat} {x1 x2 x4 y1 y2 y3 y4 y5 y6 y7 bg : Int32} {tp ix : Nat → Int32} (h1 : 1 ≤ kd) (h2 : kd ≤ 3) : JX10_clause_311 n x1 x2 (nI kd) x4 y1 y2 y3 y4 y5 y6 y7 bg tp ix = some (x2, nI kd, x4, y1, y2, y3, y4, y5, y6, y7, bg, ix) := by
  unfold JX10_clause_311; rw [if_neg (nI_nle h1 (by omega))]
theorem fault_o {L n n' e e' kd cl : Nat} {fk fp pl wh x1 x3 x6 y1 y2 y3 y4 y5 y6 y7 y8 z1 w1 w2 w3 w4 w5 w6 w7 bg : Int32} {b st tp ix : Nat → Int32} (he : e < 1000) (he' : e' < 1000) (h1 : 1 ≤ kd) (h2 : kd ≤ 3) :
    ClO L fk fp cl pl (JX4_readClause_70 n x1 (nI e) x3 (nI kd) wh x6 b y1 y2 y3 y4 y5 y6 y7 y8 st 0) (JX10_clause_311 n' z1 (nI e') (nI kd) wh w1 w2 w3 w4 w5 w6 w7 bg tp ix) := by
  rw [t70f, t311f h1 h2]
  exact Or.inr ⟨e, e', kd, wh, he, he', ⟨h1, h2⟩, ⟨_, _, _, _, _, _, _, _, _, _, rfl⟩, _, _, _, _, _, _, _, _, _, rfl⟩
theorem tail_o {k L n n' e w c cl : Nat} {f tp st ix : Nat → Int32} {g : Nat → Nat} {np fk fp pl li ne sh so sto bg : Int32} (h : TH k L f tp g) (he : e < 900) (hn : 301 ≤ n) (hn' : 301 ≤ n') (h1 : 0 ≤ ne.toInt ∧ 0 ≤ sto.toInt) (h2 : 2 ≤ w ∧ w ≤ 60) (h3 : SpR c st ix) :
    ClO L fk fp cl pl (JX4_readClause_70 n (nI L) (nI e) np fk fp (nI k) f li ne sh so (nI w) sto (nI c) (nI cl) st 1) (JX10_clause_311 n' (nI L) (nI e) 0 pl li ne sh so (nI w) sto (nI c) bg tp ix) := by
  have hk := h.1
  have hk2 := h.2.1
  obtain ⟨q, b1, b2, b3, b4, b5⟩ := bl_ex (p := e) h (by omega)
  unfold JX4_readClause_70 JX10_clause_311
  rw [ifo, if_pos (by decide), b4 n hn, b5 n' hn', ob1_s, ob1_s]
  by_cases c1 : q < L
  · rw [look_i h c1, ob1_s, if_neg (nI_ge c1 (by omega)), mby_i h c1, ob1_s]
    by_cases c2 : nI (g q) = 59
    · rw [if_pos c2, if_pos c2, bn_s, bn_s, bn_s, nI_1, nI_1]
      exact Or.inl ⟨q + 1, w, c, np, li, ne, sh, so, sto, bg, st, ix, by omega, h1, h2, h3, rfl, rfl⟩
    · rw [if_neg c2, if_neg c2, wr0]
      unfold FX4_refuse
      rw [ob3_s, gn0]
      exact Or.inr ⟨q, q, 1, nI q, by omega, by omega, ⟨by omega, by omega⟩, ⟨_, _, _, _, _, _, _, _, _, _, rfl⟩, _, _, _, _, _, _, _, _, _, rfl⟩
  · rw [look_o (by omega) (by omega), ob1_s, if_neg (by decide), if_pos (nI_le (by omega) (by omega)), wr0]
    unfold FX4_refuse
    rw [ob3_s, gn0]
    exact Or.inr ⟨q, q, 1, nI q, by omega, by omega, ⟨by omega, by omega⟩, ⟨_, _, _, _, _, _, _, _, _, _, rfl⟩, _, _, _, _, _, _, _, _, _, rfl⟩
/-- the settings: limit, near, storm, window -/
theorem sett_o {k L n n' p w c cl kind : Nat} {f tp st ix : Nat → Int32} {g : Nat → Nat} {np fk fp pl li ne sh so sto bg : Int32} (h : TH k L f tp g) (hp : p < 900) (hn : 301 ≤ n) (hn' : 301 ≤ n') (h1 : 0 ≤ ne.toInt ∧ 0 ≤ sto.toInt) (h2 : 2 ≤ w ∧ w ≤ 60) (h3 : SpR c st ix) (hkd : kind = 0 ∨ kind = 1 ∨ kind = 3 ∨ kind = 4) :
    ClO L fk fp cl pl (ob9 (FX4_readSetting n (nI L) (nI p) np fk fp (nI k) f li ne (nI w) sto (nI kind)) (fun r8 v9 v10 v11 v12 v13 v14 v15 v16 => JX4_readClause_70 n (nI L) v9 v10 v11 v12 (nI k) f v13 v14 sh so v15 v16 (nI c) (nI cl) st r8))
      (if nI kind = 0 then (ob5 (FX10_number n' (nI L) (nI p) 0 pl bg tp 0 10000) (fun r46 v47 v48 v49 v50 => JX10_clause_311 n' (nI L) v47 v48 v49 r46 ne sh so (nI w) sto (nI c) v50 tp ix)) else (if nI kind = 1 then (ob5 (FX10_number n' (nI L) (nI p) 0 pl bg tp 0 10000) (fun r40 v41 v42 v43 v44 => JX10_clause_311 n' (nI L) v41 v42 v43 li r40 sh so (nI w) sto (nI c) v44 tp ix)) else (if nI kind = 3 then (ob5 (FX10_number n' (nI L) (nI p) 0 pl bg tp 2 60) (fun r20 v21 v22 v23 v24 => JX10_clause_311 n' (nI L) v21 v22 v23 li ne sh so r20 sto (nI c) v24 tp ix)) else (ob5 (FX10_number n' (nI L) (nI p) 0 pl bg tp 0 10000) (fun r14 v15 v16 v17 v18 => JX10_clause_311 n' (nI L) v15 v16 v17 li ne sh so (nI w) r14 (nI c) v18 tp ix))))) := by
  have hk := h.1
  have hk2 := h.2.1
  have t0 : (0 : Int32).toInt = 0 := rfl
  have t1 : (10000 : Int32).toInt = 10000 := rfl
  have t2 : (2 : Int32).toInt = 2 := rfl
  have t3 : (60 : Int32).toInt = 60 := rfl
  unfold FX4_readSetting
  rcases num_s (p := p) h hp with ⟨e, q, kd, wh, he, hkd2, hC, hM⟩ | ⟨e, q, v, he, hv, hC, hM⟩
  · rw [hC n np fk fp hn, ob5_s, if_pos rfl, ob9_s]
    obtain ⟨v1, m1⟩ := hM n' pl bg 0 10000 hn' (by rw [t1]; omega)
    obtain ⟨v2, m2⟩ := hM n' pl bg 2 60 hn' (by rw [t3]; omega)
    rcases hkd with e9 | e9 | e9 | e9 <;> subst e9
    · rw [if_pos (by decide), m1, ob5_s]; exact fault_o (by omega) (by omega) (by omega) (by omega)
    · rw [if_neg (by decide), if_pos (by decide), m1, ob5_s]; exact fault_o (by omega) (by omega) (by omega) (by omega)
    · rw [if_neg (by decide), if_neg (by decide), if_pos (by decide), m2, ob5_s]; exact fault_o (by omega) (by omega) (by omega) (by omega)
    · rw [if_neg (by decide), if_neg (by decide), if_neg (by decide), m1, ob5_s]; exact fault_o (by omega) (by omega) (by omega) (by omega)
  · have nv : ¬ nI v = -1 := fun e9 => by have := i_eq.mp e9; rw [nI_toInt (by omega), show (-1 : Int32).toInt = -1 from rfl] at this; omega
    have m1 := hM n' pl bg 0 10000 hn'
    have m2 := hM n' pl bg 2 60 hn'
    rw [t0, t1, if_pos (show (0 : Int) ≤ v ∧ (v : Int) ≤ 10000 by omega)] at m1
    rw [t2, t3] at m2
    rw [hC n np fk fp hn, ob5_s, if_neg nv]
    rcases hkd with e9 | e9 | e9 | e9 <;> subst e9
    · rw [if_pos (by decide), ob9_s, if_pos (by decide), m1, ob5_s]
      exact tail_o h (by omega) hn hn' h1 h2 h3
    · rw [if_neg (by decide), if_pos (by decide), ob9_s, if_neg (by decide), if_pos (by decide), m1, ob5_s]
      exact tail_o h (by omega) hn hn' ⟨by rw [nI_toInt (by omega)]; omega, h1.2⟩ h2 h3
    · rw [if_neg (by decide), if_neg (by decide), if_neg (by decide), if_pos (by decide), if_neg (by decide), if_neg (by decide), if_pos (by decide), m2]
      by_cases c2 : (2 : Int) ≤ v ∧ (v : Int) ≤ 60
      · rw [wi1 (by rw [nI_toInt (by omega), t2, t3]; exact c2), ifo, ob9_s, if_pos c2, ob5_s]
        exact tail_o h (by omega) hn hn' h1 (by omega) h3
      · rw [wi0 (by rw [nI_toInt (by omega), t2, t3]; exact c2), ifz, if_neg c2, ob5_s]
        unfold FX4_refuse
        rw [ob3_s, ifz, ob9_s]
        exact fault_o (kd := 2) (by omega) (by omega) (by omega) (by omega)
    · rw [if_neg (by decide), if_neg (by decide), if_neg (by decide), if_neg (by decide), if_pos (by decide), ob9_s, if_neg (by decide), if_neg (by decide), if_neg (by decide), m1, ob5_s]
      exact tail_o h (by omega) hn hn' ⟨h1.1, by rw [nI_toInt (by omega)]; omega⟩ h2 h3
theorem numF {n kd : Nat} {x1 x2 pl bg lo hi : Int32} {tp : Nat → Int32} (h1 : 1 ≤ kd) (h2 : kd ≤ 3) : FX10_number n x1 x2 (nI kd) pl bg tp lo hi = some (0, x2, nI kd, pl, bg) := by
  unfold FX10_number; rw [if_neg (nI_nle h1 (by omega))]
theorem c117F {n kd e : Nat} {x1 pl bg y1 y2 y3 y4 y5 y6 y7 : Int32} {tp ix : Nat → Int32} (h1 : 1 ≤ kd) (h2 : kd ≤ 3) : ∃ y4', JX10_clause_117 n x1 (nI e) (nI kd) pl y1 y2 y3 y4 y5 y6 y7 bg tp ix = some (nI (e + 2), nI kd, pl, y1, y2, y3, y4', y5, y6, y7, bg, ix) := by
  refine ⟨0, ?_⟩
  unfold JX10_clause_117 JX10_clause_145
  rw [bn_s, show nI e + 2 = nI (e + 2) from nI_add e 2, numF h1 h2, numF h1 h2, ob5_s, t311f h1 h2]
  by_cases c : 1 ≤ y3
  · rw [if_pos c]
  · rw [if_neg c]
/-- the share -/
theorem share_o {k L n n' p w c cl : Nat} {f tp st ix : Nat → Int32} {g : Nat → Nat} {np fk fp pl li ne sh so sto bg : Int32} (h : TH k L f tp g) (hp : p < 900) (hpL : p ≤ L) (hn : 301 ≤ n) (hn' : 301 ≤ n') (h1 : 0 ≤ ne.toInt ∧ 0 ≤ sto.toInt) (h2 : 2 ≤ w ∧ w ≤ 60) (h3 : SpR c st ix) :
    ClO L fk fp cl pl (ob7 (FX4_readShare n (nI L) (nI p) np fk fp (nI k) f sh so) (fun r18 v19 v20 v21 v22 v23 v24 => JX4_readClause_70 n (nI L) v19 v20 v21 v22 (nI k) f li ne v23 v24 (nI w) sto (nI c) (nI cl) st r18))
      (ob5 (FX10_number n' (nI L) (nI p) 0 pl bg tp 0 10000) (fun r26 v27 v28 v29 v30 => if v28 = 0 then (ob2 (FX10_isWord n' 6 (nI L) v27 tp) (fun r33 v34 => if r33 = 0 then (ob2 (FX10_wrong n' v28 v29 1 v34) (fun v37 v38 => JX10_clause_117 n' (nI L) v34 v37 v38 li ne r26 so (nI w) sto (nI c) v30 tp ix)) else (JX10_clause_117 n' (nI L) v34 v28 v29 li ne r26 so (nI w) sto (nI c) v30 tp ix))) else (JX10_clause_117 n' (nI L) v27 v28 v29 li ne r26 so (nI w) sto (nI c) v30 tp ix))) := by
  have hk := h.1
  have hk2 := h.2.1
  have t0 : (0 : Int32).toInt = 0 := rfl
  have t1 : (10000 : Int32).toInt = 10000 := rfl
  unfold FX4_readShare
  rcases num_s (p := p) h hp with ⟨e, q, kd, wh, he, hkd2, hC, hM⟩ | ⟨e, q, v, he, hv, hC, hM⟩
  · obtain ⟨v1, m1⟩ := hM n' pl bg 0 10000 hn' (by rw [t1]; omega)
    rw [hC n np fk fp hn, ob5_s, if_pos rfl, ob7_s, m1, ob5_s, if_neg (nI_n0 (by omega) (by omega)), t70f]
    obtain ⟨y4', m2⟩ := c117F (n := n') (x1 := nI L) (pl := wh) (bg := nI q) (e := e) (kd := kd) (y1 := li) (y2 := ne) (y3 := v1) (y4 := so) (y5 := nI w) (y6 := sto) (y7 := nI c) (tp := tp) (ix := ix) (by omega) (by omega)
    rw [m2]
    exact Or.inr ⟨e, e + 2, kd, wh, by omega, by omega, by omega, ⟨_, _, _, _, _, _, _, _, _, _, rfl⟩, _, _, _, _, _, _, _, _, _, rfl⟩
  · have nv : ¬ nI v = -1 := fun e9 => by have := i_eq.mp e9; rw [nI_toInt (by omega), show (-1 : Int32).toInt = -1 from rfl] at this; omega
    obtain ⟨z, hb⟩ := bl_ex (p := e) h (by omega)
    have hz : z ≤ L := by have := hb.2.1; omega
    obtain ⟨y, ht⟩ := lt_ex (p := z) h (by omega)
    have hy : y ≤ L := by have := ht.2.1; omega
    obtain ⟨r, r1, r2, r3, r4⟩ := word_s (w := 6) h (by omega) rfl (by omega) hb ht
    rw [hC n np fk fp hn, ob5_s, if_neg nv, hb.2.2.2.1 n hn, ob1_s, ht.2.2.2.2 n hn, ob1_s, r3 n hn, ob1_s, hM n' pl bg 0 10000 hn', t0, t1, if_pos (show (0 : Int) ≤ v ∧ (v : Int) ≤ 10000 by omega), ob5_s, if_pos rfl, r4 n' hn', ob2_s]
    rcases r1 with e9 | e9 <;> subst e9
    · rw [ifz, ifz, wr0]
      unfold FX4_refuse
      rw [ob3_s, gn0, ob7_s, t70f]
      obtain ⟨y4', m2⟩ := c117F (n := n') (x1 := nI L) (pl := nI z) (bg := nI q) (e := z) (kd := 1) (y1 := li) (y2 := ne) (y3 := nI v) (y4 := so) (y5 := nI w) (y6 := sto) (y7 := nI c) (tp := tp) (ix := ix) (by omega) (by omega)
      rw [show (1 : Int32) = nI 1 from rfl, m2]
      exact Or.inr ⟨y, z + 2, 1, nI z, by omega, by omega, by omega, ⟨_, _, _, _, _, _, _, _, _, _, rfl⟩, _, _, _, _, _, _, _, _, _, rfl⟩
    · obtain ⟨x1, x2⟩ := r2 rfl
      have x1 : y = z + 2 := x1
      subst x1
      rw [ifo, ifo]
      -- the second number
      have hlo : ∃ lo : Int32, (lo.toInt = if v = 0 then 1 else (v : Int)) ∧ JX10_clause_117 n' (nI L) (nI z) 0 pl li ne (nI v) so (nI w) sto (nI c) (nI q) tp ix = ob5 (FX10_number n' (nI L) (nI (z + 2)) 0 pl (nI q) tp lo 10000) (fun r85 v86 v87 v88 v89 => JX10_clause_311 n' (nI L) v86 v87 v88 li ne (nI v) r85 (nI w) sto (nI c) v89 tp ix) := by
        unfold JX10_clause_117 JX10_clause_145
        rw [bn_s, show nI z + 2 = nI (z + 2) from nI_add z 2]
        by_cases c9 : v = 0
        · refine ⟨1, by rw [if_pos c9]; rfl, ?_⟩
          rw [if_neg (by rw [c9]; decide)]
        · refine ⟨nI v, by rw [if_neg c9, nI_toInt (by omega)], ?_⟩
          rw [if_pos (show (1 : Int32) ≤ nI v from nI_le (a := 1) (by omega) (by omega))]
      obtain ⟨lo, l1, l2⟩ := hlo
      rw [l2]
      rcases num_s (p := z + 2) h (by omega) with ⟨e2, q2, kd, wh, he2, hkd2, hC2, hM2⟩ | ⟨e2, q2, v2, he2, hv2, hC2, hM2⟩
      · obtain ⟨v1, m1⟩ := hM2 n' pl (nI q) lo 10000 hn' (by rw [t1]; omega)
        rw [hC2 n (nI q) fk fp hn, ob5_s, if_pos rfl, ob7_s, m1, ob5_s]
        exact fault_o (by omega) (by omega) (by omega) (by omega)
      · have nv2 : ¬ nI v2 = -1 := fun e9 => by have := i_eq.mp e9; rw [nI_toInt (by omega), show (-1 : Int32).toInt = -1 from rfl] at this; omega
        rw [hC2 n (nI q) fk fp hn, ob5_s, if_neg nv2, hM2 n' pl (nI q) lo 10000 hn', t1, l1]
        by_cases c0 : v2 = 0
        · rw [if_pos (show nI v2 = 0 by rw [c0]; rfl), if_neg (by by_cases c9 : v = 0 <;> simp only [c9, if_true, if_false] <;> omega), ob5_s]
          unfold FX4_refuse
          rw [ob3_s, gn0, ob7_s]
          exact fault_o (kd := 2) (by omega) (by omega) (by omega) (by omega)
        · rw [if_neg (nI_n0 (by omega) (by omega))]
          by_cases c3 : v ≤ v2
          · rw [if_pos (nI_le c3 (by omega)), if_pos (by by_cases c9 : v = 0 <;> simp only [c9, if_true, if_false] <;> omega), ob5_s, ob7_s]
            exact tail_o h (by omega) hn hn' h1 h2 h3
          · rw [if_neg (nI_ge (by omega) (by omega)), if_neg (by by_cases c9 : v = 0 <;> simp only [c9, if_true, if_false] <;> omega), ob5_s]
            unfold FX4_refuse
            rw [ob3_s, gn0, ob7_s]
            exact fault_o (kd := 2) (by omega) (by omega) (by omega) (by omega)
