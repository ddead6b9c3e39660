def IT (x0 x1 x2 : TS) (R M Ms W Me Lf En Pb : Nat → Int32) : Prop := TI 0 x0 R M Ms W Me Lf En Pb ∧ TI 1 x1 R M Ms W Me Lf En Pb ∧ TI 2 x2 R M Ms W Me Lf En Pb
def rowset (s : Nat) (x : TS) (f : Nat → Int32) (z : Int32) : TS :=
  if s = 0 then (f, z, tg2 x, tg3 x, tg4 x, tg5 x, tg6 x, tg7 x, tg8 x, tg9 x, tg10 x, tg11 x, tg12 x, tg13 x, tg14 x, tg15 x, tg16 x, tg17 x, tg18 x, tg19 x, tg20 x, tg21 x, tg22 x, tg23 x, tg24 x, tg25 x, -1)
  else (tg0 x, tg1 x, f, z, tg4 x, tg5 x, tg6 x, tg7 x, tg8 x, tg9 x, tg10 x, tg11 x, tg12 x, tg13 x, tg14 x, tg15 x, tg16 x, tg17 x, tg18 x, tg19 x, tg20 x, tg21 x, tg22 x, tg23 x, tg24 x, tg25 x, -1)
def rowf (s : Nat) (x : TS) : Nat → Int32 := if s = 0 then tg0 x else tg2 x
def rowz (s : Nat) (x : TS) : Int32 := if s = 0 then tg1 x else tg3 x
theorem TI.rowR {t s : Nat} {x : TS} {R M Ms W Me Lf En Pb : Nat → Int32} (h : TI t x R M Ms W Me Lf En Pb) (hs : s < 2) : ∃ k, RowR (rowf s x) (rowz s x) R M (3 * s + t) k := by
  rcases (show s = 0 ∨ s = 1 by omega) with rfl | rfl
  · exact h.1
  · exact h.2.1
theorem TI.fr {t t' s : Nat} {x : TS} {R M R' M' Ms W Me Lf En Pb : Nat → Int32} (h : TI t' x R M Ms W Me Lf En Pb) (hF : Fr R M R' M' (3 * s + t)) (hne : t' ≠ t) (ht : t < 3) (ht' : t' < 3) : TI t' x R' M' Ms W Me Lf En Pb := by
  obtain ⟨⟨k0, h0⟩, ⟨k1, h1⟩, h2⟩ := h
  exact ⟨⟨k0, h0.fr hF (by omega)⟩, ⟨k1, h1.fr hF (by omega)⟩, h2⟩
theorem TI.row {t s k k' : Nat} {x : TS} {f : Nat → Int32} {R M R' M' Ms W Me Lf En Pb : Nat → Int32} (h : TI t x R M Ms W Me Lf En Pb) (hs : s < 2) (ht : t < 3) (hz : rowz s x = nI k) (hk : k ≤ k') (hn : RowR f (nI k') R' M' (3 * s + t) k') (hF : Fr R M R' M' (3 * s + t)) : TI t (rowset s x f (nI k')) R' M' Ms W Me Lf En Pb := by
  obtain ⟨⟨k0, h0⟩, ⟨k1, h1⟩, h2, h3, h4, _⟩ := h
  have hk3 := hn.1
  rcases (show s = 0 ∨ s = 1 by omega) with rfl | rfl
  · refine ⟨⟨k', hn⟩, ⟨k1, h1.fr hF (by omega)⟩, h2, h3, fun i hi e0 e1 => h4 i hi ?_ e1, Or.inl rfl⟩
    have e0 : (nI k').toInt ≤ i := e0
    have hz : tg1 x = nI k := hz
    rw [nI_toInt (by omega)] at e0
    rw [hz, nI_toInt (by omega)]; omega
  · refine ⟨⟨k0, h0.fr hF (by omega)⟩, ⟨k', hn⟩, h2, h3, fun i hi e0 e1 => h4 i hi e0 ?_, Or.inl rfl⟩
    have e1 : (nI k').toInt ≤ i := e1
    have hz : tg3 x = nI k := hz
    rw [nI_toInt (by omega)] at e1
    rw [hz, nI_toInt (by omega)]; omega
def sel (t : Nat) (x0 x1 x2 : TS) : TS := if t = 0 then x0 else if t = 1 then x1 else x2
theorem IT.sel {t : Nat} {x0 x1 x2 : TS} {R M Ms W Me Lf En Pb : Nat → Int32} (h : IT x0 x1 x2 R M Ms W Me Lf En Pb) (ht : t < 3) : TI t (sel t x0 x1 x2) R M Ms W Me Lf En Pb := by
  rcases (show t = 0 ∨ t = 1 ∨ t = 2 by omega) with rfl | rfl | rfl
  · exact h.1
  · exact h.2.1
  · exact h.2.2
/-- one track put -/
def putT (i t : Nat) (x y : TS) : TS := if t = i then x else y
theorem IT.pt {t s : Nat} {x0 x1 x2 x' : TS} {R M R' M' Ms W Me Lf En Pb : Nat → Int32} (h : IT x0 x1 x2 R M Ms W Me Lf En Pb) (ht : t < 3) (hx : TI t x' R' M' Ms W Me Lf En Pb) (hF : Fr R M R' M' (3 * s + t)) : IT (putT 0 t x' x0) (putT 1 t x' x1) (putT 2 t x' x2) R' M' Ms W Me Lf En Pb := by
  rcases (show t = 0 ∨ t = 1 ∨ t = 2 by omega) with rfl | rfl | rfl
  · exact ⟨hx, h.2.1.fr hF (by omega) (by omega) (by omega), h.2.2.fr hF (by omega) (by omega) (by omega)⟩
  · exact ⟨h.1.fr hF (by omega) (by omega) (by omega), hx, h.2.2.fr hF (by omega) (by omega) (by omega)⟩
  · exact ⟨h.1.fr hF (by omega) (by omega) (by omega), h.2.1.fr hF (by omega) (by omega) (by omega), hx⟩
theorem IT.pt0 {t : Nat} {x0 x1 x2 x' : TS} {R M Ms W Me Lf En Pb : Nat → Int32} (h : IT x0 x1 x2 R M Ms W Me Lf En Pb) (ht : t < 3) (hx : TI t x' R M Ms W Me Lf En Pb) : IT (putT 0 t x' x0) (putT 1 t x' x1) (putT 2 t x' x2) R M Ms W Me Lf En Pb := by
  rcases (show t = 0 ∨ t = 1 ∨ t = 2 by omega) with rfl | rfl | rfl
  · exact ⟨hx, h.2.1, h.2.2⟩
  · exact ⟨h.1, hx, h.2.2⟩
  · exact ⟨h.1, h.2.1, hx⟩
theorem tIn_no {n s t : Nat} (hs : s < 2) (ht : t < 3) : (TX9_trackIn_x n (nI s) (nI t) = some ()) = False := by
  rw [trackIn_T]; simp (disch := omega) only [bn_s, gd_in, if_pos, if_neg, i_lt, i_le, nI_toInt, Int32.reduceToInt, Int32.reduceSub, reduceIte, nI_clamp, nI_1, nI_add, lit_mul, lit_add, add_lit, pk_mul, pk_us, pk_un, pk_uLs, pk_uLn, nI_eqL, nI_eq, one_0, ob1_s, ob2_s, ob3_s, ob4_s, ob5_s]; simp
theorem tIn_yes {n : Nat} {p q : Int32} (h : ¬ ((0 ≤ p.toInt ∧ p.toInt < 2) ∧ (0 ≤ q.toInt ∧ q.toInt < 3))) : TX9_trackIn_x n p q = some () := by
  rw [trackIn_T, if_neg h]
theorem tOf_no {n t : Nat} (ht : t < 3) : (TX9_trackOf_x n (nI t) = some ()) = False := by
  rw [trackOf_T]; simp (disch := omega) only [bn_s, gd_in, if_pos, if_neg, i_lt, i_le, nI_toInt, Int32.reduceToInt, Int32.reduceSub, reduceIte, nI_clamp, nI_1, nI_add, lit_mul, lit_add, add_lit, pk_mul, pk_us, pk_un, pk_uLs, pk_uLn, nI_eqL, nI_eq, one_0, ob1_s, ob2_s, ob3_s, ob4_s, ob5_s]; simp
theorem tOf_yes {n : Nat} {q : Int32} (h : ¬ (0 ≤ q.toInt ∧ q.toInt < 3)) : TX9_trackOf_x n q = some () := by
  rw [trackOf_T, if_neg h]
theorem nI01 : (nI 0 = (0 : Int32)) = True := by simp; rfl
theorem nI11 : (nI 1 = (0 : Int32)) = False := by simp; decide
theorem nI12 : (nI 1 = (1 : Int32)) = True := by simp; rfl
theorem nI20 : (nI 2 = (0 : Int32)) = False := by simp; decide
theorem nI21 : (nI 2 = (1 : Int32)) = False := by simp; decide
theorem nI22 : (nI 2 = (2 : Int32)) = True := by simp; rfl
theorem tI0 {n s : Nat} (hs : s < 2) : FX9_trackIn_0 n (nI s) = some () := trackIn_M0 (by rw [nI_toInt (by omega)]; omega)
theorem tI1 {n s : Nat} (hs : s < 2) : FX9_trackIn_1 n (nI s) = some () := trackIn_M1 (by rw [nI_toInt (by omega)]; omega)
theorem tI2 {n s : Nat} (hs : s < 2) : FX9_trackIn_2 n (nI s) = some () := trackIn_M2 (by rw [nI_toInt (by omega)]; omega)
theorem uns_s {n : Nat} {x : Int32} : FX6_unsettle n x = some (-1) := rfl
theorem readC {n s t : Nat} {x0 x1 x2 : TS} {v : Int32} (hs : s < 2) (ht : t < 3) {r z : Int32} {f : Nat → Int32} (hv : rng v) (h : FX2_add n (rowz s (sel t x0 x1 x2)) (rowf s (sel t x0 x1 x2)) v = some (r, z, f)) :
    FX9_read n x0 x1 x2 (nI s) (nI t) v = some (0, r, putT 0 t (rowset s (sel t x0 x1 x2) f z) x0, putT 1 t (rowset s (sel t x0 x1 x2) f z) x1, putT 2 t (rowset s (sel t x0 x1 x2) f z) x2) := by
  have h1 := hv.1
  have h2 := hv.2
  unfold FX9_read
  simp only [tIn_no hs ht, if_false, within_s]
  rcases (show t = 0 ∨ t = 1 ∨ t = 2 by omega) with rfl | rfl | rfl <;> rcases (show s = 0 ∨ s = 1 by omega) with rfl | rfl <;>
    (simp only [sel, rowz, rowf, reduceIte, Nat.reduceEqDiff] at h
     simp (disch := omega) only [bn_s, gd_in, if_pos, if_neg, i_lt, i_le, nI_toInt, Int32.reduceToInt, Int32.reduceSub, reduceIte, nI_clamp, nI_1, nI_add, lit_mul, lit_add, add_lit, pk_mul, pk_us, pk_un, pk_uLs, pk_uLn, nI_eqL, nI_eq, one_0, ob1_s, ob2_s, ob3_s, ob4_s, ob5_s, nI01, nI11, nI12, nI20, nI21, nI22, tI0 hs, tI1 hs, tI2 hs, demand_1, uns_s, h]
     rfl)
