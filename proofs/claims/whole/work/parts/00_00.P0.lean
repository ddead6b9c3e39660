/-! PURE ROWS: what the functions answer -/
theorem ob1_s {α0 β : Type} {f : α0 → Option β} {a0 : α0} : ob1 (some a0) f = f a0 := rfl
theorem ob2_s {α0 α1 β : Type} {f : α0 → α1 → Option β} {a0 : α0} {a1 : α1} : ob2 (some (a0, a1)) f = f a0 a1 := rfl
theorem ob3_s {α0 α1 α2 β : Type} {f : α0 → α1 → α2 → Option β} {a0 : α0} {a1 : α1} {a2 : α2} : ob3 (some (a0, a1, a2)) f = f a0 a1 a2 := rfl
theorem ob4_s {α0 α1 α2 α3 β : Type} {f : α0 → α1 → α2 → α3 → Option β} {a0 : α0} {a1 : α1} {a2 : α2} {a3 : α3} : ob4 (some (a0, a1, a2, a3)) f = f a0 a1 a2 a3 := rfl
theorem ob5_s {α0 α1 α2 α3 α4 β : Type} {f : α0 → α1 → α2 → α3 → α4 → Option β} {a0 : α0} {a1 : α1} {a2 : α2} {a3 : α3} {a4 : α4} : ob5 (some (a0, a1, a2, a3, a4)) f = f a0 a1 a2 a3 a4 := rfl
theorem ob6_s {α0 α1 α2 α3 α4 α5 β : Type} {f : α0 → α1 → α2 → α3 → α4 → α5 → Option β} {a0 : α0} {a1 : α1} {a2 : α2} {a3 : α3} {a4 : α4} {a5 : α5} : ob6 (some (a0, a1, a2, a3, a4, a5)) f = f a0 a1 a2 a3 a4 a5 := rfl
theorem ob7_s {α0 α1 α2 α3 α4 α5 α6 β : Type} {f : α0 → α1 → α2 → α3 → α4 → α5 → α6 → Option β} {a0 : α0} {a1 : α1} {a2 : α2} {a3 : α3} {a4 : α4} {a5 : α5} {a6 : α6} : ob7 (some (a0, a1, a2, a3, a4, a5, a6)) f = f a0 a1 a2 a3 a4 a5 a6 := rfl
theorem ob8_s {α0 α1 α2 α3 α4 α5 α6 α7 β : Type} {f : α0 → α1 → α2 → α3 → α4 → α5 → α6 → α7 → Option β} {a0 : α0} {a1 : α1} {a2 : α2} {a3 : α3} {a4 : α4} {a5 : α5} {a6 : α6} {a7 : α7} : ob8 (some (a0, a1, a2, a3, a4, a5, a6, a7)) f = f a0 a1 a2 a3 a4 a5 a6 a7 := rfl
theorem ob9_s {α0 α1 α2 α3 α4 α5 α6 α7 α8 β : Type} {f : α0 → α1 → α2 → α3 → α4 → α5 → α6 → α7 → α8 → Option β} {a0 : α0} {a1 : α1} {a2 : α2} {a3 : α3} {a4 : α4} {a5 : α5} {a6 : α6} {a7 : α7} {a8 : α8} : ob9 (some (a0, a1, a2, a3, a4, a5, a6, a7, a8)) f = f a0 a1 a2 a3 a4 a5 a6 a7 a8 := rfl
theorem ob10_s {α0 α1 α2 α3 α4 α5 α6 α7 α8 α9 β : Type} {f : α0 → α1 → α2 → α3 → α4 → α5 → α6 → α7 → α8 → α9 → Option β} {a0 : α0} {a1 : α1} {a2 : α2} {a3 : α3} {a4 : α4} {a5 : α5} {a6 : α6} {a7 : α7} {a8 : α8} {a9 : α9} : ob10 (some (a0, a1, a2, a3, a4, a5, a6, a7, a8, a9)) f = f a0 a1 a2 a3 a4 a5 a6 a7 a8 a9 := rfl
theorem ob11_s {α0 α1 α2 α3 α4 α5 α6 α7 α8 α9 α10 β : Type} {f : α0 → α1 → α2 → α3 → α4 → α5 → α6 → α7 → α8 → α9 → α10 → Option β} {a0 : α0} {a1 : α1} {a2 : α2} {a3 : α3} {a4 : α4} {a5 : α5} {a6 : α6} {a7 : α7} {a8 : α8} {a9 : α9} {a10 : α10} : ob11 (some (a0, a1, a2, a3, a4, a5, a6, a7, a8, a9, a10)) f = f a0 a1 a2 a3 a4 a5 a6 a7 a8 a9 a10 := rfl
theorem ob12_s {α0 α1 α2 α3 α4 α5 α6 α7 α8 α9 α10 α11 β : Type} {f : α0 → α1 → α2 → α3 → α4 → α5 → α6 → α7 → α8 → α9 → α10 → α11 → Option β} {a0 : α0} {a1 : α1} {a2 : α2} {a3 : α3} {a4 : α4} {a5 : α5} {a6 : α6} {a7 : α7} {a8 : α8} {a9 : α9} {a10 : α10} {a11 : α11} : ob12 (some (a0, a1, a2, a3, a4, a5, a6, a7, a8, a9, a10, a11)) f = f a0 a1 a2 a3 a4 a5 a6 a7 a8 a9 a10 a11 := rfl
theorem ob13_s {α0 α1 α2 α3 α4 α5 α6 α7 α8 α9 α10 α11 α12 β : Type} {f : α0 → α1 → α2 → α3 → α4 → α5 → α6 → α7 → α8 → α9 → α10 → α11 → α12 → Option β} {a0 : α0} {a1 : α1} {a2 : α2} {a3 : α3} {a4 : α4} {a5 : α5} {a6 : α6} {a7 : α7} {a8 : α8} {a9 : α9} {a10 : α10} {a11 : α11} {a12 : α12} : ob13 (some (a0, a1, a2, a3, a4, a5, a6, a7, a8, a9, a10, a11, a12)) f = f a0 a1 a2 a3 a4 a5 a6 a7 a8 a9 a10 a11 a12 := rfl
theorem ob14_s {α0 α1 α2 α3 α4 α5 α6 α7 α8 α9 α10 α11 α12 α13 β : Type} {f : α0 → α1 → α2 → α3 → α4 → α5 → α6 → α7 → α8 → α9 → α10 → α11 → α12 → α13 → Option β} {a0 : α0} {a1 : α1} {a2 : α2} {a3 : α3} {a4 : α4} {a5 : α5} {a6 : α6} {a7 : α7} {a8 : α8} {a9 : α9} {a10 : α10} {a11 : α11} {a12 : α12} {a13 : α13} : ob14 (some (a0, a1, a2, a3, a4, a5, a6, a7, a8, a9, a10, a11, a12, a13)) f = f a0 a1 a2 a3 a4 a5 a6 a7 a8 a9 a10 a11 a12 a13 := rfl
theorem ob15_s {α0 α1 α2 α3 α4 α5 α6 α7 α8 α9 α10 α11 α12 α13 α14 β : Type} {f : α0 → α1 → α2 → α3 → α4 → α5 → α6 → α7 → α8 → α9 → α10 → α11 → α12 → α13 → α14 → Option β} {a0 : α0} {a1 : α1} {a2 : α2} {a3 : α3} {a4 : α4} {a5 : α5} {a6 : α6} {a7 : α7} {a8 : α8} {a9 : α9} {a10 : α10} {a11 : α11} {a12 : α12} {a13 : α13} {a14 : α14} : ob15 (some (a0, a1, a2, a3, a4, a5, a6, a7, a8, a9, a10, a11, a12, a13, a14)) f = f a0 a1 a2 a3 a4 a5 a6 a7 a8 a9 a10 a11 a12 a13 a14 := rfl
theorem ob16_s {α0 α1 α2 α3 α4 α5 α6 α7 α8 α9 α10 α11 α12 α13 α14 α15 β : Type} {f : α0 → α1 → α2 → α3 → α4 → α5 → α6 → α7 → α8 → α9 → α10 → α11 → α12 → α13 → α14 → α15 → Option β} {a0 : α0} {a1 : α1} {a2 : α2} {a3 : α3} {a4 : α4} {a5 : α5} {a6 : α6} {a7 : α7} {a8 : α8} {a9 : α9} {a10 : α10} {a11 : α11} {a12 : α12} {a13 : α13} {a14 : α14} {a15 : α15} : ob16 (some (a0, a1, a2, a3, a4, a5, a6, a7, a8, a9, a10, a11, a12, a13, a14, a15)) f = f a0 a1 a2 a3 a4 a5 a6 a7 a8 a9 a10 a11 a12 a13 a14 a15 := rfl
theorem ob17_s {α0 α1 α2 α3 α4 α5 α6 α7 α8 α9 α10 α11 α12 α13 α14 α15 α16 β : Type} {f : α0 → α1 → α2 → α3 → α4 → α5 → α6 → α7 → α8 → α9 → α10 → α11 → α12 → α13 → α14 → α15 → α16 → Option β} {a0 : α0} {a1 : α1} {a2 : α2} {a3 : α3} {a4 : α4} {a5 : α5} {a6 : α6} {a7 : α7} {a8 : α8} {a9 : α9} {a10 : α10} {a11 : α11} {a12 : α12} {a13 : α13} {a14 : α14} {a15 : α15} {a16 : α16} : ob17 (some (a0, a1, a2, a3, a4, a5, a6, a7, a8, a9, a10, a11, a12, a13, a14, a15, a16)) f = f a0 a1 a2 a3 a4 a5 a6 a7 a8 a9 a10 a11 a12 a13 a14 a15 a16 := rfl
theorem ob18_s {α0 α1 α2 α3 α4 α5 α6 α7 α8 α9 α10 α11 α12 α13 α14 α15 α16 α17 β : Type} {f : α0 → α1 → α2 → α3 → α4 → α5 → α6 → α7 → α8 → α9 → α10 → α11 → α12 → α13 → α14 → α15 → α16 → α17 → Option β} {a0 : α0} {a1 : α1} {a2 : α2} {a3 : α3} {a4 : α4} {a5 : α5} {a6 : α6} {a7 : α7} {a8 : α8} {a9 : α9} {a10 : α10} {a11 : α11} {a12 : α12} {a13 : α13} {a14 : α14} {a15 : α15} {a16 : α16} {a17 : α17} : ob18 (some (a0, a1, a2, a3, a4, a5, a6, a7, a8, a9, a10, a11, a12, a13, a14, a15, a16, a17)) f = f a0 a1 a2 a3 a4 a5 a6 a7 a8 a9 a10 a11 a12 a13 a14 a15 a16 a17 := rfl
theorem ob19_s {α0 α1 α2 α3 α4 α5 α6 α7 α8 α9 α10 α11 α12 α13 α14 α15 α16 α17 α18 β : Type} {f : α0 → α1 → α2 → α3 → α4 → α5 → α6 → α7 → α8 → α9 → α10 → α11 → α12 → α13 → α14 → α15 → α16 → α17 → α18 → Option β} {a0 : α0} {a1 : α1} {a2 : α2} {a3 : α3} {a4 : α4} {a5 : α5} {a6 : α6} {a7 : α7} {a8 : α8} {a9 : α9} {a10 : α10} {a11 : α11} {a12 : α12} {a13 : α13} {a14 : α14} {a15 : α15} {a16 : α16} {a17 : α17} {a18 : α18} : ob19 (some (a0, a1, a2, a3, a4, a5, a6, a7, a8, a9, a10, a11, a12, a13, a14, a15, a16, a17, a18)) f = f a0 a1 a2 a3 a4 a5 a6 a7 a8 a9 a10 a11 a12 a13 a14 a15 a16 a17 a18 := rfl
theorem ob20_s {α0 α1 α2 α3 α4 α5 α6 α7 α8 α9 α10 α11 α12 α13 α14 α15 α16 α17 α18 α19 β : Type} {f : α0 → α1 → α2 → α3 → α4 → α5 → α6 → α7 → α8 → α9 → α10 → α11 → α12 → α13 → α14 → α15 → α16 → α17 → α18 → α19 → Option β} {a0 : α0} {a1 : α1} {a2 : α2} {a3 : α3} {a4 : α4} {a5 : α5} {a6 : α6} {a7 : α7} {a8 : α8} {a9 : α9} {a10 : α10} {a11 : α11} {a12 : α12} {a13 : α13} {a14 : α14} {a15 : α15} {a16 : α16} {a17 : α17} {a18 : α18} {a19 : α19} : ob20 (some (a0, a1, a2, a3, a4, a5, a6, a7, a8, a9, a10, a11, a12, a13, a14, a15, a16, a17, a18, a19)) f = f a0 a1 a2 a3 a4 a5 a6 a7 a8 a9 a10 a11 a12 a13 a14 a15 a16 a17 a18 a19 := rfl
theorem ob21_s {α0 α1 α2 α3 α4 α5 α6 α7 α8 α9 α10 α11 α12 α13 α14 α15 α16 α17 α18 α19 α20 β : Type} {f : α0 → α1 → α2 → α3 → α4 → α5 → α6 → α7 → α8 → α9 → α10 → α11 → α12 → α13 → α14 → α15 → α16 → α17 → α18 → α19 → α20 → Option β} {a0 : α0} {a1 : α1} {a2 : α2} {a3 : α3} {a4 : α4} {a5 : α5} {a6 : α6} {a7 : α7} {a8 : α8} {a9 : α9} {a10 : α10} {a11 : α11} {a12 : α12} {a13 : α13} {a14 : α14} {a15 : α15} {a16 : α16} {a17 : α17} {a18 : α18} {a19 : α19} {a20 : α20} : ob21 (some (a0, a1, a2, a3, a4, a5, a6, a7, a8, a9, a10, a11, a12, a13, a14, a15, a16, a17, a18, a19, a20)) f = f a0 a1 a2 a3 a4 a5 a6 a7 a8 a9 a10 a11 a12 a13 a14 a15 a16 a17 a18 a19 a20 := rfl
theorem ob22_s {α0 α1 α2 α3 α4 α5 α6 α7 α8 α9 α10 α11 α12 α13 α14 α15 α16 α17 α18 α19 α20 α21 β : Type} {f : α0 → α1 → α2 → α3 → α4 → α5 → α6 → α7 → α8 → α9 → α10 → α11 → α12 → α13 → α14 → α15 → α16 → α17 → α18 → α19 → α20 → α21 → Option β} {a0 : α0} {a1 : α1} {a2 : α2} {a3 : α3} {a4 : α4} {a5 : α5} {a6 : α6} {a7 : α7} {a8 : α8} {a9 : α9} {a10 : α10} {a11 : α11} {a12 : α12} {a13 : α13} {a14 : α14} {a15 : α15} {a16 : α16} {a17 : α17} {a18 : α18} {a19 : α19} {a20 : α20} {a21 : α21} : ob22 (some (a0, a1, a2, a3, a4, a5, a6, a7, a8, a9, a10, a11, a12, a13, a14, a15, a16, a17, a18, a19, a20, a21)) f = f a0 a1 a2 a3 a4 a5 a6 a7 a8 a9 a10 a11 a12 a13 a14 a15 a16 a17 a18 a19 a20 a21 := rfl
theorem ob23_s {α0 α1 α2 α3 α4 α5 α6 α7 α8 α9 α10 α11 α12 α13 α14 α15 α16 α17 α18 α19 α20 α21 α22 β : Type} {f : α0 → α1 → α2 → α3 → α4 → α5 → α6 → α7 → α8 → α9 → α10 → α11 → α12 → α13 → α14 → α15 → α16 → α17 → α18 → α19 → α20 → α21 → α22 → Option β} {a0 : α0} {a1 : α1} {a2 : α2} {a3 : α3} {a4 : α4} {a5 : α5} {a6 : α6} {a7 : α7} {a8 : α8} {a9 : α9} {a10 : α10} {a11 : α11} {a12 : α12} {a13 : α13} {a14 : α14} {a15 : α15} {a16 : α16} {a17 : α17} {a18 : α18} {a19 : α19} {a20 : α20} {a21 : α21} {a22 : α22} : ob23 (some (a0, a1, a2, a3, a4, a5, a6, a7, a8, a9, a10, a11, a12, a13, a14, a15, a16, a17, a18, a19, a20, a21, a22)) f = f a0 a1 a2 a3 a4 a5 a6 a7 a8 a9 a10 a11 a12 a13 a14 a15 a16 a17 a18 a19 a20 a21 a22 := rfl
theorem ob24_s {α0 α1 α2 α3 α4 α5 α6 α7 α8 α9 α10 α11 α12 α13 α14 α15 α16 α17 α18 α19 α20 α21 α22 α23 β : Type} {f : α0 → α1 → α2 → α3 → α4 → α5 → α6 → α7 → α8 → α9 → α10 → α11 → α12 → α13 → α14 → α15 → α16 → α17 → α18 → α19 → α20 → α21 → α22 → α23 → Option β} {a0 : α0} {a1 : α1} {a2 : α2} {a3 : α3} {a4 : α4} {a5 : α5} {a6 : α6} {a7 : α7} {a8 : α8} {a9 : α9} {a10 : α10} {a11 : α11} {a12 : α12} {a13 : α13} {a14 : α14} {a15 : α15} {a16 : α16} {a17 : α17} {a18 : α18} {a19 : α19} {a20 : α20} {a21 : α21} {a22 : α22} {a23 : α23} : ob24 (some (a0, a1, a2, a3, a4, a5, a6, a7, a8, a9, a10, a11, a12, a13, a14, a15, a16, a17, a18, a19, a20, a21, a22, a23)) f = f a0 a1 a2 a3 a4 a5 a6 a7 a8 a9 a10 a11 a12 a13 a14 a15 a16 a17 a18 a19 a20 a21 a22 a23 := rfl
theorem bn_s {α β : Type} {a : α} {f : α → β} : bn a f = f a := rfl
theorem i_lt {a b : Int32} : a < b ↔ a.toInt < b.toInt := Int32.lt_iff_toInt_lt
theorem i_le {a b : Int32} : a ≤ b ↔ a.toInt ≤ b.toInt := Int32.le_iff_toInt_le
theorem i_eq {a b : Int32} : a = b ↔ a.toInt = b.toInt := Int32.toInt_inj.symm
theorem lit_n (m : Nat) : (OfNat.ofNat m : Int32) = nI m := rfl
theorem lit_t (m : Nat) (h : m < 2 ^ 31) : (OfNat.ofNat m : Int32).toInt = (m : Int) := nI_toInt h
theorem neg_t (m : Nat) (h : m < 2 ^ 31) : (-(OfNat.ofNat m : Int32)).toInt = -(m : Int) := by
  have := lit_t m h
  rw [Int32.toInt_neg, this]
  exact Int.bmod_eq_of_le (by omega) (by omega)
theorem lit_mul (m a : Nat) : (no_index (OfNat.ofNat m) : Int32) * nI a = nI ((OfNat.ofNat m : Nat) * a) := pk_mul m a
theorem lit_add (m a : Nat) : (no_index (OfNat.ofNat m) : Int32) + nI a = nI ((OfNat.ofNat m : Nat) + a) := nI_add m a
theorem add_lit (m a : Nat) : nI a + (no_index (OfNat.ofNat m) : Int32) = nI (a + (OfNat.ofNat m : Nat)) := nI_add a m
theorem nI_eqL (a m : Nat) (ha : a < 2 ^ 31) (hm : (OfNat.ofNat m : Nat) < 2 ^ 31) : (nI a = (no_index (OfNat.ofNat m) : Int32)) ↔ (a = (OfNat.ofNat m : Nat)) := nI_eq ha hm
theorem one_0 : ((1 : Int32) = 0) = False := by decide
theorem gd_in {α : Type} {k N : Nat} {x : Option α} (h : k < N) (hN : N < 2 ^ 31) : gd (vp_in (nI k) N) x = x := gd_t (vp_in_nI h hN)
theorem t_0 : (0 : Int32).toInt = 0 := by decide
theorem t_1 : (1 : Int32).toInt = 1 := by decide
/-- -30000 to 30000 -/
def rng (v : Int32) : Prop := -30000 ≤ v.toInt ∧ v.toInt ≤ 30000
theorem LOSTt : (-2000000000 : Int32).toInt = -2000000000 := by decide
theorem rng_ne {v : Int32} (h : rng v) : ¬ v = -2000000000 := fun e => by
  have := h.1; rw [e, LOSTt] at this; omega
theorem sub_t {a b : Int32} (h1 : -2147483648 ≤ a.toInt - b.toInt) (h2 : a.toInt - b.toInt ≤ 2147483647) : (a - b).toInt = a.toInt - b.toInt := by
  rw [Int32.toInt_sub]; exact Int.bmod_eq_of_le (by omega) (by omega)
theorem add_t {a b : Int32} (h1 : -2147483648 ≤ a.toInt + b.toInt) (h2 : a.toInt + b.toInt ≤ 2147483647) : (a + b).toInt = a.toInt + b.toInt := by
  rw [Int32.toInt_add]; exact Int.bmod_eq_of_le (by omega) (by omega)
theorem of_lt {x : Int32} {N : Nat} (h0 : ¬ x.toInt < 0) (h1 : x.toInt < N) (hN : N < 2 ^ 31) : ∃ j : Nat, j < N ∧ x = nI j := by
  refine ⟨x.toInt.toNat, by omega, i_eq.mpr ?_⟩
  rw [nI_toInt (by omega)]
  omega
theorem within_s {n : Nat} {p a b : Int32} : FX9_within n p a b = some (if a.toInt ≤ p.toInt ∧ p.toInt ≤ b.toInt then 1 else 0) := by
  unfold FX9_within
  by_cases h1 : p < a
  · rw [if_pos h1, if_neg (by have := i_lt.mp h1; omega)]
  · rw [if_neg h1]
    by_cases h2 : b < p
    · rw [if_pos h2, if_neg (by have := i_lt.mp h2; omega)]
    · rw [if_neg h2, if_pos ⟨by have := mt i_lt.mpr h1; omega, by have := mt i_lt.mpr h2; omega⟩]
theorem bad0 {n : Nat} {t w : Int32} : FX10_bad n t 0 w = some (0, t) := by
  unfold FX10_bad; rw [if_pos rfl]; exact gd_t rfl
theorem bad1 {n : Nat} {t w : Int32} : FX10_bad n t 1 w = some (1, w) := by
  unfold FX10_bad; rw [if_neg (by decide)]; exact gd_t rfl
theorem isTrace_s {n : Nat} {p : Int32} : FX10_isTrace n p = some (if 0 ≤ p.toInt ∧ p.toInt < 3 then 1 else 0) := by
  unfold FX10_isTrace
  by_cases h : 0 ≤ p.toInt ∧ p.toInt < 3
  · simp (disch := omega) only [bn_s, gd_in, if_pos, if_neg, i_lt, i_le, nI_toInt, Int32.reduceToInt, Int32.reduceSub, reduceIte, nI_clamp, nI_1, nI_add, lit_mul, lit_add, add_lit, pk_mul, pk_us, pk_un, pk_uLs, pk_uLn, nI_eqL, nI_eq, one_0, ob1_s, ob2_s, ob3_s, ob4_s, ob5_s]
  · by_cases h1 : p.toInt < 0 <;> simp (disch := omega) only [bn_s, gd_in, if_pos, if_neg, i_lt, i_le, nI_toInt, Int32.reduceToInt, Int32.reduceSub, reduceIte, nI_clamp, nI_1, nI_add, lit_mul, lit_add, add_lit, pk_mul, pk_us, pk_un, pk_uLs, pk_uLn, nI_eqL, nI_eq, one_0, ob1_s, ob2_s, ob3_s, ob4_s, ob5_s]
theorem isRow_s {n : Nat} {t p q : Int32} : FX10_isRow n t p q = some (if (0 ≤ p.toInt ∧ p.toInt < 2) ∧ (0 ≤ q.toInt ∧ q.toInt < 3) then (1, 0) else (0, 1)) := by
  unfold FX10_isRow
  by_cases h1 : p.toInt < 0
  · simp (disch := omega) only [bn_s, gd_in, if_pos, if_neg, i_lt, i_le, nI_toInt, Int32.reduceToInt, Int32.reduceSub, reduceIte, nI_clamp, nI_1, nI_add, lit_mul, lit_add, add_lit, pk_mul, pk_us, pk_un, pk_uLs, pk_uLn, nI_eqL, nI_eq, one_0, ob1_s, ob2_s, ob3_s, ob4_s, ob5_s]
  · by_cases h2 : 2 ≤ p.toInt
    · simp (disch := omega) only [bn_s, gd_in, if_pos, if_neg, i_lt, i_le, nI_toInt, Int32.reduceToInt, Int32.reduceSub, reduceIte, nI_clamp, nI_1, nI_add, lit_mul, lit_add, add_lit, pk_mul, pk_us, pk_un, pk_uLs, pk_uLn, nI_eqL, nI_eq, one_0, ob1_s, ob2_s, ob3_s, ob4_s, ob5_s]
    · by_cases h3 : 0 ≤ q.toInt ∧ q.toInt < 3
      · simp (disch := omega) only [bn_s, gd_in, if_pos, if_neg, i_lt, i_le, nI_toInt, Int32.reduceToInt, Int32.reduceSub, reduceIte, nI_clamp, nI_1, nI_add, lit_mul, lit_add, add_lit, pk_mul, pk_us, pk_un, pk_uLs, pk_uLn, nI_eqL, nI_eq, one_0, ob1_s, ob2_s, ob3_s, ob4_s, ob5_s, isTrace_s]
      · simp (disch := omega) only [bn_s, gd_in, if_pos, if_neg, i_lt, i_le, nI_toInt, Int32.reduceToInt, Int32.reduceSub, reduceIte, nI_clamp, nI_1, nI_add, lit_mul, lit_add, add_lit, pk_mul, pk_us, pk_un, pk_uLs, pk_uLn, nI_eqL, nI_eq, one_0, ob1_s, ob2_s, ob3_s, ob4_s, ob5_s, isTrace_s]
theorem trackOf_T {n : Nat} {q : Int32} : TX9_trackOf_x n q = if 0 ≤ q.toInt ∧ q.toInt < 3 then none else some () := by
  unfold TX9_trackOf_x
  by_cases h1 : q.toInt < 0
  · simp (disch := omega) only [bn_s, gd_in, if_pos, if_neg, i_lt, i_le, nI_toInt, Int32.reduceToInt, Int32.reduceSub, reduceIte, nI_clamp, nI_1, nI_add, lit_mul, lit_add, add_lit, pk_mul, pk_us, pk_un, pk_uLs, pk_uLn, nI_eqL, nI_eq, one_0, ob1_s, ob2_s, ob3_s, ob4_s, ob5_s]
  · by_cases h2 : q.toInt < 3 <;> simp (disch := omega) only [bn_s, gd_in, if_pos, if_neg, i_lt, i_le, nI_toInt, Int32.reduceToInt, Int32.reduceSub, reduceIte, nI_clamp, nI_1, nI_add, lit_mul, lit_add, add_lit, pk_mul, pk_us, pk_un, pk_uLs, pk_uLn, nI_eqL, nI_eq, one_0, ob1_s, ob2_s, ob3_s, ob4_s, ob5_s]
theorem trackIn_T {n : Nat} {p q : Int32} : TX9_trackIn_x n p q = if (0 ≤ p.toInt ∧ p.toInt < 2) ∧ (0 ≤ q.toInt ∧ q.toInt < 3) then none else some () := by
  unfold TX9_trackIn_x
  rw [within_s, ob1_s, t_0, t_1, trackOf_T]
  by_cases h1 : 0 ≤ p.toInt ∧ p.toInt ≤ 1
  · rw [if_pos h1, if_neg (by decide)]
    by_cases h2 : 0 ≤ q.toInt ∧ q.toInt < 3
    · rw [if_pos h2, if_pos ⟨⟨by omega, by omega⟩, h2⟩]; rfl
    · rw [if_neg h2, if_neg (fun h => h2 h.2)]; rfl
  · rw [if_neg h1, if_pos rfl, if_neg (fun h => h1 ⟨by omega, by omega⟩)]
theorem trackIn_M0 {n : Nat} {p : Int32} (h : 0 ≤ p.toInt ∧ p.toInt < 2) : FX9_trackIn_0 n p = some () := by
  unfold FX9_trackIn_0 FX9_trackOf_0
  rw [within_s, ob1_s, t_0, t_1, if_pos (show 0 ≤ p.toInt ∧ p.toInt ≤ 1 from ⟨h.1, by omega⟩), if_neg (by decide)]; rfl
theorem trackIn_M1 {n : Nat} {p : Int32} (h : 0 ≤ p.toInt ∧ p.toInt < 2) : FX9_trackIn_1 n p = some () := by
  unfold FX9_trackIn_1 FX9_trackOf_1
  rw [within_s, ob1_s, t_0, t_1, if_pos (show 0 ≤ p.toInt ∧ p.toInt ≤ 1 from ⟨h.1, by omega⟩), if_neg (by decide)]; rfl
theorem trackIn_M2 {n : Nat} {p : Int32} (h : 0 ≤ p.toInt ∧ p.toInt < 2) : FX9_trackIn_2 n p = some () := by
  unfold FX9_trackIn_2 FX9_trackOf_2
  rw [within_s, ob1_s, t_0, t_1, if_pos (show 0 ≤ p.toInt ∧ p.toInt ≤ 1 from ⟨h.1, by omega⟩), if_neg (by decide)]; rfl
theorem demand_s {n : Nat} {p : Int32} (h : ¬ p = 0) : FX9_demand_t n p = some () := by unfold FX9_demand_t; rw [if_neg h]
theorem demand_1 {n : Nat} : FX9_demand_t n 1 = some () := demand_s (by decide)
/-- where a row of the class and a row of the model agree: k readings -/
def RowR (f : Nat → Int32) (sz : Int32) (R M : Nat → Int32) (r k : Nat) : Prop :=
  k ≤ 300 ∧ sz = nI k ∧ M r = nI k ∧ (∀ i, i < 300 → f i = if i < k then R (300 * r + i) else -2000000000) ∧ ∀ i, i < k → R (300 * r + i) = -2000000000 ∨ rng (R (300 * r + i))
theorem add_s {n k : Nat} {f : Nat → Int32} {v : Int32} (hk : k ≤ 300) : FX2_add n (nI k) f v = if k < 300 then some (nI (k + 1), nI (k + 1), upd f k v) else some (-1, nI k, f) := by
  unfold FX2_add
  by_cases h : k < 300 <;> simp (disch := omega) only [bn_s, gd_in, if_pos, if_neg, i_lt, i_le, nI_toInt, Int32.reduceToInt, Int32.reduceSub, reduceIte, nI_clamp, nI_1, nI_add, lit_mul, lit_add, add_lit, pk_mul, pk_us, pk_un, pk_uLs, pk_uLn, nI_eqL, nI_eq, one_0, ob1_s, ob2_s, ob3_s, ob4_s, ob5_s]
theorem rowOf_s {n s t : Nat} : FX10_rowOf n (nI s) (nI t) = some (nI (3 * s + t)) := by
  unfold FX10_rowOf
  simp (disch := omega) only [bn_s, gd_in, if_pos, if_neg, i_lt, i_le, nI_toInt, Int32.reduceToInt, Int32.reduceSub, reduceIte, nI_clamp, nI_1, nI_add, lit_mul, lit_add, add_lit, pk_mul, pk_us, pk_un, pk_uLs, pk_uLn, nI_eqL, nI_eq, one_0, ob1_s, ob2_s, ob3_s, ob4_s, ob5_s]
