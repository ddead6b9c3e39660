/-- the first L of the k bytes of the tape, as both see them: g -/
def TH (k L : Nat) (f tp : Nat → Int32) (g : Nat → Nat) : Prop := L ≤ k ∧ k ≤ 300 ∧ ∀ i, i < k → f i = nI (g i) ∧ tp i &&& 255 = nI (g i) ∧ g i < 256
theorem TpR.th {k L : Nat} {f tp : Nat → Int32} (h : TpR k f tp) (hL : L ≤ k) : ∃ g, TH k L f tp g :=
  ⟨fun i => ((tp i).toInt % 256).toNat, hL, h.1, fun i hi => ⟨(h.2 i hi).trans (and255 _), and255 _, by show ((tp i).toInt % 256).toNat < 256; omega⟩⟩
theorem look_i {n k L p : Nat} {f tp : Nat → Int32} {g : Nat → Nat} (h : TH k L f tp g) (hp : p < L) : FX4_look n (nI L) (nI p) (nI k) f = some (nI (g p)) := by
  obtain ⟨h1, h2, h3⟩ := h
  unfold FX4_look FX5_byteAt
  rw [if_neg (nI_ge hp (by omega)), if_neg (nI_pos (by omega)), if_pos (nI_lt (by omega) (by omega)), gd_in (by omega) (by omega), nI_clamp (by omega), (h3 p (by omega)).1]
  rfl
theorem look_o {n k L p : Nat} {f : Nat → Int32} (hp : L ≤ p) (hp2 : p < 2000) : FX4_look n (nI L) (nI p) (nI k) f = some (-1) := by
  unfold FX4_look
  rw [if_pos (nI_le hp (by omega))]
theorem mby_i {n k L p : Nat} {f tp : Nat → Int32} {g : Nat → Nat} (h : TH k L f tp g) (hp : p < L) : FX10_byteAt n (nI L) tp (nI p) = some (nI (g p)) := by
  obtain ⟨h1, h2, h3⟩ := h
  unfold FX10_byteAt
  rw [if_neg (nI_ge hp (by omega)), gd_in (by omega) (by omega), nI_clamp (by omega), (h3 p (by omega)).2.1]
theorem mby_o {n L p : Nat} {tp : Nat → Int32} (hp : L ≤ p) (hp2 : p < 2000) : FX10_byteAt n (nI L) tp (nI p) = some (nI 0) := by
  unfold FX10_byteAt
  rw [if_pos (nI_le hp (by omega))]
  rfl
/-- from p over blanks to q -/
def Bl (k L : Nat) (f tp : Nat → Int32) (g : Nat → Nat) (p q : Nat) : Prop := p ≤ q ∧ (q ≤ L ∨ q = p) ∧ ¬ (q < L ∧ g q = 32) ∧ (∀ n, 301 ≤ n → FX4_skipBlanks n (nI L) (nI p) (nI k) f = some (nI q)) ∧ ∀ n, 301 ≤ n → FX10_blanks n (nI L) (nI p) tp = some (nI q)
theorem bl_L {k L : Nat} {f tp : Nat → Int32} {g : Nat → Nat} (h : TH k L f tp g) : ∀ d p, p < 1000 → L ≤ p + d → ∃ q, p ≤ q ∧ (q ≤ L ∨ q = p) ∧ ¬ (q < L ∧ g q = 32) ∧ (∀ n, d + 1 ≤ n → LX4_skipBlanks_0 n (nI L) (nI p) (nI k) f = some (nI q)) ∧ ∀ n, d + 1 ≤ n → LX10_blanks_0 n (nI L) (nI p) tp = some (nI q) := by
  have hk := h.1
  have hk2 := h.2.1
  intro d
  induction d with
  | zero =>
    intro p hp hd
    refine ⟨p, by omega, Or.inr rfl, by omega, fun n hn => ?_, fun n hn => ?_⟩
    · obtain ⟨n, rfl⟩ : ∃ m, n = m + 1 := ⟨n - 1, by omega⟩
      unfold LX4_skipBlanks_0 JX4_skipBlanks_0
      rw [if_pos (nI_le (by omega) (by omega))]
    · obtain ⟨n, rfl⟩ : ∃ m, n = m + 1 := ⟨n - 1, by omega⟩
      unfold LX10_blanks_0 JX10_blanks_0
      rw [if_pos (nI_le (by omega) (by omega))]
  | succ d ih =>
    intro p hp hd
    by_cases hpL : p < L
    · have hg := (h.2.2 p (by omega)).2.2
      by_cases c : nI (g p) = 32
      · obtain ⟨q, i1, i2, i3, i4, i5⟩ := ih (p + 1) (by omega) (by omega)
        refine ⟨q, by omega, by omega, i3, fun n hn => ?_, fun n hn => ?_⟩
        · obtain ⟨n, rfl⟩ : ∃ m, n = m + 1 := ⟨n - 1, by omega⟩
          unfold LX4_skipBlanks_0 JX4_skipBlanks_0
          rw [if_neg (nI_ge hpL (by omega)), look_i h hpL, ob1_s, if_pos c, bn_s, nI_1]
          exact i4 n (by omega)
        · obtain ⟨n, rfl⟩ : ∃ m, n = m + 1 := ⟨n - 1, by omega⟩
          unfold LX10_blanks_0 JX10_blanks_0
          rw [if_neg (nI_ge hpL (by omega)), mby_i h hpL, ob1_s, if_pos c, bn_s, nI_1]
          exact i5 n (by omega)
      · refine ⟨p, by omega, Or.inr rfl, fun h9 => c (by rw [h9.2]; rfl), fun n hn => ?_, fun n hn => ?_⟩
        · obtain ⟨n, rfl⟩ : ∃ m, n = m + 1 := ⟨n - 1, by omega⟩
          unfold LX4_skipBlanks_0 JX4_skipBlanks_0
          rw [if_neg (nI_ge hpL (by omega)), look_i h hpL, ob1_s, if_neg c]
        · obtain ⟨n, rfl⟩ : ∃ m, n = m + 1 := ⟨n - 1, by omega⟩
          unfold LX10_blanks_0 JX10_blanks_0
          rw [if_neg (nI_ge hpL (by omega)), mby_i h hpL, ob1_s, if_neg c]
    · refine ⟨p, by omega, Or.inr rfl, by omega, fun n hn => ?_, fun n hn => ?_⟩
      · obtain ⟨n, rfl⟩ : ∃ m, n = m + 1 := ⟨n - 1, by omega⟩
        unfold LX4_skipBlanks_0 JX4_skipBlanks_0
        rw [if_pos (nI_le (by omega) (by omega))]
      · obtain ⟨n, rfl⟩ : ∃ m, n = m + 1 := ⟨n - 1, by omega⟩
        unfold LX10_blanks_0 JX10_blanks_0
        rw [if_pos (nI_le (by omega) (by omega))]
theorem bl_ex {k L p : Nat} {f tp : Nat → Int32} {g : Nat → Nat} (h : TH k L f tp g) (hp : p < 1000) : ∃ q, Bl k L f tp g p q := by
  have hk := h.1
  have hk2 := h.2.1
  obtain ⟨q, i1, i2, i3, i4, i5⟩ := bl_L h 300 p hp (by omega)
  exact ⟨q, i1, i2, i3, fun n hn => by unfold FX4_skipBlanks; exact i4 n (by omega), fun n hn => by unfold FX10_blanks; exact i5 n (by omega)⟩
theorem Bl.again {k L p q : Nat} {f tp : Nat → Int32} {g : Nat → Nat} (h : TH k L f tp g) (hp : p < 1000) (hb : Bl k L f tp g p q) : Bl k L f tp g q q := by
  obtain ⟨h1, h2, h3, h4, h5⟩ := hb
  have hk := h.1
  have hk2 := h.2.1
  refine ⟨Nat.le_refl _, Or.inr rfl, h3, fun n hn => ?_, fun n hn => ?_⟩
  · obtain ⟨n, rfl⟩ : ∃ m, n = m + 1 := ⟨n - 1, by omega⟩
    unfold FX4_skipBlanks LX4_skipBlanks_0 JX4_skipBlanks_0
    by_cases c : q < L
    · have hg := (h.2.2 q (by omega)).2.2
      rw [if_neg (nI_ge c (by omega)), look_i h c, ob1_s, if_neg (fun e => h3 ⟨c, (nI_eqL _ _ (by omega) (by decide)).mp e⟩)]
    · rw [if_pos (nI_le (by omega) (by omega))]
  · obtain ⟨n, rfl⟩ : ∃ m, n = m + 1 := ⟨n - 1, by omega⟩
    unfold FX10_blanks LX10_blanks_0 JX10_blanks_0
    by_cases c : q < L
    · have hg := (h.2.2 q (by omega)).2.2
      rw [if_neg (nI_ge c (by omega)), mby_i h c, ob1_s, if_neg (fun e => h3 ⟨c, (nI_eqL _ _ (by omega) (by decide)).mp e⟩)]
    · rw [if_pos (nI_le (by omega) (by omega))]
theorem lt1 {n v : Nat} (h : 97 ≤ v ∧ v ≤ 122) {β : Type} (F : Int32 → Option β) : ob1 (FX9_within n (nI v) 97 122) F = F 1 :=
  wi1 (by rw [nI_toInt (by omega), show (97 : Int32).toInt = 97 from rfl, show (122 : Int32).toInt = 122 from rfl]; omega) F
theorem lt0 {n v : Nat} (h : ¬ (97 ≤ v ∧ v ≤ 122)) (hv : v < 1000) {β : Type} (F : Int32 → Option β) : ob1 (FX9_within n (nI v) 97 122) F = F 0 :=
  wi0 (by rw [nI_toInt (by omega), show (97 : Int32).toInt = 97 from rfl, show (122 : Int32).toInt = 122 from rfl]; omega) F
theorem gn0 {α : Type} {x : Option α} : gd (narrow .boolean (.int (0 : Int32)) = .int 0) x = x := gd_t rfl
theorem gn1 {α : Type} {x : Option α} : gd (narrow .boolean (.int (1 : Int32)) = .int 1) x = x := gd_t rfl
theorem dgC1 {n v : Nat} (h : 48 ≤ v ∧ v ≤ 57) : FX4_isDigit n (nI v) = some 1 := by
  unfold FX4_isDigit
  rw [wi1 (by rw [nI_toInt (by omega), show (48 : Int32).toInt = 48 from rfl, show (57 : Int32).toInt = 57 from rfl]; omega), gn1]
theorem dgC0 {n v : Nat} (h : ¬ (48 ≤ v ∧ v ≤ 57)) (hv : v < 1000) : FX4_isDigit n (nI v) = some 0 := by
  unfold FX4_isDigit
  rw [wi0 (by rw [nI_toInt (by omega), show (48 : Int32).toInt = 48 from rfl, show (57 : Int32).toInt = 57 from rfl]; omega), gn0]
theorem dgCm {n : Nat} : FX4_isDigit n (-1) = some 0 := by
  unfold FX4_isDigit
  rw [wi0 (by decide), gn0]
theorem dgM1 {n v : Nat} (h : 48 ≤ v ∧ v ≤ 57) : FX10_isDigit n (nI v) = some 1 := by
  unfold FX10_isDigit
  rw [if_neg (show ¬ nI v < (48 : Int32) from nI_nlt (a := v) (b := 48) (by omega) (by omega)), if_neg (show ¬ (57 : Int32) < nI v from nI_nlt (a := 57) (b := v) (by omega) (by omega))]
theorem dgM0 {n v : Nat} (h : ¬ (48 ≤ v ∧ v ≤ 57)) (hv : v < 1000) : FX10_isDigit n (nI v) = some 0 := by
  unfold FX10_isDigit
  by_cases c : v < 48
  · rw [if_pos (show nI v < (48 : Int32) from nI_lt (a := v) (b := 48) (by omega) (by omega))]
  · rw [if_neg (show ¬ nI v < (48 : Int32) from nI_nlt (a := v) (b := 48) (by omega) (by omega)), if_pos (show (57 : Int32) < nI v from nI_lt (a := 57) (b := v) (by omega) (by omega))]
/-- the letters from p on end at e -/
def Lt (k L : Nat) (f : Nat → Int32) (g : Nat → Nat) (p e : Nat) : Prop := p ≤ e ∧ (e ≤ L ∨ e = p) ∧ (∀ i, p ≤ i → i < e → i < L ∧ 97 ≤ g i ∧ g i ≤ 122) ∧ ¬ (e < L ∧ 97 ≤ g e ∧ g e ≤ 122) ∧ ∀ n, 301 ≤ n → FX4_skipLetters n (nI L) (nI p) (nI k) f = some (nI e)
theorem lt_L {k L : Nat} {f tp : Nat → Int32} {g : Nat → Nat} (h : TH k L f tp g) : ∀ d p, p < 1000 → L ≤ p + d → ∃ e, p ≤ e ∧ (e ≤ L ∨ e = p) ∧ (∀ i, p ≤ i → i < e → i < L ∧ 97 ≤ g i ∧ g i ≤ 122) ∧ ¬ (e < L ∧ 97 ≤ g e ∧ g e ≤ 122) ∧ ∀ n, d + 1 ≤ n → LX4_skipLetters_0 n (nI L) (nI p) (nI k) f = some (nI e) := by
  have hk := h.1
  have hk2 := h.2.1
  intro d
  induction d with
  | zero =>
    intro p hp hd
    refine ⟨p, by omega, Or.inr rfl, fun i _ _ => by omega, by omega, fun n hn => ?_⟩
    obtain ⟨n, rfl⟩ : ∃ m, n = m + 1 := ⟨n - 1, by omega⟩
    unfold LX4_skipLetters_0 JX4_skipLetters_0
    rw [if_pos (nI_le (by omega) (by omega))]
  | succ d ih =>
    intro p hp hd
    by_cases hpL : p < L
    · have hg := (h.2.2 p (by omega)).2.2
      by_cases c : 97 ≤ g p ∧ g p ≤ 122
      · obtain ⟨e, i1, i2, i3, i4, i5⟩ := ih (p + 1) (by omega) (by omega)
        refine ⟨e, by omega, by omega, fun i a b => ?_, i4, fun n hn => ?_⟩
        · by_cases e9 : i = p
          · rw [e9]; exact ⟨hpL, c.1, c.2⟩
          · exact i3 i (by omega) b
        · obtain ⟨n, rfl⟩ : ∃ m, n = m + 1 := ⟨n - 1, by omega⟩
          unfold LX4_skipLetters_0 JX4_skipLetters_0
          rw [if_neg (nI_ge hpL (by omega)), look_i h hpL, ob1_s, lt1 c, ifo, bn_s, nI_1]
          exact i5 n (by omega)
      · refine ⟨p, by omega, Or.inr rfl, fun i _ _ => by omega, fun h9 => c h9.2, fun n hn => ?_⟩
        obtain ⟨n, rfl⟩ : ∃ m, n = m + 1 := ⟨n - 1, by omega⟩
        unfold LX4_skipLetters_0 JX4_skipLetters_0
        rw [if_neg (nI_ge hpL (by omega)), look_i h hpL, ob1_s, lt0 c (by omega), ifz]
    · refine ⟨p, by omega, Or.inr rfl, fun i _ _ => by omega, by omega, fun n hn => ?_⟩
      obtain ⟨n, rfl⟩ : ∃ m, n = m + 1 := ⟨n - 1, by omega⟩
      unfold LX4_skipLetters_0 JX4_skipLetters_0
      rw [if_pos (nI_le (by omega) (by omega))]
theorem lt_ex {k L p : Nat} {f tp : Nat → Int32} {g : Nat → Nat} (h : TH k L f tp g) (hp : p < 1000) : ∃ e, Lt k L f g p e := by
  have hk := h.1
  have hk2 := h.2.1
  obtain ⟨q, i1, i2, i3, i4, i5⟩ := lt_L h 300 p hp (by omega)
  exact ⟨q, i1, i2, i3, i4, fun n hn => by unfold FX4_skipLetters; exact i5 n (by omega)⟩
theorem sLen_le : ∀ w, w < 7 → 0 < sLen.getD w 0 ∧ sLen.getD w 0 ≤ 6 := by decide +kernel
theorem sch_let : ∀ w, w < 7 → ∀ j, j < sLen.getD w 0 → 97 ≤ (sch w j).toInt ∧ (sch w j).toInt ≤ 122 := by decide +kernel
theorem sp_L {k L p w len : Nat} {P : Int32} {f tp : Nat → Int32} {g : Nat → Nat} (h : TH k L f tp g) (hlen : sLen.getD w 0 = len) (hl6 : len ≤ 6) (hp : p + len ≤ L) : ∀ d i, i + d = len → ∃ r : Int32, (r = 0 ∨ r = 1) ∧ (r = 1 ↔ ∀ j, i ≤ j → j < len → nI (g (p + j)) = sch w j) ∧ ∀ n, d + 1 ≤ n → LX4_spells_17 n w P (nI k) f (nI p) (nI i) = some r := by
  have hk := h.1
  have hk2 := h.2.1
  intro d
  induction d with
  | zero =>
    intro i hi
    refine ⟨1, Or.inr rfl, ⟨fun _ j _ _ => by omega, fun _ => rfl⟩, fun n hn => ?_⟩
    obtain ⟨n, rfl⟩ : ∃ m, n = m + 1 := ⟨n - 1, by omega⟩
    unfold LX4_spells_17 JX4_spells_17
    rw [hlen, if_pos (nI_le (by omega) (by omega))]
  | succ d ih =>
    intro i hi
    have e1 : ∀ n, FX5_byteAt n (nI k) f (nI p + nI i) = some (nI (g (p + i))) := fun n => by
      unfold FX5_byteAt
      rw [nI_add, if_neg (nI_pos (by omega)), if_pos (nI_lt (by omega) (by omega)), gd_in (by omega) (by omega), nI_clamp (by omega), (h.2.2 (p + i) (by omega)).1]
    by_cases c : nI (g (p + i)) = sch w i
    · obtain ⟨r, i1, i2, i3⟩ := ih (i + 1) (by omega)
      refine ⟨r, i1, i2.trans ⟨fun h9 j a b => ?_, fun h9 j a b => h9 j (by omega) b⟩, fun n hn => ?_⟩
      · by_cases e9 : j = i
        · rw [e9]; exact c
        · exact h9 j (by omega) b
      · obtain ⟨n, rfl⟩ : ∃ m, n = m + 1 := ⟨n - 1, by omega⟩
        unfold LX4_spells_17 JX4_spells_17
        rw [hlen, if_neg (nI_ge (by omega) (by omega)), e1, ob1_s, gd_in (by omega) (by omega), nI_clamp (by omega), if_pos c, bn_s, nI_1]
        exact i3 n (by omega)
    · refine ⟨0, Or.inl rfl, ⟨fun h9 => absurd h9 (by decide), fun h9 => absurd (h9 i (Nat.le_refl _) (by omega)) c⟩, fun n hn => ?_⟩
      obtain ⟨n, rfl⟩ : ∃ m, n = m + 1 := ⟨n - 1, by omega⟩
      unfold LX4_spells_17 JX4_spells_17
      rw [hlen, if_neg (nI_ge (by omega) (by omega)), e1, ob1_s, gd_in (by omega) (by omega), nI_clamp (by omega), if_neg c]
/-- the byte that the model sees -/
def gz (L : Nat) (g : Nat → Nat) (p : Nat) : Nat := if p < L then g p else 0
theorem mby_z {n k L p : Nat} {f tp : Nat → Int32} {g : Nat → Nat} (h : TH k L f tp g) (hp : p < 2000) : FX10_byteAt n (nI L) tp (nI p) = some (nI (gz L g p)) := by
  unfold gz
  by_cases c : p < L
  · rw [if_pos c]; exact mby_i h c
  · rw [if_neg c]; exact mby_o (by omega) hp
theorem gz_lt {k L p : Nat} {f tp : Nat → Int32} {g : Nat → Nat} (h : TH k L f tp g) : gz L g p < 256 := by
  unfold gz
  by_cases c : p < L
  · rw [if_pos c]; exact (h.2.2 p (by have := h.1; omega)).2.2
  · rw [if_neg c]; omega
theorem mw_L {k L p w len : Nat} {f tp : Nat → Int32} {g : Nat → Nat} (h : TH k L f tp g) (hlen : sLen.getD w 0 = len) (hl6 : len ≤ 6) (hp : p < 1000) : ∀ d i, i + d = len → ∃ r : Int32, (r = 0 ∨ r = 1) ∧ (r = 1 ↔ (∀ j, i ≤ j → j < len → nI (gz L g (p + j)) = sch w j) ∧ ¬ (97 ≤ gz L g (p + len) ∧ gz L g (p + len) ≤ 122)) ∧ ∀ n, d + 1 ≤ n → LX10_isWord_6 n w (nI L) (nI p) tp (nI i) = some (r, nI p) := by
  have hk := h.1
  have hk2 := h.2.1
  intro d
  induction d with
  | zero =>
    intro i hi
    have hz := gz_lt (p := p + len) h
    by_cases c : 97 ≤ gz L g (p + len) ∧ gz L g (p + len) ≤ 122
    · refine ⟨0, Or.inl rfl, ⟨fun h9 => absurd h9 (by decide), fun h9 => absurd c h9.2⟩, fun n hn => ?_⟩
      obtain ⟨n, rfl⟩ : ∃ m, n = m + 1 := ⟨n - 1, by omega⟩
      unfold LX10_isWord_6 JX10_isWord_6
      rw [hlen, if_pos (nI_le (by omega) (by omega)), nI_add, mby_z h (by omega), ob1_s, if_neg (show ¬ nI (gz L g (p + len)) < (97 : Int32) from nI_nlt (a := gz L g (p + len)) (b := 97) (by omega) (by omega)), if_pos (show nI (gz L g (p + len)) ≤ (122 : Int32) from nI_le (a := gz L g (p + len)) (b := 122) (by omega) (by omega))]
    · refine ⟨1, Or.inr rfl, ⟨fun _ => ⟨fun j _ _ => by omega, c⟩, fun _ => rfl⟩, fun n hn => ?_⟩
      obtain ⟨n, rfl⟩ : ∃ m, n = m + 1 := ⟨n - 1, by omega⟩
      unfold LX10_isWord_6 JX10_isWord_6
      rw [hlen, if_pos (nI_le (by omega) (by omega)), nI_add, mby_z h (by omega), ob1_s]
      by_cases c2 : gz L g (p + len) < 97
      · rw [if_pos (show nI (gz L g (p + len)) < (97 : Int32) from nI_lt (a := gz L g (p + len)) (b := 97) (by omega) (by omega))]
      · rw [if_neg (show ¬ nI (gz L g (p + len)) < (97 : Int32) from nI_nlt (a := gz L g (p + len)) (b := 97) (by omega) (by omega)), if_neg (show ¬ nI (gz L g (p + len)) ≤ (122 : Int32) from nI_ge (a := 122) (b := gz L g (p + len)) (by omega) (by omega))]
  | succ d ih =>
    intro i hi
    by_cases c : nI (gz L g (p + i)) = sch w i
    · obtain ⟨r, i1, i2, i3⟩ := ih (i + 1) (by omega)
      refine ⟨r, i1, i2.trans ⟨fun h9 => ⟨fun j a b => ?_, h9.2⟩, fun h9 => ⟨fun j a b => h9.1 j (by omega) b, h9.2⟩⟩, fun n hn => ?_⟩
      · by_cases e9 : j = i
        · rw [e9]; exact c
        · exact h9.1 j (by omega) b
      · obtain ⟨n, rfl⟩ : ∃ m, n = m + 1 := ⟨n - 1, by omega⟩
        unfold LX10_isWord_6 JX10_isWord_6
        rw [hlen, if_neg (nI_ge (by omega) (by omega)), nI_add p i, mby_z h (by omega), ob1_s, gd_in (by omega) (by omega), nI_clamp (by omega), if_pos c, bn_s, nI_1]
        exact i3 n (by omega)
    · refine ⟨0, Or.inl rfl, ⟨fun h9 => absurd h9 (by decide), fun h9 => absurd (h9.1 i (Nat.le_refl _) (by omega)) c⟩, fun n hn => ?_⟩
      obtain ⟨n, rfl⟩ : ∃ m, n = m + 1 := ⟨n - 1, by omega⟩
      unfold LX10_isWord_6 JX10_isWord_6
      rw [hlen, if_neg (nI_ge (by omega) (by omega)), nI_add p i, mby_z h (by omega), ob1_s, gd_in (by omega) (by omega), nI_clamp (by omega), if_neg c]
theorem word_s {k L p q e w len : Nat} {f tp : Nat → Int32} {g : Nat → Nat} (h : TH k L f tp g) (hw : w < 7) (hlen : sLen.getD w 0 = len) (hp : p < 900) (hb : Bl k L f tp g p q) (ht : Lt k L f g q e) :
    ∃ r : Int32, (r = 0 ∨ r = 1) ∧ (r = 1 → e = q + len ∧ e ≤ L) ∧ (∀ n, 301 ≤ n → FX4_spells n w (nI e) (nI k) f (nI q) = some r) ∧ ∀ n, 301 ≤ n → FX10_isWord n w (nI L) (nI p) tp = some (r, nI q) := by
  have hk := h.1
  have hk2 := h.2.1
  obtain ⟨l0, l6⟩ := sLen_le w hw
  rw [hlen] at l0 l6
  obtain ⟨b1, b2, b3, b4, b5⟩ := hb
  obtain ⟨t1, t2, t3, t4, t5⟩ := ht
  obtain ⟨r, m1, m2, m3⟩ := mw_L (w := w) (p := q) h hlen l6 (by omega) len 0 (by omega)
  have hM : ∀ n, 301 ≤ n → FX10_isWord n w (nI L) (nI p) tp = some (r, nI q) := fun n hn => by
    unfold FX10_isWord
    rw [b5 n hn, ob1_s]
    exact m3 n (by omega)
  by_cases c : e = q + len
  · have heL : e ≤ L := by omega
    obtain ⟨r', s1, s2, s3⟩ := sp_L (P := nI e) (p := q) h hlen l6 (by omega) len 0 (by omega)
    have hiff : r = 1 ↔ r' = 1 := by
      rw [m2, s2]
      have hz : ∀ j, j < len → gz L g (q + j) = g (q + j) := fun j hj => by unfold gz; rw [if_pos (by omega)]
      constructor
      · intro h9 j a b; rw [← hz j b]; exact h9.1 j a b
      · intro h9
        refine ⟨fun j a b => by rw [hz j b]; exact h9 j a b, fun h8 => ?_⟩
        unfold gz at h8
        by_cases c2 : q + len < L
        · rw [if_pos c2] at h8; exact t4 ⟨by omega, by rw [c]; exact h8⟩
        · rw [if_neg c2] at h8; omega
    have er : r = r' := by
      rcases m1 with a | a <;> rcases s1 with b | b
      · rw [a, b]
      · rw [a] at hiff; exact absurd (hiff.mpr b) (by decide)
      · rw [b] at hiff; exact absurd (hiff.mp a) (by decide)
      · rw [a, b]
    refine ⟨r, m1, fun _ => ⟨c, heL⟩, fun n hn => ?_, hM⟩
    unfold FX4_spells
    rw [pk_sub (by omega), show e - q = len by omega, hlen, if_pos rfl, er]
    exact s3 n (by omega)
  · have er : r = 0 := by
      rcases m1 with a | a
      · exact a
      · exfalso
        obtain ⟨h8, h9⟩ := m2.mp a
        have hl : ∀ j, j < len → q + j < L ∧ 97 ≤ g (q + j) ∧ g (q + j) ≤ 122 := fun j hj => by
          have e8 := i_eq.mp (h8 j (Nat.zero_le _) hj)
          have e7 := sch_let w hw j (by rw [hlen]; exact hj)
          have e6 := gz_lt (p := q + j) h
          rw [nI_toInt (by omega)] at e8
          unfold gz at e8 e6
          by_cases c2 : q + j < L
          · rw [if_pos c2] at e8 e6; exact ⟨c2, by omega, by omega⟩
          · rw [if_neg c2] at e8; omega
        by_cases c2 : e < q + len
        · have := hl (e - q) (by omega)
          rw [show q + (e - q) = e by omega] at this
          exact t4 this
        · have := t3 (q + len) (by omega) (by omega)
          apply h9
          unfold gz
          rw [if_pos this.1]
          exact this.2
    subst er
    refine ⟨0, Or.inl rfl, fun h9 => absurd h9 (by decide), fun n hn => ?_, hM⟩
    unfold FX4_spells
    rw [pk_sub (by omega), hlen, if_neg (fun e9 => by have := (nI_eq (by omega) (by omega)).mp e9; omega)]
theorem wh_step {m L p i : Nat} {r : Int32} {tp : Nat → Int32} (hi : i < 6) (hw : FX10_isWord m i (nI L) (nI p) tp = some (r, nI p)) : LX10_wordHere_2 (m + 1) (nI L) (nI p) tp (nI i) = if r = 0 then LX10_wordHere_2 m (nI L) (nI p) tp (nI (i + 1)) else some (nI i, nI p) := by
  have e1 : FX10_wordOf m (nI i) = some i := by
    have : i = 0 ∨ i = 1 ∨ i = 2 ∨ i = 3 ∨ i = 4 ∨ i = 5 := by omega
    rcases this with e | e | e | e | e | e <;> subst e <;> rfl
  conv => { lhs; unfold LX10_wordHere_2 JX10_wordHere_2 }
  rw [if_neg (show ¬ (6 : Int32) ≤ nI i from nI_ge (a := i) (b := 6) (by omega) (by omega)), e1, ob1_s, gd_t (by omega), hw, ob2_s, bn_s, nI_1]
/-- the kind of the clause at p, and where its word ends -/
theorem kind_s {k L p : Nat} {f tp : Nat → Int32} {g : Nat → Nat} (h : TH k L f tp g) (hp : p < 900) (hb : Bl k L f tp g p p) :
    (∃ e, e < 1000 ∧ (∀ n, 301 ≤ n → FX4_readKind n (nI L) (nI p) (nI k) f = some (-1, nI e)) ∧ ∀ n, 400 ≤ n → FX10_wordHere n (nI L) (nI p) tp = some (-1, nI p)) ∨
    (∃ w, w < 6 ∧ p + sLen.getD w 0 ≤ L ∧ (∀ n, 301 ≤ n → FX4_readKind n (nI L) (nI p) (nI k) f = some (nI w, nI (p + sLen.getD w 0))) ∧ ∀ n, 400 ≤ n → FX10_wordHere n (nI L) (nI p) tp = some (nI w, nI p)) := by
  have hk := h.1
  have hk2 := h.2.1
  obtain ⟨e, ht⟩ := lt_ex (p := p) h (by omega)
  have he : e < 1000 := by have := ht.2.1; omega
  have hL5 := ht.2.2.2.2
  obtain ⟨r0, a0, b0, c0, d0⟩ := word_s (w := 0) h (by omega) rfl hp hb ht
  obtain ⟨r1, a1, b1, c1, d1⟩ := word_s (w := 1) h (by omega) rfl hp hb ht
  obtain ⟨r2, a2, b2, c2, d2⟩ := word_s (w := 2) h (by omega) rfl hp hb ht
  obtain ⟨r3, a3, b3, c3, d3⟩ := word_s (w := 3) h (by omega) rfl hp hb ht
  obtain ⟨r4, a4, b4, c4, d4⟩ := word_s (w := 4) h (by omega) rfl hp hb ht
  obtain ⟨r5, a5, b5, c5, d5⟩ := word_s (w := 5) h (by omega) rfl hp hb ht
  have hM : ∀ n, 400 ≤ n → FX10_wordHere n (nI L) (nI p) tp = if r0 = 0 then (if r1 = 0 then (if r2 = 0 then (if r3 = 0 then (if r4 = 0 then (if r5 = 0 then some (-1, nI p) else some (nI 5, nI p)) else some (nI 4, nI p)) else some (nI 3, nI p)) else some (nI 2, nI p)) else some (nI 1, nI p)) else some (nI 0, nI p) := fun n hn => by
    obtain ⟨n, rfl⟩ : ∃ m, n = m + 1 + 1 + 1 + 1 + 1 + 1 + 1 := ⟨n - 7, by omega⟩
    have e6 : LX10_wordHere_2 (n + 1) (nI L) (nI p) tp (nI 6) = some (-1, nI p) := by
      unfold LX10_wordHere_2 JX10_wordHere_2; rw [if_pos (by decide)]
    unfold FX10_wordHere
    show LX10_wordHere_2 _ (nI L) (nI p) tp (nI 0) = _
    rw [wh_step (i := 0) (by omega) (d0 _ (by omega)), wh_step (i := 1) (by omega) (d1 _ (by omega)), wh_step (i := 2) (by omega) (d2 _ (by omega)), wh_step (i := 3) (by omega) (d3 _ (by omega)), wh_step (i := 4) (by omega) (d4 _ (by omega)), wh_step (i := 5) (by omega) (d5 _ (by omega)), e6]
  have hC : ∀ n, 301 ≤ n → FX4_readKind n (nI L) (nI p) (nI k) f = if r0 = 0 then (if r1 = 0 then (if r2 = 0 then (if r3 = 0 then (if r4 = 0 then (if r5 = 0 then some (-1, nI e) else some (5, nI e)) else some (4, nI e)) else some (3, nI e)) else some (2, nI e)) else some (1, nI e)) else some (0, nI e) := fun n hn => by
    unfold FX4_readKind
    rw [hL5 n hn, ob1_s, c0 n hn, ob1_s, c1 n hn, ob1_s, c2 n hn, ob1_s, c3 n hn, ob1_s, c4 n hn, ob1_s, c5 n hn, ob1_s]
  rcases a0 with rfl | rfl
  · rcases a1 with rfl | rfl
    · rcases a2 with rfl | rfl
      · rcases a3 with rfl | rfl
        · rcases a4 with rfl | rfl
          · rcases a5 with rfl | rfl
            · exact Or.inl ⟨e, he, fun n hn => (hC n hn).trans rfl, fun n hn => (hM n hn).trans rfl⟩
            · obtain ⟨x1, x2⟩ := b5 rfl
              exact Or.inr ⟨5, by omega, x1 ▸ x2, fun n hn => (hC n hn).trans (by rw [x1]; rfl), fun n hn => (hM n hn).trans rfl⟩
          · obtain ⟨x1, x2⟩ := b4 rfl
            exact Or.inr ⟨4, by omega, x1 ▸ x2, fun n hn => (hC n hn).trans (by rw [x1]; rfl), fun n hn => (hM n hn).trans rfl⟩
        · obtain ⟨x1, x2⟩ := b3 rfl
          exact Or.inr ⟨3, by omega, x1 ▸ x2, fun n hn => (hC n hn).trans (by rw [x1]; rfl), fun n hn => (hM n hn).trans rfl⟩
      · obtain ⟨x1, x2⟩ := b2 rfl
        exact Or.inr ⟨2, by omega, x1 ▸ x2, fun n hn => (hC n hn).trans (by rw [x1]; rfl), fun n hn => (hM n hn).trans rfl⟩
    · obtain ⟨x1, x2⟩ := b1 rfl
      exact Or.inr ⟨1, by omega, x1 ▸ x2, fun n hn => (hC n hn).trans (by rw [x1]; rfl), fun n hn => (hM n hn).trans rfl⟩
  · obtain ⟨x1, x2⟩ := b0 rfl
    exact Or.inr ⟨0, by omega, x1 ▸ x2, fun n hn => (hC n hn).trans (by rw [x1]; rfl), fun n hn => (hM n hn).trans rfl⟩
