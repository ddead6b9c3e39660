/-! what holds at the law's start -/
theorem ar_of {args : Array Value} {s : State} {ty : FieldType} (h : (Cond.arrayClass ty).before args s = true) : ∃ cA : ClassId, ArrOfT s cA ty ∧ s.vm.findClass ("[" ++ ty.toString) = some cA := by
  obtain ⟨cA, kA, comp, h1, h2, h3⟩ := Cond.arrayClass_spec h
  exact ⟨cA, fun n z => ⟨fun k h => (by cases h), kA, h2, comp, h3⟩, h1⟩
theorem en_start {args : Array Value} {s : State} (hts : ∀ w ∈ lw_tbl, w.before args s = true) : ∃ (D : va_G) (ct : Nat → ClassId), EN D ct s := by
  obtain ⟨c0, iS0, hK0⟩ := u_known (C := RX0) (T := TX0) (N := 5) (n := 5) hts cu_X0 (show (Cond.instantiable RX0 5).before args s = true from (hts _ (List.mem_of_getElem? (i := 110) (by decide +kernel))))
  obtain ⟨c1, iS1, hK1⟩ := u_known (C := RX1) (T := TX1) (N := 14) (n := 14) hts cu_X1 (show (Cond.instantiable RX1 14).before args s = true from (hts _ (List.mem_of_getElem? (i := 132) (by decide +kernel))))
  obtain ⟨c2, iS2, hK2⟩ := u_known (C := RX2) (T := TX2) (N := 2) (n := 2) hts cu_X2 (show (Cond.instantiable RX2 2).before args s = true from (hts _ (List.mem_of_getElem? (i := 92) (by decide +kernel))))
  obtain ⟨c3, iS3, hK3⟩ := u_known (C := RX3) (T := TX3) (N := 9) (n := 9) hts cu_X3 (show (Cond.instantiable RX3 9).before args s = true from (hts _ (List.mem_of_getElem? (i := 250) (by decide +kernel))))
  obtain ⟨c4, iS4, hK4⟩ := u_known (C := RX4) (T := TX4) (N := 6) (n := 6) hts cu_X4 (show (Cond.instantiable RX4 6).before args s = true from (hts _ (List.mem_of_getElem? (i := 211) (by decide +kernel))))
  obtain ⟨c5, iS5, hK5⟩ := u_known (C := RX5) (T := TX5) (N := 2) (n := 2) hts cu_X5 (show (Cond.instantiable RX5 2).before args s = true from (hts _ (List.mem_of_getElem? (i := 217) (by decide +kernel))))
  obtain ⟨c6, iS6, hK6⟩ := u_known (C := RX6) (T := TX6) (N := 8) (n := 8) hts cu_X6 (show (Cond.instantiable RX6 8).before args s = true from (hts _ (List.mem_of_getElem? (i := 86) (by decide +kernel))))
  obtain ⟨c7, iS7, hK7⟩ := u_known (C := RX7) (T := TX7) (N := 2) (n := 2) hts cu_X7 (show (Cond.instantiable RX7 2).before args s = true from (hts _ (List.mem_of_getElem? (i := 310) (by decide +kernel))))
  obtain ⟨c8, iS8, hK8⟩ := u_known (C := RX8) (T := TX8) (N := 2) (n := 2) hts cu_X8 (show (Cond.instantiable RX8 2).before args s = true from (hts _ (List.mem_of_getElem? (i := 324) (by decide +kernel))))
  obtain ⟨c9, iS9, hK9⟩ := u_known (C := RX9) (T := TX9) (N := 9) (n := 9) hts cu_X9 (show (Cond.instantiable RX9 9).before args s = true from (hts _ (List.mem_of_getElem? (i := 77) (by decide +kernel))))
  obtain ⟨c10, iS10, hK10⟩ := u_known (C := RX10) (T := TX10) (N := 54) (n := 54) hts cu_X10 (show (Cond.instantiable RX10 54).before args s = true from (hts _ (List.mem_of_getElem? (i := 1026) (by decide +kernel))))
  obtain ⟨a0, ra0, na0⟩ := ar_of (ty := .int) (hts _ (List.mem_of_getElem? (i := 108) (by decide +kernel)))
  obtain ⟨a1, ra1, na1⟩ := ar_of (ty := .long) (hts _ (List.mem_of_getElem? (i := 180) (by decide +kernel)))
  obtain ⟨a2, ra2, na2⟩ := ar_of (ty := .boolean) (hts _ (List.mem_of_getElem? (i := 322) (by decide +kernel)))
  obtain ⟨a3, ra3, na3⟩ := ar_of (ty := .byte) (hts _ (List.mem_of_getElem? (i := 503) (by decide +kernel)))
  obtain ⟨comp, a4, k4, o1, o2, o3, o4, o5⟩ := Cond.arrayOver_spec (n := "NeedleHouse$Track") (show (Cond.arrayOver (.object "NeedleHouse$Track")).before args s = true from (hts _ (List.mem_of_getElem? (i := 85) (by decide +kernel))))
  refine ⟨(fun k => if k = 0 then c0 else if k = 1 then c1 else if k = 2 then c2 else if k = 3 then c3 else if k = 4 then c4 else if k = 5 then c5 else if k = 6 then c6 else if k = 7 then c7 else if k = 8 then c8 else if k = 9 then c9 else c10, fun k => if k = 0 then iS0 else if k = 1 then iS1 else if k = 2 then iS2 else if k = 3 then iS3 else if k = 4 then iS4 else if k = 5 then iS5 else if k = 6 then iS6 else if k = 7 then iS7 else if k = 8 then iS8 else if k = 9 then iS9 else iS10), fun k => if k = 0 then a0 else if k = 1 then a1 else if k = 2 then a2 else if k = 3 then a3 else a4, ⟨?_, ?_⟩, ?_⟩
  · intro k q hq
    match k, hq with
    | 0, hq => cases hq; exact hK0
    | 1, hq => cases hq; exact hK1
    | 2, hq => cases hq; exact hK2
    | 3, hq => cases hq; exact hK3
    | 4, hq => cases hq; exact hK4
    | 5, hq => cases hq; exact hK5
    | 6, hq => cases hq; exact hK6
    | 7, hq => cases hq; exact hK7
    | 8, hq => cases hq; exact hK8
    | 9, hq => cases hq; exact hK9
    | 10, hq => cases hq; exact hK10
    | k + 11, hq => simp [vwCl] at hq
  · intro k q hq
    match k, hq with
    | 0, hq => cases hq; exact ⟨ra0, na0⟩
    | 1, hq => cases hq; exact ⟨ra1, na1⟩
    | 2, hq => cases hq; exact ⟨ra2, na2⟩
    | 3, hq => cases hq; exact ⟨ra3, na3⟩
    | 4, hq => cases hq; exact ⟨fun n z => ⟨fun k h => (by cases h), k4, o3, comp, o4⟩, k4, comp, o3, o4, o1, o5⟩
    | k + 5, hq => simp [tysL] at hq
  · exact ⟨va_Nw.of rfl (hts _ (List.mem_of_getElem? (i := 186) (by decide +kernel))), va_Nw.of rfl (hts _ (List.mem_of_getElem? (i := 188) (by decide +kernel))), va_Nw.of rfl (hts _ (List.mem_of_getElem? (i := 289) (by decide +kernel))), va_Nw.of rfl (hts _ (List.mem_of_getElem? (i := 284) (by decide +kernel))), va_Nw.of rfl (hts _ (List.mem_of_getElem? (i := 230) (by decide +kernel))), va_Nw.of rfl (hts _ (List.mem_of_getElem? (i := 272) (by decide +kernel))), va_Nw.of rfl (hts _ (List.mem_of_getElem? (i := 268) (by decide +kernel))), va_Nw.of rfl (hts _ (List.mem_of_getElem? (i := 274) (by decide +kernel))), va_Nw.of rfl (hts _ (List.mem_of_getElem? (i := 277) (by decide +kernel))), va_Nw.of rfl (hts _ (List.mem_of_getElem? (i := 288) (by decide +kernel))), va_Nw.of rfl (hts _ (List.mem_of_getElem? (i := 269) (by decide +kernel))), va_Nw.of rfl (hts _ (List.mem_of_getElem? (i := 271) (by decide +kernel))), va_Nw.of rfl (hts _ (List.mem_of_getElem? (i := 283) (by decide +kernel))), va_Nw.of rfl (hts _ (List.mem_of_getElem? (i := 280) (by decide +kernel))), va_Nw.of rfl (hts _ (List.mem_of_getElem? (i := 281) (by decide +kernel))), va_Nw.of rfl (hts _ (List.mem_of_getElem? (i := 278) (by decide +kernel))), va_Nw.of rfl (hts _ (List.mem_of_getElem? (i := 275) (by decide +kernel))), va_Nw.of rfl (hts _ (List.mem_of_getElem? (i := 730) (by decide +kernel))), va_Nw.of rfl (hts _ (List.mem_of_getElem? (i := 864) (by decide +kernel)))⟩
def tmS (i : Nat) : Term := Term.string RX4 ([73, 79, 81, 83, 85, 87, 104].getD i 0)
def tmM (i : Nat) : Term := Term.string RX10 ([234, 235, 236, 238, 239, 240, 273].getD i 0)
def FL : List Cond := flatC (Jvm.Cond.and given_1 narrow_1)
theorem fl_ex : ∀ i, i < 7 → Cond.exactly (tmS i) "java/lang/String" ∈ FL := by decide +kernel
theorem fl_co : ∀ i, i < 7 → Cond.eq (.field (tmS i) "java/lang/String" "coder" "B") (.int 0) ∈ FL := by decide +kernel
theorem fl_ar : ∀ i, i < 7 → Cond.arrayOf (.field (tmS i) "java/lang/String" "value" "[B") .byte ∈ FL := by decide +kernel
theorem fl_le : ∀ i, i < 7 → Cond.eq (.length (.field (tmS i) "java/lang/String" "value" "[B")) (.int (Int32.ofNat (sLen.getD i 0))) ∈ FL := by decide +kernel
theorem fl_el0 : ∀ j, j < sLen.getD 0 0 → Cond.eq (.elem (.field (tmS 0) "java/lang/String" "value" "[B") (.int (Int32.ofNat j))) (.int ((sByt.getD 0 []).getD j 0)) ∈ FL := by decide +kernel
theorem fl_el1 : ∀ j, j < sLen.getD 1 0 → Cond.eq (.elem (.field (tmS 1) "java/lang/String" "value" "[B") (.int (Int32.ofNat j))) (.int ((sByt.getD 1 []).getD j 0)) ∈ FL := by decide +kernel
theorem fl_el2 : ∀ j, j < sLen.getD 2 0 → Cond.eq (.elem (.field (tmS 2) "java/lang/String" "value" "[B") (.int (Int32.ofNat j))) (.int ((sByt.getD 2 []).getD j 0)) ∈ FL := by decide +kernel
theorem fl_el3 : ∀ j, j < sLen.getD 3 0 → Cond.eq (.elem (.field (tmS 3) "java/lang/String" "value" "[B") (.int (Int32.ofNat j))) (.int ((sByt.getD 3 []).getD j 0)) ∈ FL := by decide +kernel
theorem fl_el4 : ∀ j, j < sLen.getD 4 0 → Cond.eq (.elem (.field (tmS 4) "java/lang/String" "value" "[B") (.int (Int32.ofNat j))) (.int ((sByt.getD 4 []).getD j 0)) ∈ FL := by decide +kernel
theorem fl_el5 : ∀ j, j < sLen.getD 5 0 → Cond.eq (.elem (.field (tmS 5) "java/lang/String" "value" "[B") (.int (Int32.ofNat j))) (.int ((sByt.getD 5 []).getD j 0)) ∈ FL := by decide +kernel
theorem fl_el6 : ∀ j, j < sLen.getD 6 0 → Cond.eq (.elem (.field (tmS 6) "java/lang/String" "value" "[B") (.int (Int32.ofNat j))) (.int ((sByt.getD 6 []).getD j 0)) ∈ FL := by decide +kernel
theorem fl_ne0 : ∀ j, j < 7 → 0 < j → Cond.not (Cond.eq (tmS 0) (tmS j)) ∈ FL := by decide +kernel
theorem fl_ne1 : ∀ j, j < 7 → 1 < j → Cond.not (Cond.eq (tmS 1) (tmS j)) ∈ FL := by decide +kernel
theorem fl_ne2 : ∀ j, j < 7 → 2 < j → Cond.not (Cond.eq (tmS 2) (tmS j)) ∈ FL := by decide +kernel
theorem fl_ne3 : ∀ j, j < 7 → 3 < j → Cond.not (Cond.eq (tmS 3) (tmS j)) ∈ FL := by decide +kernel
theorem fl_ne4 : ∀ j, j < 7 → 4 < j → Cond.not (Cond.eq (tmS 4) (tmS j)) ∈ FL := by decide +kernel
theorem fl_ne5 : ∀ j, j < 7 → 5 < j → Cond.not (Cond.eq (tmS 5) (tmS j)) ∈ FL := by decide +kernel
theorem fl_ne6 : ∀ j, j < 7 → 6 < j → Cond.not (Cond.eq (tmS 6) (tmS j)) ∈ FL := by decide +kernel
theorem fl_mm : ∀ i, i < 7 → Cond.eq (tmS i) (tmM i) ∈ FL ∨ Cond.eq (tmM i) (tmS i) ∈ FL := by decide +kernel
theorem fl_x : Cond.exactly (Term.string RX9 229) "java/lang/String" ∈ FL ∧ Cond.exactly (Term.string RX9 234) "java/lang/String" ∈ FL ∧ Cond.exactly (Term.string RX9 263) "java/lang/String" ∈ FL := by decide +kernel
theorem fl_s : Cond.isRef (.static Bundle.tN "UNASSIGNED_STACK" Bundle.steD) ∈ FL ∧ Cond.isRef (.static Bundle.tN "SUPPRESSED_SENTINEL" Bundle.listD) ∈ FL ∧ Cond.eq (.static "java/lang/String" "COMPACT_STRINGS" "Z") (.int 1) ∈ FL ∧ Cond.isRef (.static "jdk/internal/util/Preconditions" "SIOOBE_FORMATTER" "Ljava/util/function/BiFunction;") ∈ FL ∧ Cond.not (Cond.castable exA exI) ∈ FL := by decide +kernel
theorem ev_of {args : Array Value} {s : State} {t : Term} (h : (Cond.exactly t "java/lang/String").before args s = true) : ∃ a : Nat, t.eval args s none [] s = some (.ref a) := by
  obtain ⟨a, c, cA, kA, q1, -⟩ := Cond.exactly_spec (args := args) (first := s) (o := none) (s := s) (idx := []) (t := t) (cls := "java/lang/String") h
  exact ⟨a, q1⟩
set_option maxHeartbeats 4000000 in
theorem se_start {args : Array Value} {s : State} (hts : ∀ w ∈ lw_tbl, w.before args s = true) (hgv : (Jvm.Cond.and given_1 narrow_1).before args s = true) : ∃ adK adV : Nat → Nat, SE adK adV (AA s) s s.heap := by
  have hs : ∀ w ∈ FL, w.before args s = true := flat_of_before _ hgv
  have hA : ∀ a : Nat, a < s.heap.size → ¬ AA s a := fun a h => Nat.not_le.mpr h
  have hel : ∀ i : Nat, i < 7 → ∀ j : Nat, j < sLen.getD i 0 → Cond.eq (.elem (.field (tmS i) "java/lang/String" "value" "[B") (.int (Int32.ofNat j))) (.int ((sByt.getD i []).getD j 0)) ∈ FL := fun i hi => by
    rcases (show i = 0 ∨ i = 1 ∨ i = 2 ∨ i = 3 ∨ i = 4 ∨ i = 5 ∨ i = 6 by omega) with e | e | e | e | e | e | e <;> subst e
    · exact fl_el0
    · exact fl_el1
    · exact fl_el2
    · exact fl_el3
    · exact fl_el4
    · exact fl_el5
    · exact fl_el6
  have hne : ∀ i j : Nat, i < 7 → j < 7 → i < j → Cond.not (Cond.eq (tmS i) (tmS j)) ∈ FL := fun i j hi hj hij => by
    rcases (show i = 0 ∨ i = 1 ∨ i = 2 ∨ i = 3 ∨ i = 4 ∨ i = 5 ∨ i = 6 by omega) with e | e | e | e | e | e | e <;> subst e
    · exact fl_ne0 j hj hij
    · exact fl_ne1 j hj hij
    · exact fl_ne2 j hj hij
    · exact fl_ne3 j hj hij
    · exact fl_ne4 j hj hij
    · exact fl_ne5 j hj hij
    · exact fl_ne6 j hj hij
  obtain ⟨adK, adV, hS, hev⟩ := vk_Sof (args := args) (s := s) (N := 7) (tm := tmS) (len := sLen) (byt := sByt) (A := AA s) (by decide +kernel) (fun i hi => hs _ (fl_ex i hi)) (fun i hi => hs _ (fl_co i hi)) (fun i hi => hs _ (fl_ar i hi)) (fun i hi => hs _ (fl_le i hi)) (fun i hi j hj => hs _ (hel i hi j hj)) (fun i j hi hj hij => by
    rcases Nat.lt_or_gt_of_ne hij with h | h
    · exact Or.inl (hs _ (hne i j hi hj h))
    · exact Or.inr (hs _ (hne j i hj hi h))) hA
  have hmv : ∀ i : Nat, i < 7 → (tmM i).eval args s none [] s = some (.ref (adK i)) := fun i hi => by
    rcases fl_mm i hi with h | h
    · exact va_eqR (hs _ h) (hev i hi)
    · exact va_eqv (hs _ h) (hev i hi)
  refine ⟨adK, adV, hS, va_Zof (hts _ (List.mem_of_getElem? (i := 879) (by decide +kernel))) (hts _ (List.mem_of_getElem? (i := 71) (by decide +kernel))) (va_eqi (hs _ fl_s.2.2.1)) hA, va_Zqof (hts _ (List.mem_of_getElem? (i := 895) (by decide +kernel))) (hts _ (List.mem_of_getElem? (i := 73) (by decide +kernel))) (hs _ fl_s.2.2.2.1) hA, vk_R.of (hts _ (List.mem_of_getElem? (i := 865) (by decide +kernel))) (hev 0 (by omega)), vk_R.of (hts _ (List.mem_of_getElem? (i := 918) (by decide +kernel))) (hev 1 (by omega)), vk_R.of (hts _ (List.mem_of_getElem? (i := 919) (by decide +kernel))) (hev 2 (by omega)), vk_R.of (hts _ (List.mem_of_getElem? (i := 920) (by decide +kernel))) (hev 3 (by omega)), vk_R.of (hts _ (List.mem_of_getElem? (i := 921) (by decide +kernel))) (hev 4 (by omega)), vk_R.of (hts _ (List.mem_of_getElem? (i := 922) (by decide +kernel))) (hev 5 (by omega)), vk_R.of (hts _ (List.mem_of_getElem? (i := 945) (by decide +kernel))) (hev 6 (by omega)), vk_R.of (hts _ (List.mem_of_getElem? (i := 1351) (by decide +kernel))) (hmv 0 (by omega)), vk_R.of (hts _ (List.mem_of_getElem? (i := 1352) (by decide +kernel))) (hmv 1 (by omega)), vk_R.of (hts _ (List.mem_of_getElem? (i := 1353) (by decide +kernel))) (hmv 2 (by omega)), vk_R.of (hts _ (List.mem_of_getElem? (i := 1354) (by decide +kernel))) (hmv 3 (by omega)), vk_R.of (hts _ (List.mem_of_getElem? (i := 1355) (by decide +kernel))) (hmv 4 (by omega)), vk_R.of (hts _ (List.mem_of_getElem? (i := 1356) (by decide +kernel))) (hmv 5 (by omega)), vk_R.of (hts _ (List.mem_of_getElem? (i := 1378) (by decide +kernel))) (hmv 6 (by omega))⟩
theorem xe_start {args : Array Value} {s : State} (hts : ∀ w ∈ lw_tbl, w.before args s = true) (hgv : (Jvm.Cond.and given_1 narrow_1).before args s = true) : XE (AA s) s s.heap := by
  have hs : ∀ w ∈ FL, w.before args s = true := flat_of_before _ hgv
  have hA : ∀ a : Nat, a < s.heap.size → ¬ AA s a := fun a h => Nat.not_le.mpr h
  obtain ⟨q1, h1⟩ := ev_of (hs _ fl_x.1)
  obtain ⟨q2, h2⟩ := ev_of (hs _ fl_x.2.1)
  obtain ⟨q3, h3⟩ := ev_of (hs _ fl_x.2.2)
  exact ⟨vx_Zqof (hts _ (List.mem_of_getElem? (i := 464) (by decide +kernel))) (hts _ (List.mem_of_getElem? (i := 65) (by decide +kernel))) (hs _ fl_s.1) hA, vx_Zqof (hts _ (List.mem_of_getElem? (i := 466) (by decide +kernel))) (hts _ (List.mem_of_getElem? (i := 65) (by decide +kernel))) (hs _ fl_s.2.1) hA, ⟨q1, vk_R.of (hts _ (List.mem_of_getElem? (i := 661) (by decide +kernel))) h1⟩, ⟨q2, vk_R.of (hts _ (List.mem_of_getElem? (i := 477) (by decide +kernel))) h2⟩, ⟨q3, vk_R.of (hts _ (List.mem_of_getElem? (i := 674) (by decide +kernel))) h3⟩, va_Nw.of rfl (hts _ (List.mem_of_getElem? (i := 441) (by decide +kernel))), va_Nw.of rfl (hts _ (List.mem_of_getElem? (i := 443) (by decide +kernel))), va_Nw.of rfl (hts _ (List.mem_of_getElem? (i := 445) (by decide +kernel))), va_Nw.of rfl (hts _ (List.mem_of_getElem? (i := 439) (by decide +kernel))), va_Nw.of rfl (hts _ (List.mem_of_getElem? (i := 667) (by decide +kernel)))⟩
theorem nc_start {args : Array Value} {s : State} (hgv : (Jvm.Cond.and given_1 narrow_1).before args s = true) : va_Nc exA exI s := va_Nc.of (flat_of_before _ hgv _ fl_s.2.2.2.2)
