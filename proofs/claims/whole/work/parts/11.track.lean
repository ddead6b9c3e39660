def W_17 (ct : Nat → ClassId) (a0 a1 a2 a3 a4 a5 a6 a7 : Nat) (v0 : Int32) : va_W := [(a0, .inr (6, [.ref a1, .ref a2, .ref a3, .ref a4, .ref a5, .ref a6, .ref a7, .int v0]))]
/-! NeedleHouse$Track.rowOf(I)LNeedleHouse$Row; -/
theorem i_X6_rowOf_X6 : ∀ w ∈ wsX60, w ∈ wsX6_rowOf := by decide +kernel
set_option maxHeartbeats 4000000 in
set_option maxRecDepth 100000 in
theorem met_X6_rowOf_t (l : Launch) (D : va_G) (ct : Nat → ClassId) (q_t : Nat) (q_t_row0 : Nat) (q_t_row1 : Nat) (q_t_measures : Nat) (q_t_pieces : Nat) (q_t_joins : Nat) (q_t_finals : Nat) (q_t_kept : Nat) (sz : Nat) (t_settledNear : Int32) (p1 : Int32) (hc : p1 = 0) : Met l yX6_rowOf wsX6_rowOf ({ frames := 0, cells := 0, slots := 0, locals := 0 } : Room) (va_Pc [.ref q_t, .int p1] (pre_ D ct sz (W_17 ct q_t q_t_row0 q_t_row1 q_t_measures q_t_pieces q_t_joins q_t_finals q_t_kept t_settledNear))) (va_Qr (fun (_ : Unit) => True) (fun _ a0 t => a0 = q_t_row0 ∧ va_P D vwCl (W_17 ct q_t q_t_row0 q_t_row1 q_t_measures q_t_pieces q_t_joins q_t_finals q_t_kept t_settledNear) t.heap) (va_A (W_17 ct q_t q_t_row0 q_t_row1 q_t_measures q_t_pieces q_t_joins q_t_finals q_t_kept t_settledNear) sz)) 0 0 (va_A (W_17 ct q_t q_t_row0 q_t_row1 q_t_measures q_t_pieces q_t_joins q_t_finals q_t_kept t_settledNear) sz) := by
  refine Met.ofW (cc := cX6_rowOf) (maxL := 2) (ret := (some (.object "NeedleHouse$Row"))) (by decide) rfl ?_
  intro p e s m args below meth c s₁ B hml hv
  obtain ⟨rfl, hsz, hP, hE, hD0⟩ := hv
  have hx := B.exec
  have hb := B.bytes
  have hr := B.returns
  have hts := atoms_spec (ws := wsX6_rowOf) B.pre
  have hown : s.vm.findClass RX6 = some m.cls := findClass_of_methodNamed B.named
  have hlocks := B.notSynchronized
  subst hsz
  have hD := hD0.self (sz := s.heap.size)
  generalize hAe : va_A (W_17 ct q_t q_t_row0 q_t_row1 q_t_measures q_t_pieces q_t_joins q_t_finals q_t_kept t_settledNear) s.heap.size = A at hD ⊢
  have hA : ∀ q : Nat, s.heap.size ≤ q → A q := fun q h => by rw [← hAe]; exact Or.inr h
  have hl := lv_entry ([.ref q_t, .int p1]) (n := 2) (Nat.le_of_ble_eq_true rfl)
  rw [lg_entry_eq]
  generalize (lg_sl ([.ref q_t, .int p1]) ++ List.replicate (2 - (lg_sl ([.ref q_t, .int p1])).length) Slot.unset).toArray = ls at hl ⊢
  have hl : lv_has ls 2 [(0, .ref q_t), (1, .int p1)] := hl
  have hS : ∀ H : Heap, s.heap = H → va_S A s.heap H [] := fun H h => h ▸ va_S.rf
  generalize hH : s.heap = H at hP ⊢
  have hS := hS H hH
  refine lv_iload_n hx hb dX6_rowOf_0 rfl (lv_at hl 1 rfl) ?_
  refine lv_if_ne (tgt := 11) hx hb dX6_rowOf_1 (by decide) (fun c1 => ?_) (fun c1 => ?_)
  · exact absurd hc c1
  · refine lv_aload_n hx hb dX6_rowOf_4 rfl (lv_at hl 0 rfl) ?_
    refine va_get (D := D) (ci := 6) (v := .ref q_t_row0) (C := RX6) (T := TX6) (N := 8) hx hb hts i_X6_rowOf_X6 hown hE.1 hP 0 rfl rfl 0 (by decide) (hts (.fieldLink RX6 12 "NeedleHouse$Track" "row0" "LNeedleHouse$Row;") (by decide +kernel)) (fun _ h9 => h9) rfl dX6_rowOf_5 ?_
    refine lv_goto (tgt := 15) hx hb dX6_rowOf_8 (by decide) ?_
    exact W.aret hx hb hr (Or.inl ⟨_, rfl⟩) (Or.inr ⟨_, rfl⟩) (fun t ht hW => ⟨⟨(), _, rfl, trivial, rfl, vaP_at ht hP⟩, hS.F ht⟩) hS.2.2 dX6_rowOf_15
set_option maxHeartbeats 4000000 in
set_option maxRecDepth 100000 in
theorem met_X6_rowOf_f (l : Launch) (D : va_G) (ct : Nat → ClassId) (q_t : Nat) (q_t_row0 : Nat) (q_t_row1 : Nat) (q_t_measures : Nat) (q_t_pieces : Nat) (q_t_joins : Nat) (q_t_finals : Nat) (q_t_kept : Nat) (sz : Nat) (t_settledNear : Int32) (p1 : Int32) (hc : ¬ p1 = 0) : Met l yX6_rowOf wsX6_rowOf ({ frames := 0, cells := 0, slots := 0, locals := 0 } : Room) (va_Pc [.ref q_t, .int p1] (pre_ D ct sz (W_17 ct q_t q_t_row0 q_t_row1 q_t_measures q_t_pieces q_t_joins q_t_finals q_t_kept t_settledNear))) (va_Qr (fun (_ : Unit) => True) (fun _ a0 t => a0 = q_t_row1 ∧ va_P D vwCl (W_17 ct q_t q_t_row0 q_t_row1 q_t_measures q_t_pieces q_t_joins q_t_finals q_t_kept t_settledNear) t.heap) (va_A (W_17 ct q_t q_t_row0 q_t_row1 q_t_measures q_t_pieces q_t_joins q_t_finals q_t_kept t_settledNear) sz)) 0 0 (va_A (W_17 ct q_t q_t_row0 q_t_row1 q_t_measures q_t_pieces q_t_joins q_t_finals q_t_kept t_settledNear) sz) := by
  refine Met.ofW (cc := cX6_rowOf) (maxL := 2) (ret := (some (.object "NeedleHouse$Row"))) (by decide) rfl ?_
  intro p e s m args below meth c s₁ B hml hv
  obtain ⟨rfl, hsz, hP, hE, hD0⟩ := hv
  have hx := B.exec
  have hb := B.bytes
  have hr := B.returns
  have hts := atoms_spec (ws := wsX6_rowOf) B.pre
  have hown : s.vm.findClass RX6 = some m.cls := findClass_of_methodNamed B.named
  have hlocks := B.notSynchronized
  subst hsz
  have hD := hD0.self (sz := s.heap.size)
  generalize hAe : va_A (W_17 ct q_t q_t_row0 q_t_row1 q_t_measures q_t_pieces q_t_joins q_t_finals q_t_kept t_settledNear) s.heap.size = A at hD ⊢
  have hA : ∀ q : Nat, s.heap.size ≤ q → A q := fun q h => by rw [← hAe]; exact Or.inr h
  have hl := lv_entry ([.ref q_t, .int p1]) (n := 2) (Nat.le_of_ble_eq_true rfl)
  rw [lg_entry_eq]
  generalize (lg_sl ([.ref q_t, .int p1]) ++ List.replicate (2 - (lg_sl ([.ref q_t, .int p1])).length) Slot.unset).toArray = ls at hl ⊢
  have hl : lv_has ls 2 [(0, .ref q_t), (1, .int p1)] := hl
  have hS : ∀ H : Heap, s.heap = H → va_S A s.heap H [] := fun H h => h ▸ va_S.rf
  generalize hH : s.heap = H at hP ⊢
  have hS := hS H hH
  refine lv_iload_n hx hb dX6_rowOf_0 rfl (lv_at hl 1 rfl) ?_
  refine lv_if_ne (tgt := 11) hx hb dX6_rowOf_1 (by decide) (fun c1 => ?_) (fun c1 => ?_)
  · refine lv_aload_n hx hb dX6_rowOf_11 rfl (lv_at hl 0 rfl) ?_
    refine va_get (D := D) (ci := 6) (v := .ref q_t_row1) (C := RX6) (T := TX6) (N := 8) hx hb hts i_X6_rowOf_X6 hown hE.1 hP 0 rfl rfl 1 (by decide) (hts (.fieldLink RX6 18 "NeedleHouse$Track" "row1" "LNeedleHouse$Row;") (by decide +kernel)) (fun _ h9 => h9) rfl dX6_rowOf_12 ?_
    exact W.aret hx hb hr (Or.inl ⟨_, rfl⟩) (Or.inr ⟨_, rfl⟩) (fun t ht hW => ⟨⟨(), _, rfl, trivial, rfl, vaP_at ht hP⟩, hS.F ht⟩) hS.2.2 dX6_rowOf_15
  · exact absurd c1 hc

def W_18 (ct : Nat → ClassId) (a0 a1 a2 a3 a4 a5 a6 a7 a8 a9 : Nat) (v0 : Int32) (v1 : Int32) (v2 : Int32) : va_W := [(a0, .inr (6, [.ref a1, .ref a2, .ref a3, .ref a4, .ref a5, .ref a6, .ref a7, .int v0])), (a1, .inr (2, [.ref a8, .int v1])), (a2, .inr (2, [.ref a9, .int v2]))]
/-! NeedleHouse$Track.times()I -/
theorem i_X6_times_X6 : ∀ w ∈ wsX60, w ∈ wsX6_times := by decide +kernel
set_option maxHeartbeats 4000000 in
set_option maxRecDepth 100000 in
theorem met_X6_times (l : Launch) (D : va_G) (ct : Nat → ClassId) (q_t : Nat) (q_t_row0 : Nat) (q_t_row1 : Nat) (q_t_measures : Nat) (q_t_pieces : Nat) (q_t_joins : Nat) (q_t_finals : Nat) (q_t_kept : Nat) (q_t_row0_readings : Nat) (q_t_row1_readings : Nat) (sz : Nat) (t_settledNear : Int32) (t_row0_size : Int32) (t_row1_size : Int32) (n : Nat) (o_r : Int32) (hF : FX6_times n t_row0_size t_row1_size = some (o_r)) : Met l yX6_times wsX6_times ({ frames := 1, cells := 0, slots := 0, locals := 20 } : Room) (va_Pc [.ref q_t] (pre_ D ct sz (W_18 ct q_t q_t_row0 q_t_row1 q_t_measures q_t_pieces q_t_joins q_t_finals q_t_kept q_t_row0_readings q_t_row1_readings t_settledNear t_row0_size t_row1_size))) (va_Qi (fun r (_ : Unit) => r = o_r) (fun _ t => va_P D vwCl (W_18 ct q_t q_t_row0 q_t_row1 q_t_measures q_t_pieces q_t_joins q_t_finals q_t_kept q_t_row0_readings q_t_row1_readings t_settledNear t_row0_size t_row1_size) t.heap) (va_A (W_18 ct q_t q_t_row0 q_t_row1 q_t_measures q_t_pieces q_t_joins q_t_finals q_t_kept q_t_row0_readings q_t_row1_readings t_settledNear t_row0_size t_row1_size) sz)) 0 0 (va_A (W_18 ct q_t q_t_row0 q_t_row1 q_t_measures q_t_pieces q_t_joins q_t_finals q_t_kept q_t_row0_readings q_t_row1_readings t_settledNear t_row0_size t_row1_size) sz) := by
  refine Met.ofW (cc := cX6_times) (maxL := 1) (ret := (some .int)) (by decide) rfl ?_
  intro p e s m args below meth c s₁ B hml hv
  obtain ⟨rfl, hsz, hP, hE, hD0⟩ := hv
  have hx := B.exec
  have hb := B.bytes
  have hr := B.returns
  have hts := atoms_spec (ws := wsX6_times) B.pre
  have hown : s.vm.findClass RX6 = some m.cls := findClass_of_methodNamed B.named
  have hlocks := B.notSynchronized
  subst hsz
  have hD := hD0.self (sz := s.heap.size)
  generalize hAe : va_A (W_18 ct q_t q_t_row0 q_t_row1 q_t_measures q_t_pieces q_t_joins q_t_finals q_t_kept q_t_row0_readings q_t_row1_readings t_settledNear t_row0_size t_row1_size) s.heap.size = A at hD ⊢
  have hA : ∀ q : Nat, s.heap.size ≤ q → A q := fun q h => by rw [← hAe]; exact Or.inr h
  have hl := lv_entry ([.ref q_t]) (n := 1) (Nat.le_of_ble_eq_true rfl)
  rw [lg_entry_eq]
  generalize (lg_sl ([.ref q_t]) ++ List.replicate (1 - (lg_sl ([.ref q_t])).length) Slot.unset).toArray = ls at hl ⊢
  have hl : lv_has ls 1 [(0, .ref q_t)] := hl
  have C0 : Cx RX6 cX6_times 1 (some .int) wsX6_times D ct A p s m ([.ref q_t]).toArray meth c := ⟨hx, hb, hml, hown, hts, hr, hlocks, hE, hA⟩
  have hS : ∀ H : Heap, s.heap = H → va_S A s.heap H [] := fun H h => h ▸ va_S.rf
  generalize hH : s.heap = H at hP ⊢
  have hS := hS H hH
  unfold FX6_times at hF
  refine lv_aload_n hx hb dX6_times_0 rfl (lv_at hl 0 rfl) ?_
  refine va_get (D := D) (ci := 6) (v := .ref q_t_row0) (C := RX6) (T := TX6) (N := 8) hx hb hts i_X6_times_X6 hown hE.1 hP 0 rfl rfl 0 (by decide) (hts (.fieldLink RX6 12 "NeedleHouse$Track" "row0" "LNeedleHouse$Row;") (by decide +kernel)) (fun _ h9 => h9) rfl dX6_times_1 ?_
  obtain ⟨r1, h2, hF⟩ := ob1_ex hF
  refine xiR (va_runV (As := []) (rest := []) ⟨hx, hb, hml, hown, hts⟩ (met_X2_size l D ct q_t_row0 q_t_row0_readings H.size t_row0_size n r1 h2) (cwV 0 hts gX6_times_X2_size rfl rfl rfl (by decide +kernel) ⟨Nat.le_of_ble_eq_true rfl, Nat.le_of_ble_eq_true rfl⟩) ⟨blind_, va_recv hE.1 hP (ci := 2) (q0 := 1) rfl rfl, mkpre_ hE (hP.sub [1] rfl) (hD.sub [1] (by decide) rfl)⟩ rfl rfl hl.1 rfl (lv_room (Nat.le_of_ble_eq_true rfl)) dX6_times_4 ⟨Nat.le_of_ble_eq_true rfl, Nat.le_of_ble_eq_true rfl⟩) hP hD hS hA [1] rfl (fun H locs hP hD hS => ?_)
  refine lv_aload_n hx hb dX6_times_7 rfl (lv_at hl 0 rfl) ?_
  refine va_get (D := D) (ci := 6) (v := .ref q_t_row1) (C := RX6) (T := TX6) (N := 8) hx hb hts i_X6_times_X6 hown hE.1 hP 0 rfl rfl 1 (by decide) (hts (.fieldLink RX6 18 "NeedleHouse$Track" "row1" "LNeedleHouse$Row;") (by decide +kernel)) (fun _ h9 => h9) rfl dX6_times_8 ?_
  obtain ⟨r3, h4, hF⟩ := ob1_ex hF
  refine xiR (va_runV (As := []) (rest := [.int r1]) ⟨hx, hb, hml, hown, hts⟩ (met_X2_size l D ct q_t_row1 q_t_row1_readings H.size t_row1_size n r3 h4) (cwV 0 hts gX6_times_X2_size rfl rfl rfl (by decide +kernel) ⟨Nat.le_of_ble_eq_true rfl, Nat.le_of_ble_eq_true rfl⟩) ⟨blind_, va_recv hE.1 hP (ci := 2) (q0 := 2) rfl rfl, mkpre_ hE (hP.sub [2] rfl) (hD.sub [2] (by decide) rfl)⟩ rfl rfl hl.1 rfl (lv_room (Nat.le_of_ble_eq_true rfl)) dX6_times_11 ⟨Nat.le_of_ble_eq_true rfl, Nat.le_of_ble_eq_true rfl⟩) hP hD hS hA [2] rfl (fun H locs hP hD hS => ?_)
  refine va_mmax hx hb (hml.trans hl.1.symm) hown (hts (.methodLink RX6 60 Lib.Math.max.name) (by decide +kernel)) (hts (.static Lib.Math.max.name) (by decide +kernel)) (hts (.initialized "java/lang/Math") (by decide +kernel)) (hts (.code Lib.Math.max.name Lib.Math.max.code 2 (some .int)) (by decide +kernel)) (Nat.le_of_ble_eq_true rfl) (Nat.le_of_ble_eq_true rfl) (Nat.zero_le _) (Nat.zero_le _) dX6_times_14 ?_
  obtain rfl := Option.some.inj hF
  exact W.iret hx hb hr (fun t ht hW => ⟨⟨_, (), rfl, rfl, vaP_at ht hP⟩, hS.F ht⟩) hS.2.2 dX6_times_17
/-! NeedleHouse$Track.unsettle()V -/
theorem i_X6_unsettle_X6 : ∀ w ∈ wsX60, w ∈ wsX6_unsettle := by decide +kernel
set_option maxHeartbeats 4000000 in
set_option maxRecDepth 100000 in
theorem met_X6_unsettle (l : Launch) (D : va_G) (ct : Nat → ClassId) (q_t : Nat) (q_t_row0 : Nat) (q_t_row1 : Nat) (q_t_measures : Nat) (q_t_pieces : Nat) (q_t_joins : Nat) (q_t_finals : Nat) (q_t_kept : Nat) (sz : Nat) (t_settledNear : Int32) (n : Nat) (o_t_settledNear : Int32) (hF : FX6_unsettle n t_settledNear = some (o_t_settledNear)) : Met l yX6_unsettle wsX6_unsettle ({ frames := 0, cells := 0, slots := 0, locals := 0 } : Room) (va_Pc [.ref q_t] (pre_ D ct sz (W_17 ct q_t q_t_row0 q_t_row1 q_t_measures q_t_pieces q_t_joins q_t_finals q_t_kept t_settledNear))) (va_Qv (fun (_ : Unit) => True) (fun _ t => va_P D vwCl (W_17 ct q_t q_t_row0 q_t_row1 q_t_measures q_t_pieces q_t_joins q_t_finals q_t_kept o_t_settledNear) t.heap) (va_A (W_17 ct q_t q_t_row0 q_t_row1 q_t_measures q_t_pieces q_t_joins q_t_finals q_t_kept t_settledNear) sz)) 0 0 (va_A (W_17 ct q_t q_t_row0 q_t_row1 q_t_measures q_t_pieces q_t_joins q_t_finals q_t_kept t_settledNear) sz) := by
  refine Met.ofW (cc := cX6_unsettle) (maxL := 1) (ret := none) (by decide) rfl ?_
  intro p e s m args below meth c s₁ B hml hv
  obtain ⟨rfl, hsz, hP, hE, hD0⟩ := hv
  have hx := B.exec
  have hb := B.bytes
  have hr := B.returns
  have hts := atoms_spec (ws := wsX6_unsettle) B.pre
  have hown : s.vm.findClass RX6 = some m.cls := findClass_of_methodNamed B.named
  have hlocks := B.notSynchronized
  subst hsz
  have hD := hD0.self (sz := s.heap.size)
  generalize hAe : va_A (W_17 ct q_t q_t_row0 q_t_row1 q_t_measures q_t_pieces q_t_joins q_t_finals q_t_kept t_settledNear) s.heap.size = A at hD ⊢
  have hA : ∀ q : Nat, s.heap.size ≤ q → A q := fun q h => by rw [← hAe]; exact Or.inr h
  have hl := lv_entry ([.ref q_t]) (n := 1) (Nat.le_of_ble_eq_true rfl)
  rw [lg_entry_eq]
  generalize (lg_sl ([.ref q_t]) ++ List.replicate (1 - (lg_sl ([.ref q_t])).length) Slot.unset).toArray = ls at hl ⊢
  have hl : lv_has ls 1 [(0, .ref q_t)] := hl
  have C0 : Cx RX6 cX6_unsettle 1 none wsX6_unsettle D ct A p s m ([.ref q_t]).toArray meth c := ⟨hx, hb, hml, hown, hts, hr, hlocks, hE, hA⟩
  have hS : ∀ H : Heap, s.heap = H → va_S A s.heap H [] := fun H h => h ▸ va_S.rf
  generalize hH : s.heap = H at hP ⊢
  have hS := hS H hH
  unfold FX6_unsettle at hF
  refine lv_aload_n hx hb dX6_unsettle_0 rfl (lv_at hl 0 rfl) ?_
  refine lv_iconst (v := (-1)) hx hb dX6_unsettle_1 (by decide) ?_
  refine va_put (D := D) (ci := 6) (v := .int ((-1))) (ty := .int) (C := RX6) (T := TX6) (N := 8) hx hb hts i_X6_unsettle_X6 tyX6 tyX6_ok nmX6 hown hE.1 hP hD hS 0 rfl rfl 7 (by decide) (hts (.fieldLink RX6 52 "NeedleHouse$Track" "settledNear" "I") (by decide +kernel)) (fun _ h9 => h9) rfl (by decide +kernel) rfl rfl (Nat.le_of_ble_eq_true rfl) dX6_unsettle_2 (fun H locs hP hD hS => ?_)
  have hP : va_P D vwCl (W_17 ct q_t q_t_row0 q_t_row1 q_t_measures q_t_pieces q_t_joins q_t_finals q_t_kept ((-1))) H := hP
  have hD : va_D A (W_17 ct q_t q_t_row0 q_t_row1 q_t_measures q_t_pieces q_t_joins q_t_finals q_t_kept ((-1))) := hD
  obtain rfl := Option.some.inj hF
  exact W.vret hx hb hr (fun t ht hW => ⟨⟨(), rfl, trivial, vaP_at ht hP⟩, hS.F ht⟩) hS.2.2 dX6_unsettle_5
/-! NeedleHouse$Track.join(IIII)I -/
set_option maxHeartbeats 4000000 in
set_option maxRecDepth 100000 in
theorem met_X6_join (l : Launch) (D : va_G) (ct : Nat → ClassId) (sz : Nat) (p1 : Int32) (p2 : Int32) (p3 : Int32) (p4 : Int32) (n : Nat) (o_r : Int32) (hF : FX6_join n p1 p2 p3 p4 = some (o_r)) : Met l yX6_join wsX6_join ({ frames := 1, cells := 0, slots := 0, locals := 22 } : Room) (va_Pc [.int p1, .int p2, .int p3, .int p4] (pre_ D ct sz [])) (va_Qi (fun r (_ : Unit) => r = o_r) (fun _ t => va_P D vwCl [] t.heap) (va_A [] sz)) 0 0 (va_A [] sz) := by
  refine Met.ofW (cc := cX6_join) (maxL := 4) (ret := (some .int)) (by decide) rfl ?_
  intro p e s m args below meth c s₁ B hml hv
  obtain ⟨rfl, hsz, hP, hE, hD0⟩ := hv
  have hx := B.exec
  have hb := B.bytes
  have hr := B.returns
  have hts := atoms_spec (ws := wsX6_join) B.pre
  have hown : s.vm.findClass RX6 = some m.cls := findClass_of_methodNamed B.named
  have hlocks := B.notSynchronized
  subst hsz
  have hD := hD0.self (sz := s.heap.size)
  generalize hAe : va_A [] s.heap.size = A at hD ⊢
  have hA : ∀ q : Nat, s.heap.size ≤ q → A q := fun q h => by rw [← hAe]; exact Or.inr h
  have hl := lv_entry ([.int p1, .int p2, .int p3, .int p4]) (n := 4) (Nat.le_of_ble_eq_true rfl)
  rw [lg_entry_eq]
  generalize (lg_sl ([.int p1, .int p2, .int p3, .int p4]) ++ List.replicate (4 - (lg_sl ([.int p1, .int p2, .int p3, .int p4])).length) Slot.unset).toArray = ls at hl ⊢
  have hl : lv_has ls 4 [(0, .int p1), (1, .int p2), (2, .int p3), (3, .int p4)] := hl
  have C0 : Cx RX6 cX6_join 4 (some .int) wsX6_join D ct A p s m ([.int p1, .int p2, .int p3, .int p4]).toArray meth c := ⟨hx, hb, hml, hown, hts, hr, hlocks, hE, hA⟩
  have hS : ∀ H : Heap, s.heap = H → va_S A s.heap H [] := fun H h => h ▸ va_S.rf
  generalize hH : s.heap = H at hP ⊢
  have hS := hS H hH
  unfold FX6_join at hF
  refine lv_iload_n hx hb dX6_join_0 rfl (lv_at hl 0 rfl) ?_
  refine lv_ldc hx hb hown (hts (.constant RX6 45 (-2000000000)) (by decide +kernel)) dX6_join_1 ?_
  refine lv_icmp_ne (tgt := 8) hx hb dX6_join_3 (by decide) (fun c1 => ?_) (fun c1 => ?_)
  · have hF := ifF c1 hF
    refine lv_iload_n hx hb dX6_join_8 rfl (lv_at hl 1 rfl) ?_
    refine lv_ldc hx hb hown (hts (.constant RX6 45 (-2000000000)) (by decide +kernel)) dX6_join_9 ?_
    refine lv_icmp_ne (tgt := 16) hx hb dX6_join_11 (by decide) (fun c2 => ?_) (fun c2 => ?_)
    · have hF := ifF c2 hF
      refine lv_iload_n hx hb dX6_join_16 rfl (lv_at hl 0 rfl) ?_
      refine lv_iload_n hx hb dX6_join_17 rfl (lv_at hl 1 rfl) ?_
      refine lv_isub hx hb dX6_join_18 ?_
      refine va_mabs hx hb (hml.trans hl.1.symm) hown (hts (.methodLink RX6 92 Lib.Math.abs.name) (by decide +kernel)) (hts (.static Lib.Math.abs.name) (by decide +kernel)) (hts (.initialized "java/lang/Math") (by decide +kernel)) (hts (.code Lib.Math.abs.name Lib.Math.abs.code 1 (some .int)) (by decide +kernel)) (Nat.le_of_ble_eq_true rfl) (Nat.le_of_ble_eq_true rfl) (Nat.zero_le _) (Nat.zero_le _) dX6_join_19 ?_
      refine lv_iload_n hx hb dX6_join_22 rfl (lv_at hl 3 rfl) ?_
      refine lv_icmp_gt (tgt := 34) hx hb dX6_join_23 (by decide) (fun c3 => ?_) (fun c3 => ?_)
      · have hF := ifT c3 hF
        refine lv_iload_n hx hb dX6_join_34 rfl (lv_at hl 2 rfl) ?_
        refine lv_ldc hx hb hown (hts (.constant RX6 45 (-2000000000)) (by decide +kernel)) dX6_join_35 ?_
        refine lv_icmp_eq (tgt := 57) hx hb dX6_join_37 (by decide) (fun c4 => ?_) (fun c4 => ?_)
        · have hF := ifT c4 hF
          refine lv_iload_n hx hb dX6_join_57 rfl (lv_at hl 0 rfl) ?_
          obtain rfl := Option.some.inj hF
          exact W.iret hx hb hr (fun t ht hW => ⟨⟨_, (), rfl, rfl, vaP_at ht hP⟩, hS.F ht⟩) hS.2.2 dX6_join_58
        · have hF := ifF c4 hF
          refine lv_iload_n hx hb dX6_join_40 rfl (lv_at hl 1 rfl) ?_
          refine lv_iload_n hx hb dX6_join_41 rfl (lv_at hl 2 rfl) ?_
          refine lv_isub hx hb dX6_join_42 ?_
          refine va_mabs hx hb (hml.trans hl.1.symm) hown (hts (.methodLink RX6 92 Lib.Math.abs.name) (by decide +kernel)) (hts (.static Lib.Math.abs.name) (by decide +kernel)) (hts (.initialized "java/lang/Math") (by decide +kernel)) (hts (.code Lib.Math.abs.name Lib.Math.abs.code 1 (some .int)) (by decide +kernel)) (Nat.le_of_ble_eq_true rfl) (Nat.le_of_ble_eq_true rfl) (Nat.zero_le _) (Nat.zero_le _) dX6_join_43 ?_
          refine lv_iload_n hx hb dX6_join_46 rfl (lv_at hl 0 rfl) ?_
          refine lv_iload_n hx hb dX6_join_47 rfl (lv_at hl 2 rfl) ?_
          refine lv_isub hx hb dX6_join_48 ?_
          refine va_mabs hx hb (hml.trans hl.1.symm) hown (hts (.methodLink RX6 92 Lib.Math.abs.name) (by decide +kernel)) (hts (.static Lib.Math.abs.name) (by decide +kernel)) (hts (.initialized "java/lang/Math") (by decide +kernel)) (hts (.code Lib.Math.abs.name Lib.Math.abs.code 1 (some .int)) (by decide +kernel)) (Nat.le_of_ble_eq_true rfl) (Nat.le_of_ble_eq_true rfl) (Nat.zero_le _) (Nat.zero_le _) dX6_join_49 ?_
          refine lv_icmp_ge (tgt := 57) hx hb dX6_join_52 (by decide) (fun c5 => ?_) (fun c5 => ?_)
          · have hF := ifT c5 hF
            refine lv_iload_n hx hb dX6_join_57 rfl (lv_at hl 0 rfl) ?_
            obtain rfl := Option.some.inj hF
            exact W.iret hx hb hr (fun t ht hW => ⟨⟨_, (), rfl, rfl, vaP_at ht hP⟩, hS.F ht⟩) hS.2.2 dX6_join_58
          · have hF := ifF c5 hF
            refine lv_iload_n hx hb dX6_join_55 rfl (lv_at hl 1 rfl) ?_
            obtain rfl := Option.some.inj hF
            exact W.iret hx hb hr (fun t ht hW => ⟨⟨_, (), rfl, rfl, vaP_at ht hP⟩, hS.F ht⟩) hS.2.2 dX6_join_56
      · have hF := ifF c3 hF
        refine lv_iload_n hx hb dX6_join_26 rfl (lv_at hl 0 rfl) ?_
        refine lv_iload_n hx hb dX6_join_27 rfl (lv_at hl 1 rfl) ?_
        refine lv_iadd hx hb dX6_join_28 ?_
        refine lv_iconst (v := 2) hx hb dX6_join_29 (by decide) ?_
        obtain ⟨r6, h7, hF⟩ := ob1_ex hF
        refine xiR (va_runS (As := [.int (p1 + p2), .int 2]) (rest := []) ⟨hx, hb, hml, hown, hts⟩ (met_J9_floorDiv_7cf53 l D ct H.size (p1 + p2) 2 n r6 h7) (va_cwS 2 hts gX6_join_J9_floorDiv_7cf53 rfl rfl rfl (by decide +kernel) ⟨Nat.le_of_ble_eq_true rfl, Nat.le_of_ble_eq_true rfl⟩) ⟨blind_, mkpre_ hE (hP.sub [] rfl) (hD.sub [] (by decide) rfl)⟩ rfl rfl hl.1 rfl (lv_room (Nat.le_of_ble_eq_true rfl)) dX6_join_30 ⟨Nat.le_of_ble_eq_true rfl, Nat.le_of_ble_eq_true rfl⟩) hP hD hS hA [] rfl (fun H locs hP hD hS => ?_)
        obtain rfl := Option.some.inj hF
        exact W.iret hx hb hr (fun t ht hW => ⟨⟨_, (), rfl, rfl, vaP_at ht hP⟩, hS.F ht⟩) hS.2.2 dX6_join_33
    · have hF := ifT c2 hF
      refine lv_iload_n hx hb dX6_join_14 rfl (lv_at hl 0 rfl) ?_
      obtain rfl := Option.some.inj hF
      exact W.iret hx hb hr (fun t ht hW => ⟨⟨_, (), rfl, rfl, vaP_at ht hP⟩, hS.F ht⟩) hS.2.2 dX6_join_15
  · have hF := ifT c1 hF
    refine lv_iload_n hx hb dX6_join_6 rfl (lv_at hl 1 rfl) ?_
    obtain rfl := Option.some.inj hF
    exact W.iret hx hb hr (fun t ht hW => ⟨⟨_, (), rfl, rfl, vaP_at ht hP⟩, hS.F ht⟩) hS.2.2 dX6_join_7
def W_19 (ct : Nat → ClassId) (a0 a1 a2 a3 a4 a5 a6 a7 : Nat) (v0 : Int32) (v1 : Nat → Int32) : va_W := [(a0, .inr (6, [.ref a1, .ref a2, .ref a3, .ref a4, .ref a5, .ref a6, .ref a7, .int v0])), (a5, .inl (ct 0, 300, .inl v1))]
/-! NeedleHouse$Track.joinedAt(I)I -/
theorem i_X6_joinedAt_X6 : ∀ w ∈ wsX60, w ∈ wsX6_joinedAt := by decide +kernel
set_option maxHeartbeats 4000000 in
set_option maxRecDepth 100000 in
theorem met_X6_joinedAt (l : Launch) (D : va_G) (ct : Nat → ClassId) (q_t : Nat) (q_t_row0 : Nat) (q_t_row1 : Nat) (q_t_measures : Nat) (q_t_pieces : Nat) (q_t_joins : Nat) (q_t_finals : Nat) (q_t_kept : Nat) (sz : Nat) (t_settledNear : Int32) (t_joins : Nat → Int32) (p1 : Int32) (n : Nat) (o_r : Int32) (hF : FX6_joinedAt n t_joins p1 = some (o_r)) : Met l yX6_joinedAt wsX6_joinedAt ({ frames := 0, cells := 0, slots := 0, locals := 0 } : Room) (va_Pc [.ref q_t, .int p1] (pre_ D ct sz (W_19 ct q_t q_t_row0 q_t_row1 q_t_measures q_t_pieces q_t_joins q_t_finals q_t_kept t_settledNear t_joins))) (va_Qi (fun r (_ : Unit) => r = o_r) (fun _ t => va_P D vwCl (W_19 ct q_t q_t_row0 q_t_row1 q_t_measures q_t_pieces q_t_joins q_t_finals q_t_kept t_settledNear t_joins) t.heap) (va_A (W_19 ct q_t q_t_row0 q_t_row1 q_t_measures q_t_pieces q_t_joins q_t_finals q_t_kept t_settledNear t_joins) sz)) 0 0 (va_A (W_19 ct q_t q_t_row0 q_t_row1 q_t_measures q_t_pieces q_t_joins q_t_finals q_t_kept t_settledNear t_joins) sz) := by
  refine Met.ofW (cc := cX6_joinedAt) (maxL := 2) (ret := (some .int)) (by decide) rfl ?_
  intro p e s m args below meth c s₁ B hml hv
  obtain ⟨rfl, hsz, hP, hE, hD0⟩ := hv
  have hx := B.exec
  have hb := B.bytes
  have hr := B.returns
  have hts := atoms_spec (ws := wsX6_joinedAt) B.pre
  have hown : s.vm.findClass RX6 = some m.cls := findClass_of_methodNamed B.named
  have hlocks := B.notSynchronized
  subst hsz
  have hD := hD0.self (sz := s.heap.size)
  generalize hAe : va_A (W_19 ct q_t q_t_row0 q_t_row1 q_t_measures q_t_pieces q_t_joins q_t_finals q_t_kept t_settledNear t_joins) s.heap.size = A at hD ⊢
  have hA : ∀ q : Nat, s.heap.size ≤ q → A q := fun q h => by rw [← hAe]; exact Or.inr h
  have hl := lv_entry ([.ref q_t, .int p1]) (n := 2) (Nat.le_of_ble_eq_true rfl)
  rw [lg_entry_eq]
  generalize (lg_sl ([.ref q_t, .int p1]) ++ List.replicate (2 - (lg_sl ([.ref q_t, .int p1])).length) Slot.unset).toArray = ls at hl ⊢
  have hl : lv_has ls 2 [(0, .ref q_t), (1, .int p1)] := hl
  have C0 : Cx RX6 cX6_joinedAt 2 (some .int) wsX6_joinedAt D ct A p s m ([.ref q_t, .int p1]).toArray meth c := ⟨hx, hb, hml, hown, hts, hr, hlocks, hE, hA⟩
  have hS : ∀ H : Heap, s.heap = H → va_S A s.heap H [] := fun H h => h ▸ va_S.rf
  generalize hH : s.heap = H at hP ⊢
  have hS := hS H hH
  unfold FX6_joinedAt at hF
  refine lv_iload_n hx hb dX6_joinedAt_0 rfl (lv_at hl 1 rfl) ?_
  refine lv_if_lt (tgt := 13) hx hb dX6_joinedAt_1 (by decide) (fun c1 => ?_) (fun c1 => ?_)
  · have hF := ifT c1 hF
    refine lv_ldc hx hb hown (hts (.constant RX6 45 (-2000000000)) (by decide +kernel)) dX6_joinedAt_13 ?_
    obtain rfl := Option.some.inj hF
    exact W.iret hx hb hr (fun t ht hW => ⟨⟨_, (), rfl, rfl, vaP_at ht hP⟩, hS.F ht⟩) hS.2.2 dX6_joinedAt_15
  · have hF := ifF c1 hF
    refine lv_iload_n hx hb dX6_joinedAt_4 rfl (lv_at hl 1 rfl) ?_
    refine lv_aload_n hx hb dX6_joinedAt_5 rfl (lv_at hl 0 rfl) ?_
    refine va_get (D := D) (ci := 6) (v := .ref q_t_joins) (C := RX6) (T := TX6) (N := 8) hx hb hts i_X6_joinedAt_X6 hown hE.1 hP 0 rfl rfl 4 (by decide) (hts (.fieldLink RX6 35 "NeedleHouse$Track" "joins" "[I") (by decide +kernel)) (fun _ h9 => h9) rfl dX6_joinedAt_6 ?_
    refine va_alen (v := 300) hx hb hE.1 hP 1 0 rfl rfl rfl dX6_joinedAt_9 ?_
    refine lv_icmp_lt (tgt := 16) hx hb dX6_joinedAt_10 (by decide) (fun c2 => ?_) (fun c2 => ?_)
    · have hF := ifT c2 hF
      refine lv_aload_n hx hb dX6_joinedAt_16 rfl (lv_at hl 0 rfl) ?_
      refine va_get (D := D) (ci := 6) (v := .ref q_t_joins) (C := RX6) (T := TX6) (N := 8) hx hb hts i_X6_joinedAt_X6 hown hE.1 hP 0 rfl rfl 4 (by decide) (hts (.fieldLink RX6 35 "NeedleHouse$Track" "joins" "[I") (by decide +kernel)) (fun _ h9 => h9) rfl dX6_joinedAt_17 ?_
      refine lv_iload_n hx hb dX6_joinedAt_20 rfl (lv_at hl 1 rfl) ?_
      obtain ⟨h3, hF⟩ := gd_ex hF
      refine va_iald hx hb hE.1 hP 1 0 rfl rfl h3 dX6_joinedAt_21 ?_
      obtain rfl := Option.some.inj hF
      exact W.iret hx hb hr (fun t ht hW => ⟨⟨_, (), rfl, rfl, vaP_at ht hP⟩, hS.F ht⟩) hS.2.2 dX6_joinedAt_22
    · have hF := ifF c2 hF
      refine lv_ldc hx hb hown (hts (.constant RX6 45 (-2000000000)) (by decide +kernel)) dX6_joinedAt_13 ?_
      obtain rfl := Option.some.inj hF
      exact W.iret hx hb hr (fun t ht hW => ⟨⟨_, (), rfl, rfl, vaP_at ht hP⟩, hS.F ht⟩) hS.2.2 dX6_joinedAt_15
def W_20 (ct : Nat → ClassId) (a0 a1 a2 a3 a4 a5 a6 a7 a8 a9 a10 a11 : Nat) (v0 : Int32) (v1 : Int32) (v2 : Nat → Int32) (v3 : Nat → Int32) (v4 : Nat → Int32) (v5 : Nat → Int32) (v6 : Nat → Int32) : va_W := [(a0, .inr (6, [.ref a1, .ref a2, .ref a3, .ref a4, .ref a5, .ref a6, .ref a7, .int v0])), (a3, .inr (0, [.ref a8, .ref a9, .ref a10, .ref a11, .int v1])), (a8, .inl (ct 0, 20, .inl v2)), (a9, .inl (ct 0, 20, .inl v3)), (a10, .inl (ct 0, 20, .inl v4)), (a11, .inl (ct 0, 20, .inl v5)), (a5, .inl (ct 0, 300, .inl v6))]
/-! NeedleHouse$Track.pointOf(I)I -/
theorem i_X6_pointOf_X6 : ∀ w ∈ wsX60, w ∈ wsX6_pointOf := by decide +kernel
set_option maxHeartbeats 4000000 in
set_option maxRecDepth 100000 in
theorem met_X6_pointOf (l : Launch) (D : va_G) (ct : Nat → ClassId) (q_t : Nat) (q_t_row0 : Nat) (q_t_row1 : Nat) (q_t_measures : Nat) (q_t_pieces : Nat) (q_t_joins : Nat) (q_t_finals : Nat) (q_t_kept : Nat) (q_t_measures_times : Nat) (q_t_measures_means : Nat) (q_t_measures_lefts : Nat) (q_t_measures_ends : Nat) (sz : Nat) (t_settledNear : Int32) (t_measures_size : Int32) (t_measures_times : Nat → Int32) (t_measures_means : Nat → Int32) (t_measures_lefts : Nat → Int32) (t_measures_ends : Nat → Int32) (t_joins : Nat → Int32) (p1 : Int32) (n : Nat) (o_r : Int32) (hF : FX6_pointOf n t_measures_size t_measures_times t_measures_means t_measures_lefts t_measures_ends t_joins p1 = some (o_r)) : Met l yX6_pointOf wsX6_pointOf ({ frames := 1, cells := 0, slots := 0, locals := 22 } : Room) (va_Pc [.ref q_t, .int p1] (pre_ D ct sz (W_20 ct q_t q_t_row0 q_t_row1 q_t_measures q_t_pieces q_t_joins q_t_finals q_t_kept q_t_measures_times q_t_measures_means q_t_measures_lefts q_t_measures_ends t_settledNear t_measures_size t_measures_times t_measures_means t_measures_lefts t_measures_ends t_joins))) (va_Qi (fun r (_ : Unit) => r = o_r) (fun _ t => va_P D vwCl (W_20 ct q_t q_t_row0 q_t_row1 q_t_measures q_t_pieces q_t_joins q_t_finals q_t_kept q_t_measures_times q_t_measures_means q_t_measures_lefts q_t_measures_ends t_settledNear t_measures_size t_measures_times t_measures_means t_measures_lefts t_measures_ends t_joins) t.heap) (va_A (W_20 ct q_t q_t_row0 q_t_row1 q_t_measures q_t_pieces q_t_joins q_t_finals q_t_kept q_t_measures_times q_t_measures_means q_t_measures_lefts q_t_measures_ends t_settledNear t_measures_size t_measures_times t_measures_means t_measures_lefts t_measures_ends t_joins) sz)) 0 0 (va_A (W_20 ct q_t q_t_row0 q_t_row1 q_t_measures q_t_pieces q_t_joins q_t_finals q_t_kept q_t_measures_times q_t_measures_means q_t_measures_lefts q_t_measures_ends t_settledNear t_measures_size t_measures_times t_measures_means t_measures_lefts t_measures_ends t_joins) sz) := by
  refine Met.ofW (cc := cX6_pointOf) (maxL := 3) (ret := (some .int)) (by decide) rfl ?_
  intro p e s m args below meth c s₁ B hml hv
  obtain ⟨rfl, hsz, hP, hE, hD0⟩ := hv
  have hx := B.exec
  have hb := B.bytes
  have hr := B.returns
  have hts := atoms_spec (ws := wsX6_pointOf) B.pre
  have hown : s.vm.findClass RX6 = some m.cls := findClass_of_methodNamed B.named
  have hlocks := B.notSynchronized
  subst hsz
  have hD := hD0.self (sz := s.heap.size)
  generalize hAe : va_A (W_20 ct q_t q_t_row0 q_t_row1 q_t_measures q_t_pieces q_t_joins q_t_finals q_t_kept q_t_measures_times q_t_measures_means q_t_measures_lefts q_t_measures_ends t_settledNear t_measures_size t_measures_times t_measures_means t_measures_lefts t_measures_ends t_joins) s.heap.size = A at hD ⊢
  have hA : ∀ q : Nat, s.heap.size ≤ q → A q := fun q h => by rw [← hAe]; exact Or.inr h
  have hl := lv_entry ([.ref q_t, .int p1]) (n := 3) (Nat.le_of_ble_eq_true rfl)
  rw [lg_entry_eq]
  generalize (lg_sl ([.ref q_t, .int p1]) ++ List.replicate (3 - (lg_sl ([.ref q_t, .int p1])).length) Slot.unset).toArray = ls at hl ⊢
  have hl : lv_has ls 3 [(0, .ref q_t), (1, .int p1)] := hl
  have C0 : Cx RX6 cX6_pointOf 3 (some .int) wsX6_pointOf D ct A p s m ([.ref q_t, .int p1]).toArray meth c := ⟨hx, hb, hml, hown, hts, hr, hlocks, hE, hA⟩
  have hS : ∀ H : Heap, s.heap = H → va_S A s.heap H [] := fun H h => h ▸ va_S.rf
  generalize hH : s.heap = H at hP ⊢
  have hS := hS H hH
  unfold FX6_pointOf at hF
  refine lv_aload_n hx hb dX6_pointOf_0 rfl (lv_at hl 0 rfl) ?_
  refine lv_aload_n hx hb dX6_pointOf_1 rfl (lv_at hl 0 rfl) ?_
  refine va_get (D := D) (ci := 6) (v := .ref q_t_measures) (C := RX6) (T := TX6) (N := 8) hx hb hts i_X6_pointOf_X6 hown hE.1 hP 0 rfl rfl 2 (by decide) (hts (.fieldLink RX6 24 "NeedleHouse$Track" "measures" "LNeedleHouse$Measures;") (by decide +kernel)) (fun _ h9 => h9) rfl dX6_pointOf_2 ?_
  refine lv_iload_n hx hb dX6_pointOf_5 rfl (lv_at hl 1 rfl) ?_
  refine lv_iconst (v := 0) hx hb dX6_pointOf_6 (by decide) ?_
  obtain ⟨r1, h2, hF⟩ := ob1_ex hF
  refine xiR (va_runV (As := [.int p1, .int 0]) (rest := [.ref q_t]) ⟨hx, hb, hml, hown, hts⟩ (met_X0_tell l D ct q_t_measures q_t_measures_times q_t_measures_means q_t_measures_lefts q_t_measures_ends H.size t_measures_size t_measures_times t_measures_means t_measures_lefts t_measures_ends p1 0 n r1 h2) (cwV 2 hts gX6_pointOf_X0_tell rfl rfl rfl (by decide +kernel) ⟨Nat.le_of_ble_eq_true rfl, Nat.le_of_ble_eq_true rfl⟩) ⟨blind_, va_recv hE.1 hP (ci := 0) (q0 := 1) rfl rfl, mkpre_ hE (hP.sub [1, 2, 3, 4, 5] rfl) (hD.sub [1, 2, 3, 4, 5] (by decide) rfl)⟩ rfl rfl hl.1 rfl (lv_room (Nat.le_of_ble_eq_true rfl)) dX6_pointOf_7 ⟨Nat.le_of_ble_eq_true rfl, Nat.le_of_ble_eq_true rfl⟩) hP hD hS hA [1, 2, 3, 4, 5] rfl (fun H locs hP hD hS => ?_)
  obtain ⟨r3, h4, hF⟩ := ob1_ex hF
  refine xiR (va_runV (As := [.int r1]) (rest := []) ⟨hx, hb, hml, hown, hts⟩ (met_X6_joinedAt l D ct q_t q_t_row0 q_t_row1 q_t_measures q_t_pieces q_t_joins q_t_finals q_t_kept H.size t_settledNear t_joins r1 n r3 h4) (cwV 1 hts gX6_pointOf_X6_joinedAt rfl rfl rfl (by decide +kernel) ⟨Nat.le_of_ble_eq_true rfl, Nat.le_of_ble_eq_true rfl⟩) ⟨blind_, va_recv hE.1 hP (ci := 6) (q0 := 0) rfl rfl, mkpre_ hE (hP.sub [0, 6] rfl) (hD.sub [0, 6] (by decide) rfl)⟩ rfl rfl hl.1 rfl (lv_room (Nat.le_of_ble_eq_true rfl)) dX6_pointOf_10 ⟨Nat.le_of_ble_eq_true rfl, Nat.le_of_ble_eq_true rfl⟩) hP hD hS hA [0, 6] rfl (fun H locs hP hD hS => ?_)
  refine lv_istore_n (lv' := [(2, .int r3), (0, .ref q_t), (1, .int p1)]) hx hb dX6_pointOf_13 rfl hl (by decide) rfl (fun ls hl => ?_)
  refine lv_iload_n hx hb dX6_pointOf_14 rfl (lv_at hl 0 rfl) ?_
  refine lv_ldc hx hb hown (hts (.constant RX6 45 (-2000000000)) (by decide +kernel)) dX6_pointOf_15 ?_
  refine lv_icmp_ne (tgt := 25) hx hb dX6_pointOf_17 (by decide) (fun c5 => ?_) (fun c5 => ?_)
  · have hF := ifF c5 hF
    refine lv_aload_n hx hb dX6_pointOf_25 rfl (lv_at hl 1 rfl) ?_
    refine va_get (D := D) (ci := 6) (v := .ref q_t_measures) (C := RX6) (T := TX6) (N := 8) hx hb hts i_X6_pointOf_X6 hown hE.1 hP 0 rfl rfl 2 (by decide) (hts (.fieldLink RX6 24 "NeedleHouse$Track" "measures" "LNeedleHouse$Measures;") (by decide +kernel)) (fun _ h9 => h9) rfl dX6_pointOf_26 ?_
    refine lv_iload_n hx hb dX6_pointOf_29 rfl (lv_at hl 2 rfl) ?_
    refine lv_iconst (v := 1) hx hb dX6_pointOf_30 (by decide) ?_
    obtain ⟨r6, h7, hF⟩ := ob1_ex hF
    refine xiR (va_runV (As := [.int p1, .int 1]) (rest := []) ⟨hx, hb, hml, hown, hts⟩ (met_X0_tell l D ct q_t_measures q_t_measures_times q_t_measures_means q_t_measures_lefts q_t_measures_ends H.size t_measures_size t_measures_times t_measures_means t_measures_lefts t_measures_ends p1 1 n r6 h7) (cwV 2 hts gX6_pointOf_X0_tell rfl rfl rfl (by decide +kernel) ⟨Nat.le_of_ble_eq_true rfl, Nat.le_of_ble_eq_true rfl⟩) ⟨blind_, va_recv hE.1 hP (ci := 0) (q0 := 1) rfl rfl, mkpre_ hE (hP.sub [1, 2, 3, 4, 5] rfl) (hD.sub [1, 2, 3, 4, 5] (by decide) rfl)⟩ rfl rfl hl.1 rfl (lv_room (Nat.le_of_ble_eq_true rfl)) dX6_pointOf_31 ⟨Nat.le_of_ble_eq_true rfl, Nat.le_of_ble_eq_true rfl⟩) hP hD hS hA [1, 2, 3, 4, 5] rfl (fun H locs hP hD hS => ?_)
    refine lv_iload_n hx hb dX6_pointOf_34 rfl (lv_at hl 0 rfl) ?_
    refine lv_isub hx hb dX6_pointOf_35 ?_
    obtain rfl := Option.some.inj hF
    exact W.iret hx hb hr (fun t ht hW => ⟨⟨_, (), rfl, rfl, vaP_at ht hP⟩, hS.F ht⟩) hS.2.2 dX6_pointOf_36
  · have hF := ifT c5 hF
    refine lv_ldc hx hb hown (hts (.constant RX6 45 (-2000000000)) (by decide +kernel)) dX6_pointOf_20 ?_
    refine lv_goto (tgt := 36) hx hb dX6_pointOf_22 (by decide) ?_
    obtain rfl := Option.some.inj hF
    exact W.iret hx hb hr (fun t ht hW => ⟨⟨_, (), rfl, rfl, vaP_at ht hP⟩, hS.F ht⟩) hS.2.2 dX6_pointOf_36
def W_21 (ct : Nat → ClassId) (a0 a1 a2 a3 a4 a5 a6 a7 a8 a9 a10 a11 a12 a13 a14 a15 a16 a17 a18 a19 : Nat) (v0 : Int32) (v1 : Int32) (v2 : Nat → Int32) (v3 : Nat → Int32) (v4 : Nat → Int32) (v5 : Nat → Int32) (v6 : Int32) (v7 : Int32) (v8 : Int64) (v9 : Int64) (v10 : Int64) (v11 : Int64) (v12 : Nat → Int32) (v13 : Nat → Int32) (v14 : Nat → Int32) (v15 : Nat → Int32) : va_W := [(a0, .inr (6, [.ref a1, .ref a2, .ref a3, .ref a4, .ref a5, .ref a6, .ref a7, .int v0])), (a3, .inr (0, [.ref a8, .ref a9, .ref a10, .ref a11, .int v1])), (a8, .inl (ct 0, 20, .inl v2)), (a9, .inl (ct 0, 20, .inl v3)), (a10, .inl (ct 0, 20, .inl v4)), (a11, .inl (ct 0, 20, .inl v5)), (a4, .inr (1, [.ref a12, .ref a13, .ref a14, .int v6, .ref a15, .ref a16, .ref a17, .ref a18, .ref a19, .int v7, .long v8, .long v9, .long v10, .long v11])), (a12, .inl (ct 0, 20, .inl v12)), (a13, .inl (ct 0, 20, .inl v13)), (a14, .inl (ct 0, 20, .inl v14)), (a5, .inl (ct 0, 300, .inl v15))]
/-! NeedleHouse$Track.takePoints()V -/
theorem i_X6_takePoints_X6 : ∀ w ∈ wsX60, w ∈ wsX6_takePoints := by decide +kernel
set_option maxHeartbeats 4000000 in
set_option maxRecDepth 100000 in
theorem jX6_takePoints_9 {p : Program} {l : Launch} {e : Env} {s : State} {m : MethodId} {args : Array Value} {below : List Frame} {meth : Method} {c : Code} {D : va_G} {ct : Nat → ClassId} {A : Nat → Prop} {q_t q_t_row0 q_t_row1 q_t_measures q_t_pieces q_t_joins q_t_finals q_t_kept q_t_measures_times q_t_measures_means q_t_measures_lefts q_t_measures_ends q_t_pieces_times q_t_pieces_lows q_t_pieces_highs q_t_pieces_firsts q_t_pieces_lengths q_t_pieces_uppers q_t_pieces_lowers q_t_pieces_middles : Nat} {t_settledNear : Int32} {t_measures_size : Int32} {t_measures_times : Nat → Int32} {t_measures_means : Nat → Int32} {t_measures_lefts : Nat → Int32} {t_measures_ends : Nat → Int32} {t_pieces_leastUpper : Int64} {t_pieces_leastLower : Int64} {t_pieces_mostUpper : Int64} {t_pieces_mostLower : Int64} {t_joins : Nat → Int32} {o_t_pieces_points : Int32} {o_t_pieces_size : Int32} {o_t_pieces_times : Nat → Int32} {o_t_pieces_lows : Nat → Int32} {o_t_pieces_highs : Nat → Int32} (C0 : Cx RX6 cX6_takePoints 3 none wsX6_takePoints D ct A p s m args meth c) (k9 : Int32 → (Nat → Int32) → (Nat → Int32) → (Nat → Int32) → (Nat → Int32) → Int32 → Int32 → (Nat → Int32) → (Nat → Int32) → (Nat → Int32) → (Nat → Int32) → Int32 → Option (Int32 × Int32 × (Nat → Int32) × (Nat → Int32) × (Nat → Int32))) (hk9 : ∀ (t_pieces_points : Int32) (t_pieces_size : Int32) (t_pieces_times : Nat → Int32) (t_pieces_lows : Nat → Int32) (t_pieces_highs : Nat → Int32) (x_1 : Int32) (H : Heap) (locs : List Loc) (ls : Array Slot), k9 t_measures_size t_measures_times t_measures_means t_measures_lefts t_measures_ends t_pieces_points t_pieces_size t_pieces_times t_pieces_lows t_pieces_highs t_joins x_1 = some (o_t_pieces_points, o_t_pieces_size, o_t_pieces_times, o_t_pieces_lows, o_t_pieces_highs) → va_P D vwCl (W_21 ct q_t q_t_row0 q_t_row1 q_t_measures q_t_pieces q_t_joins q_t_finals q_t_kept q_t_measures_times q_t_measures_means q_t_measures_lefts q_t_measures_ends q_t_pieces_times q_t_pieces_lows q_t_pieces_highs q_t_pieces_firsts q_t_pieces_lengths q_t_pieces_uppers q_t_pieces_lowers q_t_pieces_middles t_settledNear t_measures_size t_measures_times t_measures_means t_measures_lefts t_measures_ends t_pieces_points t_pieces_size t_pieces_leastUpper t_pieces_leastLower t_pieces_mostUpper t_pieces_mostLower t_pieces_times t_pieces_lows t_pieces_highs t_joins) H → va_D A (W_21 ct q_t q_t_row0 q_t_row1 q_t_measures q_t_pieces q_t_joins q_t_finals q_t_kept q_t_measures_times q_t_measures_means q_t_measures_lefts q_t_measures_ends q_t_pieces_times q_t_pieces_lows q_t_pieces_highs q_t_pieces_firsts q_t_pieces_lengths q_t_pieces_uppers q_t_pieces_lowers q_t_pieces_middles t_settledNear t_measures_size t_measures_times t_measures_means t_measures_lefts t_measures_ends t_pieces_points t_pieces_size t_pieces_leastUpper t_pieces_leastLower t_pieces_mostUpper t_pieces_mostLower t_pieces_times t_pieces_lows t_pieces_highs t_joins) → va_S A s.heap H locs → lv_has ls 3 [(0, .ref q_t), (1, .int x_1)] → W p l e ({ frames := 2, cells := 0, slots := 0, locals := 44 } : Room) s m args below meth c H locs 0 0 (MQ below (va_Qv (fun (_ : Unit) => True) (fun _ t => va_P D vwCl (W_21 ct q_t q_t_row0 q_t_row1 q_t_measures q_t_pieces q_t_joins q_t_finals q_t_kept q_t_measures_times q_t_measures_means q_t_measures_lefts q_t_measures_ends q_t_pieces_times q_t_pieces_lows q_t_pieces_highs q_t_pieces_firsts q_t_pieces_lengths q_t_pieces_uppers q_t_pieces_lowers q_t_pieces_middles t_settledNear t_measures_size t_measures_times t_measures_means t_measures_lefts t_measures_ends o_t_pieces_points o_t_pieces_size t_pieces_leastUpper t_pieces_leastLower t_pieces_mostUpper t_pieces_mostLower o_t_pieces_times o_t_pieces_lows o_t_pieces_highs t_joins) t.heap) A) args s 0 0 A) (F0 m 9 ls [])) (n : Nat) (t_pieces_points : Int32) (t_pieces_size : Int32) (t_pieces_times : Nat → Int32) (t_pieces_lows : Nat → Int32) (t_pieces_highs : Nat → Int32) (x_1 : Int32) (H : Heap) (locs : List Loc) (ls : Array Slot) : JX6_takePoints_9 k9 n t_measures_size t_measures_times t_measures_means t_measures_lefts t_measures_ends t_pieces_points t_pieces_size t_pieces_times t_pieces_lows t_pieces_highs t_joins x_1 = some (o_t_pieces_points, o_t_pieces_size, o_t_pieces_times, o_t_pieces_lows, o_t_pieces_highs) → va_P D vwCl (W_21 ct q_t q_t_row0 q_t_row1 q_t_measures q_t_pieces q_t_joins q_t_finals q_t_kept q_t_measures_times q_t_measures_means q_t_measures_lefts q_t_measures_ends q_t_pieces_times q_t_pieces_lows q_t_pieces_highs q_t_pieces_firsts q_t_pieces_lengths q_t_pieces_uppers q_t_pieces_lowers q_t_pieces_middles t_settledNear t_measures_size t_measures_times t_measures_means t_measures_lefts t_measures_ends t_pieces_points t_pieces_size t_pieces_leastUpper t_pieces_leastLower t_pieces_mostUpper t_pieces_mostLower t_pieces_times t_pieces_lows t_pieces_highs t_joins) H → va_D A (W_21 ct q_t q_t_row0 q_t_row1 q_t_measures q_t_pieces q_t_joins q_t_finals q_t_kept q_t_measures_times q_t_measures_means q_t_measures_lefts q_t_measures_ends q_t_pieces_times q_t_pieces_lows q_t_pieces_highs q_t_pieces_firsts q_t_pieces_lengths q_t_pieces_uppers q_t_pieces_lowers q_t_pieces_middles t_settledNear t_measures_size t_measures_times t_measures_means t_measures_lefts t_measures_ends t_pieces_points t_pieces_size t_pieces_leastUpper t_pieces_leastLower t_pieces_mostUpper t_pieces_mostLower t_pieces_times t_pieces_lows t_pieces_highs t_joins) → va_S A s.heap H locs → lv_has ls 3 [(0, .ref q_t), (1, .int x_1)] → W p l e ({ frames := 2, cells := 0, slots := 0, locals := 44 } : Room) s m args below meth c H locs 0 0 (MQ below (va_Qv (fun (_ : Unit) => True) (fun _ t => va_P D vwCl (W_21 ct q_t q_t_row0 q_t_row1 q_t_measures q_t_pieces q_t_joins q_t_finals q_t_kept q_t_measures_times q_t_measures_means q_t_measures_lefts q_t_measures_ends q_t_pieces_times q_t_pieces_lows q_t_pieces_highs q_t_pieces_firsts q_t_pieces_lengths q_t_pieces_uppers q_t_pieces_lowers q_t_pieces_middles t_settledNear t_measures_size t_measures_times t_measures_means t_measures_lefts t_measures_ends o_t_pieces_points o_t_pieces_size t_pieces_leastUpper t_pieces_leastLower t_pieces_mostUpper t_pieces_mostLower o_t_pieces_times o_t_pieces_lows o_t_pieces_highs t_joins) t.heap) A) args s 0 0 A) (F0 m 9 ls []) := by
  intro hF hP hD hS hl
  obtain ⟨hx, hb, hml, hown, hts, hr, hlocks, hE, hA⟩ := id C0
  unfold JX6_takePoints_9 at hF
  refine lv_iload_n hx hb dX6_takePoints_9 rfl (lv_at hl 1 rfl) ?_
  refine lv_aload_n hx hb dX6_takePoints_10 rfl (lv_at hl 0 rfl) ?_
  refine va_get (D := D) (ci := 6) (v := .ref q_t_measures) (C := RX6) (T := TX6) (N := 8) hx hb hts i_X6_takePoints_X6 hown hE.1 hP 0 rfl rfl 2 (by decide) (hts (.fieldLink RX6 24 "NeedleHouse$Track" "measures" "LNeedleHouse$Measures;") (by decide +kernel)) (fun _ h9 => h9) rfl dX6_takePoints_11 ?_
  obtain ⟨r4, h5, hF⟩ := ob1_ex hF
  refine xiR (va_runV (As := []) (rest := [.int x_1]) ⟨hx, hb, hml, hown, hts⟩ (met_X0_size l D ct q_t_measures q_t_measures_times q_t_measures_means q_t_measures_lefts q_t_measures_ends H.size t_measures_size n r4 h5) (cwV 0 hts gX6_takePoints_X0_size rfl rfl rfl (by decide +kernel) ⟨Nat.le_of_ble_eq_true rfl, Nat.le_of_ble_eq_true rfl⟩) ⟨blind_, va_recv hE.1 hP (ci := 0) (q0 := 1) rfl rfl, mkpre_ hE (hP.sub [1] rfl) (hD.sub [1] (by decide) rfl)⟩ rfl rfl hl.1 rfl (lv_room (Nat.le_of_ble_eq_true rfl)) dX6_takePoints_14 ⟨Nat.le_of_ble_eq_true rfl, Nat.le_of_ble_eq_true rfl⟩) hP hD hS hA [1] rfl (fun H locs hP hD hS => ?_)
  refine lv_icmp_ge (tgt := 64) hx hb dX6_takePoints_17 (by decide) (fun c6 => ?_) (fun c6 => ?_)
  · have hF := ifT c6 hF
    obtain ⟨rfl, rfl, rfl, rfl, rfl⟩ := in5 hF
    exact W.vret hx hb hr (fun t ht hW => ⟨⟨(), rfl, trivial, vaP_at ht hP⟩, hS.F ht⟩) hS.2.2 dX6_takePoints_64
  · have hF := ifF c6 hF
    refine lv_aload_n hx hb dX6_takePoints_20 rfl (lv_at hl 0 rfl) ?_
    refine lv_iload_n hx hb dX6_takePoints_21 rfl (lv_at hl 1 rfl) ?_
    obtain ⟨r7, h8, hF⟩ := ob1_ex hF
    refine xiR (va_runV (As := [.int x_1]) (rest := []) ⟨hx, hb, hml, hown, hts⟩ (met_X6_pointOf l D ct q_t q_t_row0 q_t_row1 q_t_measures q_t_pieces q_t_joins q_t_finals q_t_kept q_t_measures_times q_t_measures_means q_t_measures_lefts q_t_measures_ends H.size t_settledNear t_measures_size t_measures_times t_measures_means t_measures_lefts t_measures_ends t_joins x_1 n r7 h8) (cwV 1 hts gX6_takePoints_X6_pointOf rfl rfl rfl (by decide +kernel) ⟨Nat.le_of_ble_eq_true rfl, Nat.le_of_ble_eq_true rfl⟩) ⟨blind_, va_recv hE.1 hP (ci := 6) (q0 := 0) rfl rfl, mkpre_ hE (hP.sub [0, 1, 2, 3, 4, 5, 10] rfl) (hD.sub [0, 1, 2, 3, 4, 5, 10] (by decide) rfl)⟩ rfl rfl hl.1 rfl (lv_room (Nat.le_of_ble_eq_true rfl)) dX6_takePoints_22 ⟨Nat.le_of_ble_eq_true rfl, Nat.le_of_ble_eq_true rfl⟩) hP hD hS hA [0, 1, 2, 3, 4, 5, 10] rfl (fun H locs hP hD hS => ?_)
    refine lv_istore_n (lv' := [(2, .int r7), (0, .ref q_t), (1, .int x_1)]) hx hb dX6_takePoints_25 rfl hl (by decide) rfl (fun ls hl => ?_)
    refine lv_iload_n hx hb dX6_takePoints_26 rfl (lv_at hl 0 rfl) ?_
    refine lv_ldc hx hb hown (hts (.constant RX6 45 (-2000000000)) (by decide +kernel)) dX6_takePoints_27 ?_
    refine lv_icmp_eq (tgt := 58) hx hb dX6_takePoints_29 (by decide) (fun c9 => ?_) (fun c9 => ?_)
    · have hF := ifT c9 hF
      obtain ⟨x10, ex10⟩ : ∃ y : Int32, y = x_1 + 1 := ⟨_, rfl⟩
      refine lv_iinc (v := x10) (lv' := [(1, .int x10), (2, .int r7), (0, .ref q_t)]) hx hb dX6_takePoints_58 hl (k := 2) rfl (by rw [ex10]; rfl) (by decide) rfl (fun ls hl => ?_)
      have hF := bn_as ex10 hF
      refine lv_goto (tgt := 9) hx hb dX6_takePoints_61 (by decide) ?_
      exact hk9 t_pieces_points t_pieces_size t_pieces_times t_pieces_lows t_pieces_highs x10 _ _ _ hF hP hD hS (lv_sub hl [2, 0] rfl)
    · have hF := ifF c9 hF
      refine lv_aload_n hx hb dX6_takePoints_32 rfl (lv_at hl 1 rfl) ?_
      refine va_get (D := D) (ci := 6) (v := .ref q_t_pieces) (C := RX6) (T := TX6) (N := 8) hx hb hts i_X6_takePoints_X6 hown hE.1 hP 0 rfl rfl 3 (by decide) (hts (.fieldLink RX6 31 "NeedleHouse$Track" "pieces" "LNeedleHouse$Pieces;") (by decide +kernel)) (fun _ h9 => h9) rfl dX6_takePoints_33 ?_
      refine lv_aload_n hx hb dX6_takePoints_36 rfl (lv_at hl 1 rfl) ?_
      refine va_get (D := D) (ci := 6) (v := .ref q_t_measures) (C := RX6) (T := TX6) (N := 8) hx hb hts i_X6_takePoints_X6 hown hE.1 hP 0 rfl rfl 2 (by decide) (hts (.fieldLink RX6 24 "NeedleHouse$Track" "measures" "LNeedleHouse$Measures;") (by decide +kernel)) (fun _ h9 => h9) rfl dX6_takePoints_37 ?_
      refine lv_iload_n hx hb dX6_takePoints_40 rfl (lv_at hl 2 rfl) ?_
      refine lv_iconst (v := 0) hx hb dX6_takePoints_41 (by decide) ?_
      obtain ⟨r11, h12, hF⟩ := ob1_ex hF
      refine xiR (va_runV (As := [.int x_1, .int 0]) (rest := [.ref q_t_pieces]) ⟨hx, hb, hml, hown, hts⟩ (met_X0_tell l D ct q_t_measures q_t_measures_times q_t_measures_means q_t_measures_lefts q_t_measures_ends H.size t_measures_size t_measures_times t_measures_means t_measures_lefts t_measures_ends x_1 0 n r11 h12) (cwV 2 hts gX6_takePoints_X0_tell rfl rfl rfl (by decide +kernel) ⟨Nat.le_of_ble_eq_true rfl, Nat.le_of_ble_eq_true rfl⟩) ⟨blind_, va_recv hE.1 hP (ci := 0) (q0 := 1) rfl rfl, mkpre_ hE (hP.sub [1, 2, 3, 4, 5] rfl) (hD.sub [1, 2, 3, 4, 5] (by decide) rfl)⟩ rfl rfl hl.1 rfl (lv_room (Nat.le_of_ble_eq_true rfl)) dX6_takePoints_42 ⟨Nat.le_of_ble_eq_true rfl, Nat.le_of_ble_eq_true rfl⟩) hP hD hS hA [1, 2, 3, 4, 5] rfl (fun H locs hP hD hS => ?_)
      refine lv_iload_n hx hb dX6_takePoints_45 rfl (lv_at hl 0 rfl) ?_
      refine lv_aload_n hx hb dX6_takePoints_46 rfl (lv_at hl 1 rfl) ?_
      refine va_get (D := D) (ci := 6) (v := .ref q_t_measures) (C := RX6) (T := TX6) (N := 8) hx hb hts i_X6_takePoints_X6 hown hE.1 hP 0 rfl rfl 2 (by decide) (hts (.fieldLink RX6 24 "NeedleHouse$Track" "measures" "LNeedleHouse$Measures;") (by decide +kernel)) (fun _ h9 => h9) rfl dX6_takePoints_47 ?_
      refine lv_iload_n hx hb dX6_takePoints_50 rfl (lv_at hl 2 rfl) ?_
      refine lv_iconst (v := 3) hx hb dX6_takePoints_51 (by decide) ?_
      obtain ⟨r13, h14, hF⟩ := ob1_ex hF
      refine xiR (va_runV (As := [.int x_1, .int 3]) (rest := [.int r7, .int r11, .ref q_t_pieces]) ⟨hx, hb, hml, hown, hts⟩ (met_X0_tell l D ct q_t_measures q_t_measures_times q_t_measures_means q_t_measures_lefts q_t_measures_ends H.size t_measures_size t_measures_times t_measures_means t_measures_lefts t_measures_ends x_1 3 n r13 h14) (cwV 2 hts gX6_takePoints_X0_tell rfl rfl rfl (by decide +kernel) ⟨Nat.le_of_ble_eq_true rfl, Nat.le_of_ble_eq_true rfl⟩) ⟨blind_, va_recv hE.1 hP (ci := 0) (q0 := 1) rfl rfl, mkpre_ hE (hP.sub [1, 2, 3, 4, 5] rfl) (hD.sub [1, 2, 3, 4, 5] (by decide) rfl)⟩ rfl rfl hl.1 rfl (lv_room (Nat.le_of_ble_eq_true rfl)) dX6_takePoints_52 ⟨Nat.le_of_ble_eq_true rfl, Nat.le_of_ble_eq_true rfl⟩) hP hD hS hA [1, 2, 3, 4, 5] rfl (fun H locs hP hD hS => ?_)
      obtain ⟨v15, f16, f17, f18, h19, hF⟩ := ob4_ex hF
      refine xvM (ws1 := (W_21 ct q_t q_t_row0 q_t_row1 q_t_measures q_t_pieces q_t_joins q_t_finals q_t_kept q_t_measures_times q_t_measures_means q_t_measures_lefts q_t_measures_ends q_t_pieces_times q_t_pieces_lows q_t_pieces_highs q_t_pieces_firsts q_t_pieces_lengths q_t_pieces_uppers q_t_pieces_lowers q_t_pieces_middles t_settledNear t_measures_size t_measures_times t_measures_means t_measures_lefts t_measures_ends v15 t_pieces_size t_pieces_leastUpper t_pieces_leastLower t_pieces_mostUpper t_pieces_mostLower f16 f17 f18 t_joins)) (va_runV (As := [.int r11, .int r7, .int r13]) (rest := []) ⟨hx, hb, hml, hown, hts⟩ (met_X1_addPoint l D ct q_t_pieces q_t_pieces_times q_t_pieces_lows q_t_pieces_highs q_t_pieces_firsts q_t_pieces_lengths q_t_pieces_uppers q_t_pieces_lowers q_t_pieces_middles H.size t_pieces_points t_pieces_size t_pieces_leastUpper t_pieces_leastLower t_pieces_mostUpper t_pieces_mostLower t_pieces_times t_pieces_lows t_pieces_highs r11 r7 r13 n v15 f16 f17 f18 h19) (cwV 3 hts gX6_takePoints_X1_addPoint rfl rfl rfl (by decide +kernel) ⟨Nat.le_of_ble_eq_true rfl, Nat.le_of_ble_eq_true rfl⟩) ⟨blind_, va_recv hE.1 hP (ci := 1) (q0 := 6) rfl rfl, mkpre_ hE (hP.sub [6, 7, 8, 9] rfl) (hD.sub [6, 7, 8, 9] (by decide) rfl)⟩ rfl rfl hl.1 rfl (lv_room (Nat.le_of_ble_eq_true rfl)) dX6_takePoints_55 ⟨Nat.le_of_ble_eq_true rfl, Nat.le_of_ble_eq_true rfl⟩) hP hD hS hA [6, 7, 8, 9] [0, 1, 2, 3, 4, 5, 10] 11 rfl rfl rfl rfl (by decide) rfl (fun H locs hP hD hS => ?_)
      obtain ⟨x20, ex20⟩ : ∃ y : Int32, y = x_1 + 1 := ⟨_, rfl⟩
      refine lv_iinc (v := x20) (lv' := [(1, .int x20), (2, .int r7), (0, .ref q_t)]) hx hb dX6_takePoints_58 hl (k := 2) rfl (by rw [ex20]; rfl) (by decide) rfl (fun ls hl => ?_)
      have hF := bn_as ex20 hF
      refine lv_goto (tgt := 9) hx hb dX6_takePoints_61 (by decide) ?_
      exact hk9 v15 t_pieces_size f16 f17 f18 x20 _ _ _ hF hP hD hS (lv_sub hl [2, 0] rfl)
theorem lX6_takePoints_9 {p : Program} {l : Launch} {e : Env} {s : State} {m : MethodId} {args : Array Value} {below : List Frame} {meth : Method} {c : Code} {D : va_G} {ct : Nat → ClassId} {A : Nat → Prop} {q_t q_t_row0 q_t_row1 q_t_measures q_t_pieces q_t_joins q_t_finals q_t_kept q_t_measures_times q_t_measures_means q_t_measures_lefts q_t_measures_ends q_t_pieces_times q_t_pieces_lows q_t_pieces_highs q_t_pieces_firsts q_t_pieces_lengths q_t_pieces_uppers q_t_pieces_lowers q_t_pieces_middles : Nat} {t_settledNear : Int32} {t_measures_size : Int32} {t_measures_times : Nat → Int32} {t_measures_means : Nat → Int32} {t_measures_lefts : Nat → Int32} {t_measures_ends : Nat → Int32} {t_pieces_leastUpper : Int64} {t_pieces_leastLower : Int64} {t_pieces_mostUpper : Int64} {t_pieces_mostLower : Int64} {t_joins : Nat → Int32} {o_t_pieces_points : Int32} {o_t_pieces_size : Int32} {o_t_pieces_times : Nat → Int32} {o_t_pieces_lows : Nat → Int32} {o_t_pieces_highs : Nat → Int32} (C0 : Cx RX6 cX6_takePoints 3 none wsX6_takePoints D ct A p s m args meth c) : ∀ (n : Nat) (t_pieces_points : Int32) (t_pieces_size : Int32) (t_pieces_times : Nat → Int32) (t_pieces_lows : Nat → Int32) (t_pieces_highs : Nat → Int32) (x_1 : Int32) (H : Heap) (locs : List Loc) (ls : Array Slot), LX6_takePoints_9 n t_measures_size t_measures_times t_measures_means t_measures_lefts t_measures_ends t_pieces_points t_pieces_size t_pieces_times t_pieces_lows t_pieces_highs t_joins x_1 = some (o_t_pieces_points, o_t_pieces_size, o_t_pieces_times, o_t_pieces_lows, o_t_pieces_highs) → va_P D vwCl (W_21 ct q_t q_t_row0 q_t_row1 q_t_measures q_t_pieces q_t_joins q_t_finals q_t_kept q_t_measures_times q_t_measures_means q_t_measures_lefts q_t_measures_ends q_t_pieces_times q_t_pieces_lows q_t_pieces_highs q_t_pieces_firsts q_t_pieces_lengths q_t_pieces_uppers q_t_pieces_lowers q_t_pieces_middles t_settledNear t_measures_size t_measures_times t_measures_means t_measures_lefts t_measures_ends t_pieces_points t_pieces_size t_pieces_leastUpper t_pieces_leastLower t_pieces_mostUpper t_pieces_mostLower t_pieces_times t_pieces_lows t_pieces_highs t_joins) H → va_D A (W_21 ct q_t q_t_row0 q_t_row1 q_t_measures q_t_pieces q_t_joins q_t_finals q_t_kept q_t_measures_times q_t_measures_means q_t_measures_lefts q_t_measures_ends q_t_pieces_times q_t_pieces_lows q_t_pieces_highs q_t_pieces_firsts q_t_pieces_lengths q_t_pieces_uppers q_t_pieces_lowers q_t_pieces_middles t_settledNear t_measures_size t_measures_times t_measures_means t_measures_lefts t_measures_ends t_pieces_points t_pieces_size t_pieces_leastUpper t_pieces_leastLower t_pieces_mostUpper t_pieces_mostLower t_pieces_times t_pieces_lows t_pieces_highs t_joins) → va_S A s.heap H locs → lv_has ls 3 [(0, .ref q_t), (1, .int x_1)] → W p l e ({ frames := 2, cells := 0, slots := 0, locals := 44 } : Room) s m args below meth c H locs 0 0 (MQ below (va_Qv (fun (_ : Unit) => True) (fun _ t => va_P D vwCl (W_21 ct q_t q_t_row0 q_t_row1 q_t_measures q_t_pieces q_t_joins q_t_finals q_t_kept q_t_measures_times q_t_measures_means q_t_measures_lefts q_t_measures_ends q_t_pieces_times q_t_pieces_lows q_t_pieces_highs q_t_pieces_firsts q_t_pieces_lengths q_t_pieces_uppers q_t_pieces_lowers q_t_pieces_middles t_settledNear t_measures_size t_measures_times t_measures_means t_measures_lefts t_measures_ends o_t_pieces_points o_t_pieces_size t_pieces_leastUpper t_pieces_leastLower t_pieces_mostUpper t_pieces_mostLower o_t_pieces_times o_t_pieces_lows o_t_pieces_highs t_joins) t.heap) A) args s 0 0 A) (F0 m 9 ls []) := by
  intro n
  induction n with
  | zero => intro t_pieces_points t_pieces_size t_pieces_times t_pieces_lows t_pieces_highs x_1 H locs ls hF; exact nomatch (show (none : Option (Int32 × Int32 × (Nat → Int32) × (Nat → Int32) × (Nat → Int32))) = _ from hF)
  | succ n ih => intro t_pieces_points t_pieces_size t_pieces_times t_pieces_lows t_pieces_highs x_1 H locs ls hF; exact jX6_takePoints_9 C0 (LX6_takePoints_9 n) ih n t_pieces_points t_pieces_size t_pieces_times t_pieces_lows t_pieces_highs x_1 H locs ls hF
set_option maxHeartbeats 4000000 in
set_option maxRecDepth 100000 in
theorem met_X6_takePoints (l : Launch) (D : va_G) (ct : Nat → ClassId) (q_t : Nat) (q_t_row0 : Nat) (q_t_row1 : Nat) (q_t_measures : Nat) (q_t_pieces : Nat) (q_t_joins : Nat) (q_t_finals : Nat) (q_t_kept : Nat) (q_t_measures_times : Nat) (q_t_measures_means : Nat) (q_t_measures_lefts : Nat) (q_t_measures_ends : Nat) (q_t_pieces_times : Nat) (q_t_pieces_lows : Nat) (q_t_pieces_highs : Nat) (q_t_pieces_firsts : Nat) (q_t_pieces_lengths : Nat) (q_t_pieces_uppers : Nat) (q_t_pieces_lowers : Nat) (q_t_pieces_middles : Nat) (sz : Nat) (t_settledNear : Int32) (t_measures_size : Int32) (t_measures_times : Nat → Int32) (t_measures_means : Nat → Int32) (t_measures_lefts : Nat → Int32) (t_measures_ends : Nat → Int32) (t_pieces_points : Int32) (t_pieces_size : Int32) (t_pieces_leastUpper : Int64) (t_pieces_leastLower : Int64) (t_pieces_mostUpper : Int64) (t_pieces_mostLower : Int64) (t_pieces_times : Nat → Int32) (t_pieces_lows : Nat → Int32) (t_pieces_highs : Nat → Int32) (t_joins : Nat → Int32) (n : Nat) (o_t_pieces_points : Int32) (o_t_pieces_size : Int32) (o_t_pieces_times : Nat → Int32) (o_t_pieces_lows : Nat → Int32) (o_t_pieces_highs : Nat → Int32) (hF : FX6_takePoints n t_measures_size t_measures_times t_measures_means t_measures_lefts t_measures_ends t_pieces_points t_pieces_size t_pieces_times t_pieces_lows t_pieces_highs t_joins = some (o_t_pieces_points, o_t_pieces_size, o_t_pieces_times, o_t_pieces_lows, o_t_pieces_highs)) : Met l yX6_takePoints wsX6_takePoints ({ frames := 2, cells := 0, slots := 0, locals := 44 } : Room) (va_Pc [.ref q_t] (pre_ D ct sz (W_21 ct q_t q_t_row0 q_t_row1 q_t_measures q_t_pieces q_t_joins q_t_finals q_t_kept q_t_measures_times q_t_measures_means q_t_measures_lefts q_t_measures_ends q_t_pieces_times q_t_pieces_lows q_t_pieces_highs q_t_pieces_firsts q_t_pieces_lengths q_t_pieces_uppers q_t_pieces_lowers q_t_pieces_middles t_settledNear t_measures_size t_measures_times t_measures_means t_measures_lefts t_measures_ends t_pieces_points t_pieces_size t_pieces_leastUpper t_pieces_leastLower t_pieces_mostUpper t_pieces_mostLower t_pieces_times t_pieces_lows t_pieces_highs t_joins))) (va_Qv (fun (_ : Unit) => True) (fun _ t => va_P D vwCl (W_21 ct q_t q_t_row0 q_t_row1 q_t_measures q_t_pieces q_t_joins q_t_finals q_t_kept q_t_measures_times q_t_measures_means q_t_measures_lefts q_t_measures_ends q_t_pieces_times q_t_pieces_lows q_t_pieces_highs q_t_pieces_firsts q_t_pieces_lengths q_t_pieces_uppers q_t_pieces_lowers q_t_pieces_middles t_settledNear t_measures_size t_measures_times t_measures_means t_measures_lefts t_measures_ends o_t_pieces_points o_t_pieces_size t_pieces_leastUpper t_pieces_leastLower t_pieces_mostUpper t_pieces_mostLower o_t_pieces_times o_t_pieces_lows o_t_pieces_highs t_joins) t.heap) (va_A (W_21 ct q_t q_t_row0 q_t_row1 q_t_measures q_t_pieces q_t_joins q_t_finals q_t_kept q_t_measures_times q_t_measures_means q_t_measures_lefts q_t_measures_ends q_t_pieces_times q_t_pieces_lows q_t_pieces_highs q_t_pieces_firsts q_t_pieces_lengths q_t_pieces_uppers q_t_pieces_lowers q_t_pieces_middles t_settledNear t_measures_size t_measures_times t_measures_means t_measures_lefts t_measures_ends t_pieces_points t_pieces_size t_pieces_leastUpper t_pieces_leastLower t_pieces_mostUpper t_pieces_mostLower t_pieces_times t_pieces_lows t_pieces_highs t_joins) sz)) 0 0 (va_A (W_21 ct q_t q_t_row0 q_t_row1 q_t_measures q_t_pieces q_t_joins q_t_finals q_t_kept q_t_measures_times q_t_measures_means q_t_measures_lefts q_t_measures_ends q_t_pieces_times q_t_pieces_lows q_t_pieces_highs q_t_pieces_firsts q_t_pieces_lengths q_t_pieces_uppers q_t_pieces_lowers q_t_pieces_middles t_settledNear t_measures_size t_measures_times t_measures_means t_measures_lefts t_measures_ends t_pieces_points t_pieces_size t_pieces_leastUpper t_pieces_leastLower t_pieces_mostUpper t_pieces_mostLower t_pieces_times t_pieces_lows t_pieces_highs t_joins) sz) := by
  refine Met.ofW (cc := cX6_takePoints) (maxL := 3) (ret := none) (by decide) rfl ?_
  intro p e s m args below meth c s₁ B hml hv
  obtain ⟨rfl, hsz, hP, hE, hD0⟩ := hv
  have hx := B.exec
  have hb := B.bytes
  have hr := B.returns
  have hts := atoms_spec (ws := wsX6_takePoints) B.pre
  have hown : s.vm.findClass RX6 = some m.cls := findClass_of_methodNamed B.named
  have hlocks := B.notSynchronized
  subst hsz
  have hD := hD0.self (sz := s.heap.size)
  generalize hAe : va_A (W_21 ct q_t q_t_row0 q_t_row1 q_t_measures q_t_pieces q_t_joins q_t_finals q_t_kept q_t_measures_times q_t_measures_means q_t_measures_lefts q_t_measures_ends q_t_pieces_times q_t_pieces_lows q_t_pieces_highs q_t_pieces_firsts q_t_pieces_lengths q_t_pieces_uppers q_t_pieces_lowers q_t_pieces_middles t_settledNear t_measures_size t_measures_times t_measures_means t_measures_lefts t_measures_ends t_pieces_points t_pieces_size t_pieces_leastUpper t_pieces_leastLower t_pieces_mostUpper t_pieces_mostLower t_pieces_times t_pieces_lows t_pieces_highs t_joins) s.heap.size = A at hD ⊢
  have hA : ∀ q : Nat, s.heap.size ≤ q → A q := fun q h => by rw [← hAe]; exact Or.inr h
  have hl := lv_entry ([.ref q_t]) (n := 3) (Nat.le_of_ble_eq_true rfl)
  rw [lg_entry_eq]
  generalize (lg_sl ([.ref q_t]) ++ List.replicate (3 - (lg_sl ([.ref q_t])).length) Slot.unset).toArray = ls at hl ⊢
  have hl : lv_has ls 3 [(0, .ref q_t)] := hl
  have C0 : Cx RX6 cX6_takePoints 3 none wsX6_takePoints D ct A p s m ([.ref q_t]).toArray meth c := ⟨hx, hb, hml, hown, hts, hr, hlocks, hE, hA⟩
  have hS : ∀ H : Heap, s.heap = H → va_S A s.heap H [] := fun H h => h ▸ va_S.rf
  generalize hH : s.heap = H at hP ⊢
  have hS := hS H hH
  unfold FX6_takePoints at hF
  refine lv_aload_n hx hb dX6_takePoints_0 rfl (lv_at hl 0 rfl) ?_
  refine va_get (D := D) (ci := 6) (v := .ref q_t_pieces) (C := RX6) (T := TX6) (N := 8) hx hb hts i_X6_takePoints_X6 hown hE.1 hP 0 rfl rfl 3 (by decide) (hts (.fieldLink RX6 31 "NeedleHouse$Track" "pieces" "LNeedleHouse$Pieces;") (by decide +kernel)) (fun _ h9 => h9) rfl dX6_takePoints_1 ?_
  obtain ⟨v1, v2, h3, hF⟩ := ob2_ex hF
  refine xvM (ws1 := (W_21 ct q_t q_t_row0 q_t_row1 q_t_measures q_t_pieces q_t_joins q_t_finals q_t_kept q_t_measures_times q_t_measures_means q_t_measures_lefts q_t_measures_ends q_t_pieces_times q_t_pieces_lows q_t_pieces_highs q_t_pieces_firsts q_t_pieces_lengths q_t_pieces_uppers q_t_pieces_lowers q_t_pieces_middles t_settledNear t_measures_size t_measures_times t_measures_means t_measures_lefts t_measures_ends v1 v2 t_pieces_leastUpper t_pieces_leastLower t_pieces_mostUpper t_pieces_mostLower t_pieces_times t_pieces_lows t_pieces_highs t_joins)) (va_runV (As := []) (rest := []) ⟨hx, hb, hml, hown, hts⟩ (met_X1_clear l D ct q_t_pieces q_t_pieces_times q_t_pieces_lows q_t_pieces_highs q_t_pieces_firsts q_t_pieces_lengths q_t_pieces_uppers q_t_pieces_lowers q_t_pieces_middles H.size t_pieces_points t_pieces_size t_pieces_leastUpper t_pieces_leastLower t_pieces_mostUpper t_pieces_mostLower n v1 v2 h3) (cwV 0 hts gX6_takePoints_X1_clear rfl rfl rfl (by decide +kernel) ⟨Nat.le_of_ble_eq_true rfl, Nat.le_of_ble_eq_true rfl⟩) ⟨blind_, va_recv hE.1 hP (ci := 1) (q0 := 6) rfl rfl, mkpre_ hE (hP.sub [6] rfl) (hD.sub [6] (by decide) rfl)⟩ rfl rfl hl.1 rfl (lv_room (Nat.le_of_ble_eq_true rfl)) dX6_takePoints_4 ⟨Nat.le_of_ble_eq_true rfl, Nat.le_of_ble_eq_true rfl⟩) hP hD hS hA [6] [0, 1, 2, 3, 4, 5, 7, 8, 9, 10] 11 rfl rfl rfl rfl (by decide) rfl (fun H locs hP hD hS => ?_)
  refine lv_iconst (v := 0) hx hb dX6_takePoints_7 (by decide) ?_
  refine lv_istore_n (lv' := [(1, .int 0), (0, .ref q_t)]) hx hb dX6_takePoints_8 rfl hl (by decide) rfl (fun ls hl => ?_)
  exact lX6_takePoints_9 C0 n v1 v2 t_pieces_times t_pieces_lows t_pieces_highs 0 _ _ _ hF hP hD hS (lv_sub hl [1, 0] rfl)
def W_22 (ct : Nat → ClassId) (a0 a1 a2 a3 a4 a5 a6 a7 : Nat) (v0 : Int32) (v1 : Nat → Int32) : va_W := [(a0, .inr (6, [.ref a1, .ref a2, .ref a3, .ref a4, .ref a5, .ref a6, .ref a7, .int v0])), (a6, .inl (ct 0, 300, .inl v1))]
/-! NeedleHouse$Track.finalAt(I)I -/
theorem i_X6_finalAt_X6 : ∀ w ∈ wsX60, w ∈ wsX6_finalAt := by decide +kernel
set_option maxHeartbeats 4000000 in
set_option maxRecDepth 100000 in
theorem met_X6_finalAt (l : Launch) (D : va_G) (ct : Nat → ClassId) (q_t : Nat) (q_t_row0 : Nat) (q_t_row1 : Nat) (q_t_measures : Nat) (q_t_pieces : Nat) (q_t_joins : Nat) (q_t_finals : Nat) (q_t_kept : Nat) (sz : Nat) (t_settledNear : Int32) (t_finals : Nat → Int32) (p1 : Int32) (n : Nat) (o_r : Int32) (hF : FX6_finalAt n t_finals p1 = some (o_r)) : Met l yX6_finalAt wsX6_finalAt ({ frames := 0, cells := 0, slots := 0, locals := 0 } : Room) (va_Pc [.ref q_t, .int p1] (pre_ D ct sz (W_22 ct q_t q_t_row0 q_t_row1 q_t_measures q_t_pieces q_t_joins q_t_finals q_t_kept t_settledNear t_finals))) (va_Qi (fun r (_ : Unit) => r = o_r) (fun _ t => va_P D vwCl (W_22 ct q_t q_t_row0 q_t_row1 q_t_measures q_t_pieces q_t_joins q_t_finals q_t_kept t_settledNear t_finals) t.heap) (va_A (W_22 ct q_t q_t_row0 q_t_row1 q_t_measures q_t_pieces q_t_joins q_t_finals q_t_kept t_settledNear t_finals) sz)) 0 0 (va_A (W_22 ct q_t q_t_row0 q_t_row1 q_t_measures q_t_pieces q_t_joins q_t_finals q_t_kept t_settledNear t_finals) sz) := by
  refine Met.ofW (cc := cX6_finalAt) (maxL := 2) (ret := (some .int)) (by decide) rfl ?_
  intro p e s m args below meth c s₁ B hml hv
  obtain ⟨rfl, hsz, hP, hE, hD0⟩ := hv
  have hx := B.exec
  have hb := B.bytes
  have hr := B.returns
  have hts := atoms_spec (ws := wsX6_finalAt) B.pre
  have hown : s.vm.findClass RX6 = some m.cls := findClass_of_methodNamed B.named
  have hlocks := B.notSynchronized
  subst hsz
  have hD := hD0.self (sz := s.heap.size)
  generalize hAe : va_A (W_22 ct q_t q_t_row0 q_t_row1 q_t_measures q_t_pieces q_t_joins q_t_finals q_t_kept t_settledNear t_finals) s.heap.size = A at hD ⊢
  have hA : ∀ q : Nat, s.heap.size ≤ q → A q := fun q h => by rw [← hAe]; exact Or.inr h
  have hl := lv_entry ([.ref q_t, .int p1]) (n := 2) (Nat.le_of_ble_eq_true rfl)
  rw [lg_entry_eq]
  generalize (lg_sl ([.ref q_t, .int p1]) ++ List.replicate (2 - (lg_sl ([.ref q_t, .int p1])).length) Slot.unset).toArray = ls at hl ⊢
  have hl : lv_has ls 2 [(0, .ref q_t), (1, .int p1)] := hl
  have C0 : Cx RX6 cX6_finalAt 2 (some .int) wsX6_finalAt D ct A p s m ([.ref q_t, .int p1]).toArray meth c := ⟨hx, hb, hml, hown, hts, hr, hlocks, hE, hA⟩
  have hS : ∀ H : Heap, s.heap = H → va_S A s.heap H [] := fun H h => h ▸ va_S.rf
  generalize hH : s.heap = H at hP ⊢
  have hS := hS H hH
  unfold FX6_finalAt at hF
  refine lv_iload_n hx hb dX6_finalAt_0 rfl (lv_at hl 1 rfl) ?_
  refine lv_if_lt (tgt := 13) hx hb dX6_finalAt_1 (by decide) (fun c1 => ?_) (fun c1 => ?_)
  · have hF := ifT c1 hF
    refine lv_ldc hx hb hown (hts (.constant RX6 45 (-2000000000)) (by decide +kernel)) dX6_finalAt_13 ?_
    obtain rfl := Option.some.inj hF
    exact W.iret hx hb hr (fun t ht hW => ⟨⟨_, (), rfl, rfl, vaP_at ht hP⟩, hS.F ht⟩) hS.2.2 dX6_finalAt_15
  · have hF := ifF c1 hF
    refine lv_iload_n hx hb dX6_finalAt_4 rfl (lv_at hl 1 rfl) ?_
    refine lv_aload_n hx hb dX6_finalAt_5 rfl (lv_at hl 0 rfl) ?_
    refine va_get (D := D) (ci := 6) (v := .ref q_t_finals) (C := RX6) (T := TX6) (N := 8) hx hb hts i_X6_finalAt_X6 hown hE.1 hP 0 rfl rfl 5 (by decide) (hts (.fieldLink RX6 39 "NeedleHouse$Track" "finals" "[I") (by decide +kernel)) (fun _ h9 => h9) rfl dX6_finalAt_6 ?_
    refine va_alen (v := 300) hx hb hE.1 hP 1 0 rfl rfl rfl dX6_finalAt_9 ?_
    refine lv_icmp_lt (tgt := 16) hx hb dX6_finalAt_10 (by decide) (fun c2 => ?_) (fun c2 => ?_)
    · have hF := ifT c2 hF
      refine lv_aload_n hx hb dX6_finalAt_16 rfl (lv_at hl 0 rfl) ?_
      refine va_get (D := D) (ci := 6) (v := .ref q_t_finals) (C := RX6) (T := TX6) (N := 8) hx hb hts i_X6_finalAt_X6 hown hE.1 hP 0 rfl rfl 5 (by decide) (hts (.fieldLink RX6 39 "NeedleHouse$Track" "finals" "[I") (by decide +kernel)) (fun _ h9 => h9) rfl dX6_finalAt_17 ?_
      refine lv_iload_n hx hb dX6_finalAt_20 rfl (lv_at hl 1 rfl) ?_
      obtain ⟨h3, hF⟩ := gd_ex hF
      refine va_iald hx hb hE.1 hP 1 0 rfl rfl h3 dX6_finalAt_21 ?_
      obtain rfl := Option.some.inj hF
      exact W.iret hx hb hr (fun t ht hW => ⟨⟨_, (), rfl, rfl, vaP_at ht hP⟩, hS.F ht⟩) hS.2.2 dX6_finalAt_22
    · have hF := ifF c2 hF
      refine lv_ldc hx hb hown (hts (.constant RX6 45 (-2000000000)) (by decide +kernel)) dX6_finalAt_13 ?_
      obtain rfl := Option.some.inj hF
      exact W.iret hx hb hr (fun t ht hW => ⟨⟨_, (), rfl, rfl, vaP_at ht hP⟩, hS.F ht⟩) hS.2.2 dX6_finalAt_15
def W_23 (ct : Nat → ClassId) (a0 a1 a2 a3 a4 a5 a6 a7 a8 a9 a10 a11 a12 a13 a14 a15 : Nat) (v0 : Int32) (v1 : Int32) (v2 : Int32) (v3 : Int64) (v4 : Int64) (v5 : Int64) (v6 : Int64) (v7 : Nat → Int32) (v8 : Nat → Int32) (v9 : Nat → Int32) (v10 : Nat → Int64) : va_W := [(a0, .inr (6, [.ref a1, .ref a2, .ref a3, .ref a4, .ref a5, .ref a6, .ref a7, .int v0])), (a4, .inr (1, [.ref a8, .ref a9, .ref a10, .int v1, .ref a11, .ref a12, .ref a13, .ref a14, .ref a15, .int v2, .long v3, .long v4, .long v5, .long v6])), (a11, .inl (ct 0, 20, .inl v7)), (a13, .inl (ct 0, 20, .inl v8)), (a14, .inl (ct 0, 20, .inl v9)), (a15, .inl (ct 1, 20, .inr (.inl v10)))]
/-! NeedleHouse$Track.together(II)I -/
theorem i_X6_together_X6 : ∀ w ∈ wsX60, w ∈ wsX6_together := by decide +kernel
set_option maxHeartbeats 4000000 in
set_option maxRecDepth 100000 in
theorem met_X6_together (l : Launch) (D : va_G) (ct : Nat → ClassId) (q_t : Nat) (q_t_row0 : Nat) (q_t_row1 : Nat) (q_t_measures : Nat) (q_t_pieces : Nat) (q_t_joins : Nat) (q_t_finals : Nat) (q_t_kept : Nat) (q_t_pieces_times : Nat) (q_t_pieces_lows : Nat) (q_t_pieces_highs : Nat) (q_t_pieces_firsts : Nat) (q_t_pieces_lengths : Nat) (q_t_pieces_uppers : Nat) (q_t_pieces_lowers : Nat) (q_t_pieces_middles : Nat) (sz : Nat) (t_settledNear : Int32) (t_pieces_points : Int32) (t_pieces_size : Int32) (t_pieces_leastUpper : Int64) (t_pieces_leastLower : Int64) (t_pieces_mostUpper : Int64) (t_pieces_mostLower : Int64) (t_pieces_firsts : Nat → Int32) (t_pieces_uppers : Nat → Int32) (t_pieces_lowers : Nat → Int32) (t_pieces_middles : Nat → Int64) (p1 : Int32) (p2 : Int32) (n : Nat) (o_r : Int32) (hF : FX6_together n t_pieces_size t_pieces_firsts t_pieces_uppers t_pieces_lowers t_pieces_middles p1 p2 = some (o_r)) : Met l yX6_together wsX6_together ({ frames := 2, cells := 0, slots := 0, locals := 47 } : Room) (va_Pc [.ref q_t, .int p1, .int p2] (pre_ D ct sz (W_23 ct q_t q_t_row0 q_t_row1 q_t_measures q_t_pieces q_t_joins q_t_finals q_t_kept q_t_pieces_times q_t_pieces_lows q_t_pieces_highs q_t_pieces_firsts q_t_pieces_lengths q_t_pieces_uppers q_t_pieces_lowers q_t_pieces_middles t_settledNear t_pieces_points t_pieces_size t_pieces_leastUpper t_pieces_leastLower t_pieces_mostUpper t_pieces_mostLower t_pieces_firsts t_pieces_uppers t_pieces_lowers t_pieces_middles))) (va_Qi (fun r (_ : Unit) => r = o_r) (fun _ t => va_P D vwCl (W_23 ct q_t q_t_row0 q_t_row1 q_t_measures q_t_pieces q_t_joins q_t_finals q_t_kept q_t_pieces_times q_t_pieces_lows q_t_pieces_highs q_t_pieces_firsts q_t_pieces_lengths q_t_pieces_uppers q_t_pieces_lowers q_t_pieces_middles t_settledNear t_pieces_points t_pieces_size t_pieces_leastUpper t_pieces_leastLower t_pieces_mostUpper t_pieces_mostLower t_pieces_firsts t_pieces_uppers t_pieces_lowers t_pieces_middles) t.heap) (va_A (W_23 ct q_t q_t_row0 q_t_row1 q_t_measures q_t_pieces q_t_joins q_t_finals q_t_kept q_t_pieces_times q_t_pieces_lows q_t_pieces_highs q_t_pieces_firsts q_t_pieces_lengths q_t_pieces_uppers q_t_pieces_lowers q_t_pieces_middles t_settledNear t_pieces_points t_pieces_size t_pieces_leastUpper t_pieces_leastLower t_pieces_mostUpper t_pieces_mostLower t_pieces_firsts t_pieces_uppers t_pieces_lowers t_pieces_middles) sz)) 0 0 (va_A (W_23 ct q_t q_t_row0 q_t_row1 q_t_measures q_t_pieces q_t_joins q_t_finals q_t_kept q_t_pieces_times q_t_pieces_lows q_t_pieces_highs q_t_pieces_firsts q_t_pieces_lengths q_t_pieces_uppers q_t_pieces_lowers q_t_pieces_middles t_settledNear t_pieces_points t_pieces_size t_pieces_leastUpper t_pieces_leastLower t_pieces_mostUpper t_pieces_mostLower t_pieces_firsts t_pieces_uppers t_pieces_lowers t_pieces_middles) sz) := by
  refine Met.ofW (cc := cX6_together) (maxL := 4) (ret := (some .int)) (by decide) rfl ?_
  intro p e s m args below meth c s₁ B hml hv
  obtain ⟨rfl, hsz, hP, hE, hD0⟩ := hv
  have hx := B.exec
  have hb := B.bytes
  have hr := B.returns
  have hts := atoms_spec (ws := wsX6_together) B.pre
  have hown : s.vm.findClass RX6 = some m.cls := findClass_of_methodNamed B.named
  have hlocks := B.notSynchronized
  subst hsz
  have hD := hD0.self (sz := s.heap.size)
  generalize hAe : va_A (W_23 ct q_t q_t_row0 q_t_row1 q_t_measures q_t_pieces q_t_joins q_t_finals q_t_kept q_t_pieces_times q_t_pieces_lows q_t_pieces_highs q_t_pieces_firsts q_t_pieces_lengths q_t_pieces_uppers q_t_pieces_lowers q_t_pieces_middles t_settledNear t_pieces_points t_pieces_size t_pieces_leastUpper t_pieces_leastLower t_pieces_mostUpper t_pieces_mostLower t_pieces_firsts t_pieces_uppers t_pieces_lowers t_pieces_middles) s.heap.size = A at hD ⊢
  have hA : ∀ q : Nat, s.heap.size ≤ q → A q := fun q h => by rw [← hAe]; exact Or.inr h
  have hl := lv_entry ([.ref q_t, .int p1, .int p2]) (n := 4) (Nat.le_of_ble_eq_true rfl)
  rw [lg_entry_eq]
  generalize (lg_sl ([.ref q_t, .int p1, .int p2]) ++ List.replicate (4 - (lg_sl ([.ref q_t, .int p1, .int p2])).length) Slot.unset).toArray = ls at hl ⊢
  have hl : lv_has ls 4 [(0, .ref q_t), (1, .int p1), (2, .int p2)] := hl
  have C0 : Cx RX6 cX6_together 4 (some .int) wsX6_together D ct A p s m ([.ref q_t, .int p1, .int p2]).toArray meth c := ⟨hx, hb, hml, hown, hts, hr, hlocks, hE, hA⟩
  have hS : ∀ H : Heap, s.heap = H → va_S A s.heap H [] := fun H h => h ▸ va_S.rf
  generalize hH : s.heap = H at hP ⊢
  have hS := hS H hH
  unfold FX6_together at hF
  refine lv_iload_n hx hb dX6_together_0 rfl (lv_at hl 1 rfl) ?_
  refine lv_ldc hx hb hown (hts (.constant RX6 45 (-2000000000)) (by decide +kernel)) dX6_together_1 ?_
  refine lv_icmp_ne (tgt := 11) hx hb dX6_together_3 (by decide) (fun c1 => ?_) (fun c1 => ?_)
  · have hF := ifF c1 hF
    refine lv_aload_n hx hb dX6_together_11 rfl (lv_at hl 0 rfl) ?_
    refine va_get (D := D) (ci := 6) (v := .ref q_t_pieces) (C := RX6) (T := TX6) (N := 8) hx hb hts i_X6_together_X6 hown hE.1 hP 0 rfl rfl 3 (by decide) (hts (.fieldLink RX6 31 "NeedleHouse$Track" "pieces" "LNeedleHouse$Pieces;") (by decide +kernel)) (fun _ h9 => h9) rfl dX6_together_12 ?_
    refine lv_iload_n hx hb dX6_together_15 rfl (lv_at hl 2 rfl) ?_
    obtain ⟨r2, h3, hF⟩ := ob1_ex hF
    refine xiR (va_runV (As := [.int p2]) (rest := []) ⟨hx, hb, hml, hown, hts⟩ (met_X1_height l D ct q_t_pieces q_t_pieces_times q_t_pieces_lows q_t_pieces_highs q_t_pieces_firsts q_t_pieces_lengths q_t_pieces_uppers q_t_pieces_lowers q_t_pieces_middles H.size t_pieces_points t_pieces_size t_pieces_leastUpper t_pieces_leastLower t_pieces_mostUpper t_pieces_mostLower t_pieces_firsts t_pieces_uppers t_pieces_lowers t_pieces_middles p2 n r2 h3) (cwV 1 hts gX6_together_X1_height rfl rfl rfl (by decide +kernel) ⟨Nat.le_of_ble_eq_true rfl, Nat.le_of_ble_eq_true rfl⟩) ⟨blind_, va_recv hE.1 hP (ci := 1) (q0 := 1) rfl rfl, mkpre_ hE (hP.sub [1, 2, 3, 4, 5] rfl) (hD.sub [1, 2, 3, 4, 5] (by decide) rfl)⟩ rfl rfl hl.1 rfl (lv_room (Nat.le_of_ble_eq_true rfl)) dX6_together_16 ⟨Nat.le_of_ble_eq_true rfl, Nat.le_of_ble_eq_true rfl⟩) hP hD hS hA [1, 2, 3, 4, 5] rfl (fun H locs hP hD hS => ?_)
    refine lv_istore_n (lv' := [(3, .int r2), (0, .ref q_t), (1, .int p1), (2, .int p2)]) hx hb dX6_together_19 rfl hl (by decide) rfl (fun ls hl => ?_)
    refine lv_iload_n hx hb dX6_together_20 rfl (lv_at hl 0 rfl) ?_
    refine lv_ldc hx hb hown (hts (.constant RX6 45 (-2000000000)) (by decide +kernel)) dX6_together_21 ?_
    refine lv_icmp_ne (tgt := 31) hx hb dX6_together_23 (by decide) (fun c4 => ?_) (fun c4 => ?_)
    · have hF := ifF c4 hF
      refine lv_iload_n hx hb dX6_together_31 rfl (lv_at hl 2 rfl) ?_
      refine lv_iload_n hx hb dX6_together_32 rfl (lv_at hl 0 rfl) ?_
      refine lv_iadd hx hb dX6_together_33 ?_
      obtain rfl := Option.some.inj hF
      exact W.iret hx hb hr (fun t ht hW => ⟨⟨_, (), rfl, rfl, vaP_at ht hP⟩, hS.F ht⟩) hS.2.2 dX6_together_34
    · have hF := ifT c4 hF
      refine lv_ldc hx hb hown (hts (.constant RX6 45 (-2000000000)) (by decide +kernel)) dX6_together_26 ?_
      refine lv_goto (tgt := 34) hx hb dX6_together_28 (by decide) ?_
      obtain rfl := Option.some.inj hF
      exact W.iret hx hb hr (fun t ht hW => ⟨⟨_, (), rfl, rfl, vaP_at ht hP⟩, hS.F ht⟩) hS.2.2 dX6_together_34
  · have hF := ifT c1 hF
    refine lv_ldc hx hb hown (hts (.constant RX6 45 (-2000000000)) (by decide +kernel)) dX6_together_6 ?_
    refine lv_goto (tgt := 19) hx hb dX6_together_8 (by decide) ?_
    refine lv_istore_n (lv' := [(3, .int ((-2000000000))), (0, .ref q_t), (1, .int p1), (2, .int p2)]) hx hb dX6_together_19 rfl hl (by decide) rfl (fun ls hl => ?_)
    refine lv_iload_n hx hb dX6_together_20 rfl (lv_at hl 0 rfl) ?_
    refine lv_ldc hx hb hown (hts (.constant RX6 45 (-2000000000)) (by decide +kernel)) dX6_together_21 ?_
    refine lv_icmp_ne (tgt := 31) hx hb dX6_together_23 (by decide) (fun c5 => ?_) (fun c5 => ?_)
    · exact absurd c5 (by decide)
    · refine lv_ldc hx hb hown (hts (.constant RX6 45 (-2000000000)) (by decide +kernel)) dX6_together_26 ?_
      refine lv_goto (tgt := 34) hx hb dX6_together_28 (by decide) ?_
      obtain rfl := Option.some.inj hF
      exact W.iret hx hb hr (fun t ht hW => ⟨⟨_, (), rfl, rfl, vaP_at ht hP⟩, hS.F ht⟩) hS.2.2 dX6_together_34
def W_24 (ct : Nat → ClassId) (a0 a1 a2 a3 a4 a5 a6 a7 a8 a9 a10 a11 a12 a13 a14 a15 a16 a17 a18 a19 a20 a21 : Nat) (v0 : Int32) (v1 : Int32) (v2 : Nat → Int32) (v3 : Int32) (v4 : Nat → Int32) (v5 : Int32) (v6 : Nat → Int32) (v7 : Nat → Int32) (v8 : Nat → Int32) (v9 : Nat → Int32) (v10 : Int32) (v11 : Int32) (v12 : Int64) (v13 : Int64) (v14 : Int64) (v15 : Int64) (v16 : Nat → Int32) (v17 : Nat → Int32) (v18 : Nat → Int32) (v19 : Nat → Int32) (v20 : Nat → Int32) (v21 : Nat → Int32) (v22 : Nat → Int32) (v23 : Nat → Int64) (v24 : Nat → Int32) (v25 : Nat → Int32) : va_W := [(a0, .inr (6, [.ref a1, .ref a2, .ref a3, .ref a4, .ref a5, .ref a6, .ref a7, .int v0])), (a1, .inr (2, [.ref a8, .int v1])), (a8, .inl (ct 0, 300, .inl v2)), (a2, .inr (2, [.ref a9, .int v3])), (a9, .inl (ct 0, 300, .inl v4)), (a3, .inr (0, [.ref a10, .ref a11, .ref a12, .ref a13, .int v5])), (a10, .inl (ct 0, 20, .inl v6)), (a11, .inl (ct 0, 20, .inl v7)), (a12, .inl (ct 0, 20, .inl v8)), (a13, .inl (ct 0, 20, .inl v9)), (a4, .inr (1, [.ref a14, .ref a15, .ref a16, .int v10, .ref a17, .ref a18, .ref a19, .ref a20, .ref a21, .int v11, .long v12, .long v13, .long v14, .long v15])), (a14, .inl (ct 0, 20, .inl v16)), (a15, .inl (ct 0, 20, .inl v17)), (a16, .inl (ct 0, 20, .inl v18)), (a17, .inl (ct 0, 20, .inl v19)), (a18, .inl (ct 0, 20, .inl v20)), (a19, .inl (ct 0, 20, .inl v21)), (a20, .inl (ct 0, 20, .inl v22)), (a21, .inl (ct 1, 20, .inr (.inl v23))), (a5, .inl (ct 0, 300, .inl v24)), (a6, .inl (ct 0, 300, .inl v25))]
/-! NeedleHouse$Track.settle(I)V -/
theorem i_X6_settle_X6 : ∀ w ∈ wsX60, w ∈ wsX6_settle := by decide +kernel
set_option maxHeartbeats 4000000 in
set_option maxRecDepth 100000 in
theorem jX6_settle_84 {p : Program} {l : Launch} {e : Env} {s : State} {m : MethodId} {args : Array Value} {below : List Frame} {meth : Method} {c : Code} {D : va_G} {ct : Nat → ClassId} {A : Nat → Prop} {q_t q_t_row0 q_t_row1 q_t_measures q_t_pieces q_t_joins q_t_finals q_t_kept q_t_row0_readings q_t_row1_readings q_t_measures_times q_t_measures_means q_t_measures_lefts q_t_measures_ends q_t_pieces_times q_t_pieces_lows q_t_pieces_highs q_t_pieces_firsts q_t_pieces_lengths q_t_pieces_uppers q_t_pieces_lowers q_t_pieces_middles : Nat} {t_row0_size : Int32} {t_row0_readings : Nat → Int32} {t_row1_size : Int32} {t_row1_readings : Nat → Int32} {t_measures_size : Int32} {t_measures_times : Nat → Int32} {t_measures_means : Nat → Int32} {t_measures_lefts : Nat → Int32} {t_measures_ends : Nat → Int32} {o_t_settledNear : Int32} {o_t_pieces_points : Int32} {o_t_pieces_size : Int32} {o_t_pieces_leastUpper : Int64} {o_t_pieces_leastLower : Int64} {o_t_pieces_mostUpper : Int64} {o_t_pieces_mostLower : Int64} {o_t_pieces_times : Nat → Int32} {o_t_pieces_lows : Nat → Int32} {o_t_pieces_highs : Nat → Int32} {o_t_pieces_firsts : Nat → Int32} {o_t_pieces_lengths : Nat → Int32} {o_t_pieces_uppers : Nat → Int32} {o_t_pieces_lowers : Nat → Int32} {o_t_pieces_middles : Nat → Int64} {o_t_joins : Nat → Int32} {o_t_finals : Nat → Int32} (C0 : Cx RX6 cX6_settle 5 none wsX6_settle D ct A p s m args meth c) (k84 : Int32 → Int32 → (Nat → Int32) → Int32 → (Nat → Int32) → Int32 → (Nat → Int32) → (Nat → Int32) → (Nat → Int32) → (Nat → Int32) → Int32 → Int32 → Int64 → Int64 → Int64 → Int64 → (Nat → Int32) → (Nat → Int32) → (Nat → Int32) → (Nat → Int32) → (Nat → Int32) → (Nat → Int32) → (Nat → Int32) → (Nat → Int64) → (Nat → Int32) → (Nat → Int32) → Int32 → Int32 → Int32 → Option (Int32 × Int32 × Int32 × Int64 × Int64 × Int64 × Int64 × (Nat → Int32) × (Nat → Int32) × (Nat → Int32) × (Nat → Int32) × (Nat → Int32) × (Nat → Int32) × (Nat → Int32) × (Nat → Int64) × (Nat → Int32) × (Nat → Int32))) (hk84 : ∀ (t_settledNear : Int32) (t_pieces_points : Int32) (t_pieces_size : Int32) (t_pieces_leastUpper : Int64) (t_pieces_leastLower : Int64) (t_pieces_mostUpper : Int64) (t_pieces_mostLower : Int64) (t_pieces_times : Nat → Int32) (t_pieces_lows : Nat → Int32) (t_pieces_highs : Nat → Int32) (t_pieces_firsts : Nat → Int32) (t_pieces_lengths : Nat → Int32) (t_pieces_uppers : Nat → Int32) (t_pieces_lowers : Nat → Int32) (t_pieces_middles : Nat → Int64) (t_joins : Nat → Int32) (t_finals : Nat → Int32) (x_1 : Int32) (x_2 : Int32) (x_4 : Int32) (H : Heap) (locs : List Loc) (ls : Array Slot), k84 t_settledNear t_row0_size t_row0_readings t_row1_size t_row1_readings t_measures_size t_measures_times t_measures_means t_measures_lefts t_measures_ends t_pieces_points t_pieces_size t_pieces_leastUpper t_pieces_leastLower t_pieces_mostUpper t_pieces_mostLower t_pieces_times t_pieces_lows t_pieces_highs t_pieces_firsts t_pieces_lengths t_pieces_uppers t_pieces_lowers t_pieces_middles t_joins t_finals x_1 x_2 x_4 = some (o_t_settledNear, o_t_pieces_points, o_t_pieces_size, o_t_pieces_leastUpper, o_t_pieces_leastLower, o_t_pieces_mostUpper, o_t_pieces_mostLower, o_t_pieces_times, o_t_pieces_lows, o_t_pieces_highs, o_t_pieces_firsts, o_t_pieces_lengths, o_t_pieces_uppers, o_t_pieces_lowers, o_t_pieces_middles, o_t_joins, o_t_finals) → va_P D vwCl (W_24 ct q_t q_t_row0 q_t_row1 q_t_measures q_t_pieces q_t_joins q_t_finals q_t_kept q_t_row0_readings q_t_row1_readings q_t_measures_times q_t_measures_means q_t_measures_lefts q_t_measures_ends q_t_pieces_times q_t_pieces_lows q_t_pieces_highs q_t_pieces_firsts q_t_pieces_lengths q_t_pieces_uppers q_t_pieces_lowers q_t_pieces_middles t_settledNear t_row0_size t_row0_readings t_row1_size t_row1_readings t_measures_size t_measures_times t_measures_means t_measures_lefts t_measures_ends t_pieces_points t_pieces_size t_pieces_leastUpper t_pieces_leastLower t_pieces_mostUpper t_pieces_mostLower t_pieces_times t_pieces_lows t_pieces_highs t_pieces_firsts t_pieces_lengths t_pieces_uppers t_pieces_lowers t_pieces_middles t_joins t_finals) H → va_D A (W_24 ct q_t q_t_row0 q_t_row1 q_t_measures q_t_pieces q_t_joins q_t_finals q_t_kept q_t_row0_readings q_t_row1_readings q_t_measures_times q_t_measures_means q_t_measures_lefts q_t_measures_ends q_t_pieces_times q_t_pieces_lows q_t_pieces_highs q_t_pieces_firsts q_t_pieces_lengths q_t_pieces_uppers q_t_pieces_lowers q_t_pieces_middles t_settledNear t_row0_size t_row0_readings t_row1_size t_row1_readings t_measures_size t_measures_times t_measures_means t_measures_lefts t_measures_ends t_pieces_points t_pieces_size t_pieces_leastUpper t_pieces_leastLower t_pieces_mostUpper t_pieces_mostLower t_pieces_times t_pieces_lows t_pieces_highs t_pieces_firsts t_pieces_lengths t_pieces_uppers t_pieces_lowers t_pieces_middles t_joins t_finals) → va_S A s.heap H locs → lv_has ls 5 [(0, .ref q_t), (1, .int x_1), (2, .int x_2), (4, .int x_4)] → W p l e ({ frames := 4, cells := 0, slots := 0, locals := 100 } : Room) s m args below meth c H locs 0 0 (MQ below (va_Qv (fun (_ : Unit) => True) (fun _ t => va_P D vwCl (W_24 ct q_t q_t_row0 q_t_row1 q_t_measures q_t_pieces q_t_joins q_t_finals q_t_kept q_t_row0_readings q_t_row1_readings q_t_measures_times q_t_measures_means q_t_measures_lefts q_t_measures_ends q_t_pieces_times q_t_pieces_lows q_t_pieces_highs q_t_pieces_firsts q_t_pieces_lengths q_t_pieces_uppers q_t_pieces_lowers q_t_pieces_middles o_t_settledNear t_row0_size t_row0_readings t_row1_size t_row1_readings t_measures_size t_measures_times t_measures_means t_measures_lefts t_measures_ends o_t_pieces_points o_t_pieces_size o_t_pieces_leastUpper o_t_pieces_leastLower o_t_pieces_mostUpper o_t_pieces_mostLower o_t_pieces_times o_t_pieces_lows o_t_pieces_highs o_t_pieces_firsts o_t_pieces_lengths o_t_pieces_uppers o_t_pieces_lowers o_t_pieces_middles o_t_joins o_t_finals) t.heap) A) args s 0 0 A) (F0 m 84 ls [])) (n : Nat) (t_settledNear : Int32) (t_pieces_points : Int32) (t_pieces_size : Int32) (t_pieces_leastUpper : Int64) (t_pieces_leastLower : Int64) (t_pieces_mostUpper : Int64) (t_pieces_mostLower : Int64) (t_pieces_times : Nat → Int32) (t_pieces_lows : Nat → Int32) (t_pieces_highs : Nat → Int32) (t_pieces_firsts : Nat → Int32) (t_pieces_lengths : Nat → Int32) (t_pieces_uppers : Nat → Int32) (t_pieces_lowers : Nat → Int32) (t_pieces_middles : Nat → Int64) (t_joins : Nat → Int32) (t_finals : Nat → Int32) (x_1 : Int32) (x_2 : Int32) (x_4 : Int32) (H : Heap) (locs : List Loc) (ls : Array Slot) : JX6_settle_84 k84 n t_settledNear t_row0_size t_row0_readings t_row1_size t_row1_readings t_measures_size t_measures_times t_measures_means t_measures_lefts t_measures_ends t_pieces_points t_pieces_size t_pieces_leastUpper t_pieces_leastLower t_pieces_mostUpper t_pieces_mostLower t_pieces_times t_pieces_lows t_pieces_highs t_pieces_firsts t_pieces_lengths t_pieces_uppers t_pieces_lowers t_pieces_middles t_joins t_finals x_1 x_2 x_4 = some (o_t_settledNear, o_t_pieces_points, o_t_pieces_size, o_t_pieces_leastUpper, o_t_pieces_leastLower, o_t_pieces_mostUpper, o_t_pieces_mostLower, o_t_pieces_times, o_t_pieces_lows, o_t_pieces_highs, o_t_pieces_firsts, o_t_pieces_lengths, o_t_pieces_uppers, o_t_pieces_lowers, o_t_pieces_middles, o_t_joins, o_t_finals) → va_P D vwCl (W_24 ct q_t q_t_row0 q_t_row1 q_t_measures q_t_pieces q_t_joins q_t_finals q_t_kept q_t_row0_readings q_t_row1_readings q_t_measures_times q_t_measures_means q_t_measures_lefts q_t_measures_ends q_t_pieces_times q_t_pieces_lows q_t_pieces_highs q_t_pieces_firsts q_t_pieces_lengths q_t_pieces_uppers q_t_pieces_lowers q_t_pieces_middles t_settledNear t_row0_size t_row0_readings t_row1_size t_row1_readings t_measures_size t_measures_times t_measures_means t_measures_lefts t_measures_ends t_pieces_points t_pieces_size t_pieces_leastUpper t_pieces_leastLower t_pieces_mostUpper t_pieces_mostLower t_pieces_times t_pieces_lows t_pieces_highs t_pieces_firsts t_pieces_lengths t_pieces_uppers t_pieces_lowers t_pieces_middles t_joins t_finals) H → va_D A (W_24 ct q_t q_t_row0 q_t_row1 q_t_measures q_t_pieces q_t_joins q_t_finals q_t_kept q_t_row0_readings q_t_row1_readings q_t_measures_times q_t_measures_means q_t_measures_lefts q_t_measures_ends q_t_pieces_times q_t_pieces_lows q_t_pieces_highs q_t_pieces_firsts q_t_pieces_lengths q_t_pieces_uppers q_t_pieces_lowers q_t_pieces_middles t_settledNear t_row0_size t_row0_readings t_row1_size t_row1_readings t_measures_size t_measures_times t_measures_means t_measures_lefts t_measures_ends t_pieces_points t_pieces_size t_pieces_leastUpper t_pieces_leastLower t_pieces_mostUpper t_pieces_mostLower t_pieces_times t_pieces_lows t_pieces_highs t_pieces_firsts t_pieces_lengths t_pieces_uppers t_pieces_lowers t_pieces_middles t_joins t_finals) → va_S A s.heap H locs → lv_has ls 5 [(0, .ref q_t), (1, .int x_1), (2, .int x_2), (4, .int x_4)] → W p l e ({ frames := 4, cells := 0, slots := 0, locals := 100 } : Room) s m args below meth c H locs 0 0 (MQ below (va_Qv (fun (_ : Unit) => True) (fun _ t => va_P D vwCl (W_24 ct q_t q_t_row0 q_t_row1 q_t_measures q_t_pieces q_t_joins q_t_finals q_t_kept q_t_row0_readings q_t_row1_readings q_t_measures_times q_t_measures_means q_t_measures_lefts q_t_measures_ends q_t_pieces_times q_t_pieces_lows q_t_pieces_highs q_t_pieces_firsts q_t_pieces_lengths q_t_pieces_uppers q_t_pieces_lowers q_t_pieces_middles o_t_settledNear t_row0_size t_row0_readings t_row1_size t_row1_readings t_measures_size t_measures_times t_measures_means t_measures_lefts t_measures_ends o_t_pieces_points o_t_pieces_size o_t_pieces_leastUpper o_t_pieces_leastLower o_t_pieces_mostUpper o_t_pieces_mostLower o_t_pieces_times o_t_pieces_lows o_t_pieces_highs o_t_pieces_firsts o_t_pieces_lengths o_t_pieces_uppers o_t_pieces_lowers o_t_pieces_middles o_t_joins o_t_finals) t.heap) A) args s 0 0 A) (F0 m 84 ls []) := by
  intro hF hP hD hS hl
  obtain ⟨hx, hb, hml, hown, hts, hr, hlocks, hE, hA⟩ := id C0
  unfold JX6_settle_84 at hF
  refine lv_iload hx hb dX6_settle_84 (lv_at hl 3 rfl) ?_
  refine lv_iload_n hx hb dX6_settle_86 rfl (lv_at hl 2 rfl) ?_
  refine lv_icmp_ge (tgt := 115) hx hb dX6_settle_87 (by decide) (fun c32 => ?_) (fun c32 => ?_)
  · have hF := ifT c32 hF
    refine lv_aload_n hx hb dX6_settle_115 rfl (lv_at hl 0 rfl) ?_
    refine lv_iload_n hx hb dX6_settle_116 rfl (lv_at hl 1 rfl) ?_
    refine va_put (D := D) (ci := 6) (v := .int x_1) (ty := .int) (C := RX6) (T := TX6) (N := 8) hx hb hts i_X6_settle_X6 tyX6 tyX6_ok nmX6 hown hE.1 hP hD hS 0 rfl rfl 7 (by decide) (hts (.fieldLink RX6 52 "NeedleHouse$Track" "settledNear" "I") (by decide +kernel)) (fun _ h9 => h9) rfl (by decide +kernel) rfl rfl (Nat.le_of_ble_eq_true rfl) dX6_settle_117 (fun H locs hP hD hS => ?_)
    have hP : va_P D vwCl (W_24 ct q_t q_t_row0 q_t_row1 q_t_measures q_t_pieces q_t_joins q_t_finals q_t_kept q_t_row0_readings q_t_row1_readings q_t_measures_times q_t_measures_means q_t_measures_lefts q_t_measures_ends q_t_pieces_times q_t_pieces_lows q_t_pieces_highs q_t_pieces_firsts q_t_pieces_lengths q_t_pieces_uppers q_t_pieces_lowers q_t_pieces_middles x_1 t_row0_size t_row0_readings t_row1_size t_row1_readings t_measures_size t_measures_times t_measures_means t_measures_lefts t_measures_ends t_pieces_points t_pieces_size t_pieces_leastUpper t_pieces_leastLower t_pieces_mostUpper t_pieces_mostLower t_pieces_times t_pieces_lows t_pieces_highs t_pieces_firsts t_pieces_lengths t_pieces_uppers t_pieces_lowers t_pieces_middles t_joins t_finals) H := hP
    have hD : va_D A (W_24 ct q_t q_t_row0 q_t_row1 q_t_measures q_t_pieces q_t_joins q_t_finals q_t_kept q_t_row0_readings q_t_row1_readings q_t_measures_times q_t_measures_means q_t_measures_lefts q_t_measures_ends q_t_pieces_times q_t_pieces_lows q_t_pieces_highs q_t_pieces_firsts q_t_pieces_lengths q_t_pieces_uppers q_t_pieces_lowers q_t_pieces_middles x_1 t_row0_size t_row0_readings t_row1_size t_row1_readings t_measures_size t_measures_times t_measures_means t_measures_lefts t_measures_ends t_pieces_points t_pieces_size t_pieces_leastUpper t_pieces_leastLower t_pieces_mostUpper t_pieces_mostLower t_pieces_times t_pieces_lows t_pieces_highs t_pieces_firsts t_pieces_lengths t_pieces_uppers t_pieces_lowers t_pieces_middles t_joins t_finals) := hD
    obtain ⟨rfl, rfl, rfl, rfl, rfl, rfl, rfl, rfl, rfl, rfl, rfl, rfl, rfl, rfl, rfl, rfl, rfl⟩ := in17 hF
    exact W.vret hx hb hr (fun t ht hW => ⟨⟨(), rfl, trivial, vaP_at ht hP⟩, hS.F ht⟩) hS.2.2 dX6_settle_120
  · have hF := ifF c32 hF
    refine lv_aload_n hx hb dX6_settle_90 rfl (lv_at hl 0 rfl) ?_
    refine va_get (D := D) (ci := 6) (v := .ref q_t_finals) (C := RX6) (T := TX6) (N := 8) hx hb hts i_X6_settle_X6 hown hE.1 hP 0 rfl rfl 5 (by decide) (hts (.fieldLink RX6 39 "NeedleHouse$Track" "finals" "[I") (by decide +kernel)) (fun _ h9 => h9) rfl dX6_settle_91 ?_
    refine lv_iload hx hb dX6_settle_94 (lv_at hl 3 rfl) ?_
    refine lv_aload_n hx hb dX6_settle_96 rfl (lv_at hl 0 rfl) ?_
    refine lv_aload_n hx hb dX6_settle_97 rfl (lv_at hl 0 rfl) ?_
    refine lv_iload hx hb dX6_settle_98 (lv_at hl 3 rfl) ?_
    obtain ⟨r33, h34, hF⟩ := ob1_ex hF
    refine xiR (va_runV (As := [.int x_4]) (rest := [.ref q_t, .int x_4, .ref q_t_finals]) ⟨hx, hb, hml, hown, hts⟩ (met_X6_joinedAt l D ct q_t q_t_row0 q_t_row1 q_t_measures q_t_pieces q_t_joins q_t_finals q_t_kept H.size t_settledNear t_joins x_4 n r33 h34) (cwV 1 hts gX6_settle_X6_joinedAt rfl rfl rfl (by decide +kernel) ⟨Nat.le_of_ble_eq_true rfl, Nat.le_of_ble_eq_true rfl⟩) ⟨blind_, va_recv hE.1 hP (ci := 6) (q0 := 0) rfl rfl, mkpre_ hE (hP.sub [0, 19] rfl) (hD.sub [0, 19] (by decide) rfl)⟩ rfl rfl hl.1 rfl (lv_room (Nat.le_of_ble_eq_true rfl)) dX6_settle_100 ⟨Nat.le_of_ble_eq_true rfl, Nat.le_of_ble_eq_true rfl⟩) hP hD hS hA [0, 19] rfl (fun H locs hP hD hS => ?_)
    refine lv_iload hx hb dX6_settle_103 (lv_at hl 3 rfl) ?_
    obtain ⟨r35, h36, hF⟩ := ob1_ex hF
    refine xiR (va_runV (As := [.int r33, .int x_4]) (rest := [.int x_4, .ref q_t_finals]) ⟨hx, hb, hml, hown, hts⟩ (met_X6_together l D ct q_t q_t_row0 q_t_row1 q_t_measures q_t_pieces q_t_joins q_t_finals q_t_kept q_t_pieces_times q_t_pieces_lows q_t_pieces_highs q_t_pieces_firsts q_t_pieces_lengths q_t_pieces_uppers q_t_pieces_lowers q_t_pieces_middles H.size t_settledNear t_pieces_points t_pieces_size t_pieces_leastUpper t_pieces_leastLower t_pieces_mostUpper t_pieces_mostLower t_pieces_firsts t_pieces_uppers t_pieces_lowers t_pieces_middles r33 x_4 n r35 h36) (cwV 2 hts gX6_settle_X6_together rfl rfl rfl (by decide +kernel) ⟨Nat.le_of_ble_eq_true rfl, Nat.le_of_ble_eq_true rfl⟩) ⟨blind_, va_recv hE.1 hP (ci := 6) (q0 := 0) rfl rfl, mkpre_ hE (hP.sub [0, 10, 14, 16, 17, 18] rfl) (hD.sub [0, 10, 14, 16, 17, 18] (by decide) rfl)⟩ rfl rfl hl.1 rfl (lv_room (Nat.le_of_ble_eq_true rfl)) dX6_settle_105 ⟨Nat.le_of_ble_eq_true rfl, Nat.le_of_ble_eq_true rfl⟩) hP hD hS hA [0, 10, 14, 16, 17, 18] rfl (fun H locs hP hD hS => ?_)
    obtain ⟨h37, hF⟩ := gd_ex hF
    obtain ⟨f38, ef38, hF⟩ := bn_ex hF
    refine va_iast hx hb hE.1 hP hD hS 20 0 rfl rfl h37 dX6_settle_108 (fun H locs hP hD hS => ?_)
    have hP : va_P D vwCl (W_24 ct q_t q_t_row0 q_t_row1 q_t_measures q_t_pieces q_t_joins q_t_finals q_t_kept q_t_row0_readings q_t_row1_readings q_t_measures_times q_t_measures_means q_t_measures_lefts q_t_measures_ends q_t_pieces_times q_t_pieces_lows q_t_pieces_highs q_t_pieces_firsts q_t_pieces_lengths q_t_pieces_uppers q_t_pieces_lowers q_t_pieces_middles t_settledNear t_row0_size t_row0_readings t_row1_size t_row1_readings t_measures_size t_measures_times t_measures_means t_measures_lefts t_measures_ends t_pieces_points t_pieces_size t_pieces_leastUpper t_pieces_leastLower t_pieces_mostUpper t_pieces_mostLower t_pieces_times t_pieces_lows t_pieces_highs t_pieces_firsts t_pieces_lengths t_pieces_uppers t_pieces_lowers t_pieces_middles t_joins f38) H := by rw [ef38]; exact hP
    have hD : va_D A (W_24 ct q_t q_t_row0 q_t_row1 q_t_measures q_t_pieces q_t_joins q_t_finals q_t_kept q_t_row0_readings q_t_row1_readings q_t_measures_times q_t_measures_means q_t_measures_lefts q_t_measures_ends q_t_pieces_times q_t_pieces_lows q_t_pieces_highs q_t_pieces_firsts q_t_pieces_lengths q_t_pieces_uppers q_t_pieces_lowers q_t_pieces_middles t_settledNear t_row0_size t_row0_readings t_row1_size t_row1_readings t_measures_size t_measures_times t_measures_means t_measures_lefts t_measures_ends t_pieces_points t_pieces_size t_pieces_leastUpper t_pieces_leastLower t_pieces_mostUpper t_pieces_mostLower t_pieces_times t_pieces_lows t_pieces_highs t_pieces_firsts t_pieces_lengths t_pieces_uppers t_pieces_lowers t_pieces_middles t_joins f38) := by rw [ef38]; exact hD
    obtain ⟨x39, ex39⟩ : ∃ y : Int32, y = x_4 + 1 := ⟨_, rfl⟩
    refine lv_iinc (v := x39) (lv' := [(4, .int x39), (0, .ref q_t), (1, .int x_1), (2, .int x_2)]) hx hb dX6_settle_109 hl (k := 3) rfl (by rw [ex39]; rfl) (by decide) rfl (fun ls hl => ?_)
    have hF := bn_as ex39 hF
    refine lv_goto (tgt := 84) hx hb dX6_settle_112 (by decide) ?_
    exact hk84 t_settledNear t_pieces_points t_pieces_size t_pieces_leastUpper t_pieces_leastLower t_pieces_mostUpper t_pieces_mostLower t_pieces_times t_pieces_lows t_pieces_highs t_pieces_firsts t_pieces_lengths t_pieces_uppers t_pieces_lowers t_pieces_middles t_joins f38 x_1 x_2 x39 _ _ _ hF hP hD hS (lv_sub hl [1, 2, 3, 0] rfl)
theorem lX6_settle_84 {p : Program} {l : Launch} {e : Env} {s : State} {m : MethodId} {args : Array Value} {below : List Frame} {meth : Method} {c : Code} {D : va_G} {ct : Nat → ClassId} {A : Nat → Prop} {q_t q_t_row0 q_t_row1 q_t_measures q_t_pieces q_t_joins q_t_finals q_t_kept q_t_row0_readings q_t_row1_readings q_t_measures_times q_t_measures_means q_t_measures_lefts q_t_measures_ends q_t_pieces_times q_t_pieces_lows q_t_pieces_highs q_t_pieces_firsts q_t_pieces_lengths q_t_pieces_uppers q_t_pieces_lowers q_t_pieces_middles : Nat} {t_row0_size : Int32} {t_row0_readings : Nat → Int32} {t_row1_size : Int32} {t_row1_readings : Nat → Int32} {t_measures_size : Int32} {t_measures_times : Nat → Int32} {t_measures_means : Nat → Int32} {t_measures_lefts : Nat → Int32} {t_measures_ends : Nat → Int32} {o_t_settledNear : Int32} {o_t_pieces_points : Int32} {o_t_pieces_size : Int32} {o_t_pieces_leastUpper : Int64} {o_t_pieces_leastLower : Int64} {o_t_pieces_mostUpper : Int64} {o_t_pieces_mostLower : Int64} {o_t_pieces_times : Nat → Int32} {o_t_pieces_lows : Nat → Int32} {o_t_pieces_highs : Nat → Int32} {o_t_pieces_firsts : Nat → Int32} {o_t_pieces_lengths : Nat → Int32} {o_t_pieces_uppers : Nat → Int32} {o_t_pieces_lowers : Nat → Int32} {o_t_pieces_middles : Nat → Int64} {o_t_joins : Nat → Int32} {o_t_finals : Nat → Int32} (C0 : Cx RX6 cX6_settle 5 none wsX6_settle D ct A p s m args meth c) : ∀ (n : Nat) (t_settledNear : Int32) (t_pieces_points : Int32) (t_pieces_size : Int32) (t_pieces_leastUpper : Int64) (t_pieces_leastLower : Int64) (t_pieces_mostUpper : Int64) (t_pieces_mostLower : Int64) (t_pieces_times : Nat → Int32) (t_pieces_lows : Nat → Int32) (t_pieces_highs : Nat → Int32) (t_pieces_firsts : Nat → Int32) (t_pieces_lengths : Nat → Int32) (t_pieces_uppers : Nat → Int32) (t_pieces_lowers : Nat → Int32) (t_pieces_middles : Nat → Int64) (t_joins : Nat → Int32) (t_finals : Nat → Int32) (x_1 : Int32) (x_2 : Int32) (x_4 : Int32) (H : Heap) (locs : List Loc) (ls : Array Slot), LX6_settle_84 n t_settledNear t_row0_size t_row0_readings t_row1_size t_row1_readings t_measures_size t_measures_times t_measures_means t_measures_lefts t_measures_ends t_pieces_points t_pieces_size t_pieces_leastUpper t_pieces_leastLower t_pieces_mostUpper t_pieces_mostLower t_pieces_times t_pieces_lows t_pieces_highs t_pieces_firsts t_pieces_lengths t_pieces_uppers t_pieces_lowers t_pieces_middles t_joins t_finals x_1 x_2 x_4 = some (o_t_settledNear, o_t_pieces_points, o_t_pieces_size, o_t_pieces_leastUpper, o_t_pieces_leastLower, o_t_pieces_mostUpper, o_t_pieces_mostLower, o_t_pieces_times, o_t_pieces_lows, o_t_pieces_highs, o_t_pieces_firsts, o_t_pieces_lengths, o_t_pieces_uppers, o_t_pieces_lowers, o_t_pieces_middles, o_t_joins, o_t_finals) → va_P D vwCl (W_24 ct q_t q_t_row0 q_t_row1 q_t_measures q_t_pieces q_t_joins q_t_finals q_t_kept q_t_row0_readings q_t_row1_readings q_t_measures_times q_t_measures_means q_t_measures_lefts q_t_measures_ends q_t_pieces_times q_t_pieces_lows q_t_pieces_highs q_t_pieces_firsts q_t_pieces_lengths q_t_pieces_uppers q_t_pieces_lowers q_t_pieces_middles t_settledNear t_row0_size t_row0_readings t_row1_size t_row1_readings t_measures_size t_measures_times t_measures_means t_measures_lefts t_measures_ends t_pieces_points t_pieces_size t_pieces_leastUpper t_pieces_leastLower t_pieces_mostUpper t_pieces_mostLower t_pieces_times t_pieces_lows t_pieces_highs t_pieces_firsts t_pieces_lengths t_pieces_uppers t_pieces_lowers t_pieces_middles t_joins t_finals) H → va_D A (W_24 ct q_t q_t_row0 q_t_row1 q_t_measures q_t_pieces q_t_joins q_t_finals q_t_kept q_t_row0_readings q_t_row1_readings q_t_measures_times q_t_measures_means q_t_measures_lefts q_t_measures_ends q_t_pieces_times q_t_pieces_lows q_t_pieces_highs q_t_pieces_firsts q_t_pieces_lengths q_t_pieces_uppers q_t_pieces_lowers q_t_pieces_middles t_settledNear t_row0_size t_row0_readings t_row1_size t_row1_readings t_measures_size t_measures_times t_measures_means t_measures_lefts t_measures_ends t_pieces_points t_pieces_size t_pieces_leastUpper t_pieces_leastLower t_pieces_mostUpper t_pieces_mostLower t_pieces_times t_pieces_lows t_pieces_highs t_pieces_firsts t_pieces_lengths t_pieces_uppers t_pieces_lowers t_pieces_middles t_joins t_finals) → va_S A s.heap H locs → lv_has ls 5 [(0, .ref q_t), (1, .int x_1), (2, .int x_2), (4, .int x_4)] → W p l e ({ frames := 4, cells := 0, slots := 0, locals := 100 } : Room) s m args below meth c H locs 0 0 (MQ below (va_Qv (fun (_ : Unit) => True) (fun _ t => va_P D vwCl (W_24 ct q_t q_t_row0 q_t_row1 q_t_measures q_t_pieces q_t_joins q_t_finals q_t_kept q_t_row0_readings q_t_row1_readings q_t_measures_times q_t_measures_means q_t_measures_lefts q_t_measures_ends q_t_pieces_times q_t_pieces_lows q_t_pieces_highs q_t_pieces_firsts q_t_pieces_lengths q_t_pieces_uppers q_t_pieces_lowers q_t_pieces_middles o_t_settledNear t_row0_size t_row0_readings t_row1_size t_row1_readings t_measures_size t_measures_times t_measures_means t_measures_lefts t_measures_ends o_t_pieces_points o_t_pieces_size o_t_pieces_leastUpper o_t_pieces_leastLower o_t_pieces_mostUpper o_t_pieces_mostLower o_t_pieces_times o_t_pieces_lows o_t_pieces_highs o_t_pieces_firsts o_t_pieces_lengths o_t_pieces_uppers o_t_pieces_lowers o_t_pieces_middles o_t_joins o_t_finals) t.heap) A) args s 0 0 A) (F0 m 84 ls []) := by
  intro n
  induction n with
  | zero => intro t_settledNear t_pieces_points t_pieces_size t_pieces_leastUpper t_pieces_leastLower t_pieces_mostUpper t_pieces_mostLower t_pieces_times t_pieces_lows t_pieces_highs t_pieces_firsts t_pieces_lengths t_pieces_uppers t_pieces_lowers t_pieces_middles t_joins t_finals x_1 x_2 x_4 H locs ls hF; exact nomatch (show (none : Option (Int32 × Int32 × Int32 × Int64 × Int64 × Int64 × Int64 × (Nat → Int32) × (Nat → Int32) × (Nat → Int32) × (Nat → Int32) × (Nat → Int32) × (Nat → Int32) × (Nat → Int32) × (Nat → Int64) × (Nat → Int32) × (Nat → Int32))) = _ from hF)
  | succ n ih => intro t_settledNear t_pieces_points t_pieces_size t_pieces_leastUpper t_pieces_leastLower t_pieces_mostUpper t_pieces_mostLower t_pieces_times t_pieces_lows t_pieces_highs t_pieces_firsts t_pieces_lengths t_pieces_uppers t_pieces_lowers t_pieces_middles t_joins t_finals x_1 x_2 x_4 H locs ls hF; exact jX6_settle_84 C0 (LX6_settle_84 n) ih n t_settledNear t_pieces_points t_pieces_size t_pieces_leastUpper t_pieces_leastLower t_pieces_mostUpper t_pieces_mostLower t_pieces_times t_pieces_lows t_pieces_highs t_pieces_firsts t_pieces_lengths t_pieces_uppers t_pieces_lowers t_pieces_middles t_joins t_finals x_1 x_2 x_4 H locs ls hF
set_option maxHeartbeats 4000000 in
set_option maxRecDepth 100000 in
theorem jX6_settle_26 {p : Program} {l : Launch} {e : Env} {s : State} {m : MethodId} {args : Array Value} {below : List Frame} {meth : Method} {c : Code} {D : va_G} {ct : Nat → ClassId} {A : Nat → Prop} {q_t q_t_row0 q_t_row1 q_t_measures q_t_pieces q_t_joins q_t_finals q_t_kept q_t_row0_readings q_t_row1_readings q_t_measures_times q_t_measures_means q_t_measures_lefts q_t_measures_ends q_t_pieces_times q_t_pieces_lows q_t_pieces_highs q_t_pieces_firsts q_t_pieces_lengths q_t_pieces_uppers q_t_pieces_lowers q_t_pieces_middles : Nat} {t_row0_size : Int32} {t_row0_readings : Nat → Int32} {t_row1_size : Int32} {t_row1_readings : Nat → Int32} {t_measures_size : Int32} {t_measures_times : Nat → Int32} {t_measures_means : Nat → Int32} {t_measures_lefts : Nat → Int32} {t_measures_ends : Nat → Int32} {o_t_settledNear : Int32} {o_t_pieces_points : Int32} {o_t_pieces_size : Int32} {o_t_pieces_leastUpper : Int64} {o_t_pieces_leastLower : Int64} {o_t_pieces_mostUpper : Int64} {o_t_pieces_mostLower : Int64} {o_t_pieces_times : Nat → Int32} {o_t_pieces_lows : Nat → Int32} {o_t_pieces_highs : Nat → Int32} {o_t_pieces_firsts : Nat → Int32} {o_t_pieces_lengths : Nat → Int32} {o_t_pieces_uppers : Nat → Int32} {o_t_pieces_lowers : Nat → Int32} {o_t_pieces_middles : Nat → Int64} {o_t_joins : Nat → Int32} {o_t_finals : Nat → Int32} (C0 : Cx RX6 cX6_settle 5 none wsX6_settle D ct A p s m args meth c) (k26 : Int32 → Int32 → (Nat → Int32) → Int32 → (Nat → Int32) → Int32 → (Nat → Int32) → (Nat → Int32) → (Nat → Int32) → (Nat → Int32) → Int32 → Int32 → Int64 → Int64 → Int64 → Int64 → (Nat → Int32) → (Nat → Int32) → (Nat → Int32) → (Nat → Int32) → (Nat → Int32) → (Nat → Int32) → (Nat → Int32) → (Nat → Int64) → (Nat → Int32) → (Nat → Int32) → Int32 → Int32 → Int32 → Int32 → Option (Int32 × Int32 × Int32 × Int64 × Int64 × Int64 × Int64 × (Nat → Int32) × (Nat → Int32) × (Nat → Int32) × (Nat → Int32) × (Nat → Int32) × (Nat → Int32) × (Nat → Int32) × (Nat → Int64) × (Nat → Int32) × (Nat → Int32))) (hk26 : ∀ (t_settledNear : Int32) (t_pieces_points : Int32) (t_pieces_size : Int32) (t_pieces_leastUpper : Int64) (t_pieces_leastLower : Int64) (t_pieces_mostUpper : Int64) (t_pieces_mostLower : Int64) (t_pieces_times : Nat → Int32) (t_pieces_lows : Nat → Int32) (t_pieces_highs : Nat → Int32) (t_pieces_firsts : Nat → Int32) (t_pieces_lengths : Nat → Int32) (t_pieces_uppers : Nat → Int32) (t_pieces_lowers : Nat → Int32) (t_pieces_middles : Nat → Int64) (t_joins : Nat → Int32) (t_finals : Nat → Int32) (x_1 : Int32) (x_2 : Int32) (x_3 : Int32) (x_4 : Int32) (H : Heap) (locs : List Loc) (ls : Array Slot), k26 t_settledNear t_row0_size t_row0_readings t_row1_size t_row1_readings t_measures_size t_measures_times t_measures_means t_measures_lefts t_measures_ends t_pieces_points t_pieces_size t_pieces_leastUpper t_pieces_leastLower t_pieces_mostUpper t_pieces_mostLower t_pieces_times t_pieces_lows t_pieces_highs t_pieces_firsts t_pieces_lengths t_pieces_uppers t_pieces_lowers t_pieces_middles t_joins t_finals x_1 x_2 x_3 x_4 = some (o_t_settledNear, o_t_pieces_points, o_t_pieces_size, o_t_pieces_leastUpper, o_t_pieces_leastLower, o_t_pieces_mostUpper, o_t_pieces_mostLower, o_t_pieces_times, o_t_pieces_lows, o_t_pieces_highs, o_t_pieces_firsts, o_t_pieces_lengths, o_t_pieces_uppers, o_t_pieces_lowers, o_t_pieces_middles, o_t_joins, o_t_finals) → va_P D vwCl (W_24 ct q_t q_t_row0 q_t_row1 q_t_measures q_t_pieces q_t_joins q_t_finals q_t_kept q_t_row0_readings q_t_row1_readings q_t_measures_times q_t_measures_means q_t_measures_lefts q_t_measures_ends q_t_pieces_times q_t_pieces_lows q_t_pieces_highs q_t_pieces_firsts q_t_pieces_lengths q_t_pieces_uppers q_t_pieces_lowers q_t_pieces_middles t_settledNear t_row0_size t_row0_readings t_row1_size t_row1_readings t_measures_size t_measures_times t_measures_means t_measures_lefts t_measures_ends t_pieces_points t_pieces_size t_pieces_leastUpper t_pieces_leastLower t_pieces_mostUpper t_pieces_mostLower t_pieces_times t_pieces_lows t_pieces_highs t_pieces_firsts t_pieces_lengths t_pieces_uppers t_pieces_lowers t_pieces_middles t_joins t_finals) H → va_D A (W_24 ct q_t q_t_row0 q_t_row1 q_t_measures q_t_pieces q_t_joins q_t_finals q_t_kept q_t_row0_readings q_t_row1_readings q_t_measures_times q_t_measures_means q_t_measures_lefts q_t_measures_ends q_t_pieces_times q_t_pieces_lows q_t_pieces_highs q_t_pieces_firsts q_t_pieces_lengths q_t_pieces_uppers q_t_pieces_lowers q_t_pieces_middles t_settledNear t_row0_size t_row0_readings t_row1_size t_row1_readings t_measures_size t_measures_times t_measures_means t_measures_lefts t_measures_ends t_pieces_points t_pieces_size t_pieces_leastUpper t_pieces_leastLower t_pieces_mostUpper t_pieces_mostLower t_pieces_times t_pieces_lows t_pieces_highs t_pieces_firsts t_pieces_lengths t_pieces_uppers t_pieces_lowers t_pieces_middles t_joins t_finals) → va_S A s.heap H locs → lv_has ls 5 [(0, .ref q_t), (1, .int x_1), (2, .int x_2), (3, .int x_3), (4, .int x_4)] → W p l e ({ frames := 4, cells := 0, slots := 0, locals := 100 } : Room) s m args below meth c H locs 0 0 (MQ below (va_Qv (fun (_ : Unit) => True) (fun _ t => va_P D vwCl (W_24 ct q_t q_t_row0 q_t_row1 q_t_measures q_t_pieces q_t_joins q_t_finals q_t_kept q_t_row0_readings q_t_row1_readings q_t_measures_times q_t_measures_means q_t_measures_lefts q_t_measures_ends q_t_pieces_times q_t_pieces_lows q_t_pieces_highs q_t_pieces_firsts q_t_pieces_lengths q_t_pieces_uppers q_t_pieces_lowers q_t_pieces_middles o_t_settledNear t_row0_size t_row0_readings t_row1_size t_row1_readings t_measures_size t_measures_times t_measures_means t_measures_lefts t_measures_ends o_t_pieces_points o_t_pieces_size o_t_pieces_leastUpper o_t_pieces_leastLower o_t_pieces_mostUpper o_t_pieces_mostLower o_t_pieces_times o_t_pieces_lows o_t_pieces_highs o_t_pieces_firsts o_t_pieces_lengths o_t_pieces_uppers o_t_pieces_lowers o_t_pieces_middles o_t_joins o_t_finals) t.heap) A) args s 0 0 A) (F0 m 26 ls [])) (n : Nat) (t_settledNear : Int32) (t_pieces_points : Int32) (t_pieces_size : Int32) (t_pieces_leastUpper : Int64) (t_pieces_leastLower : Int64) (t_pieces_mostUpper : Int64) (t_pieces_mostLower : Int64) (t_pieces_times : Nat → Int32) (t_pieces_lows : Nat → Int32) (t_pieces_highs : Nat → Int32) (t_pieces_firsts : Nat → Int32) (t_pieces_lengths : Nat → Int32) (t_pieces_uppers : Nat → Int32) (t_pieces_lowers : Nat → Int32) (t_pieces_middles : Nat → Int64) (t_joins : Nat → Int32) (t_finals : Nat → Int32) (x_1 : Int32) (x_2 : Int32) (x_3 : Int32) (x_4 : Int32) (H : Heap) (locs : List Loc) (ls : Array Slot) : JX6_settle_26 k26 n t_settledNear t_row0_size t_row0_readings t_row1_size t_row1_readings t_measures_size t_measures_times t_measures_means t_measures_lefts t_measures_ends t_pieces_points t_pieces_size t_pieces_leastUpper t_pieces_leastLower t_pieces_mostUpper t_pieces_mostLower t_pieces_times t_pieces_lows t_pieces_highs t_pieces_firsts t_pieces_lengths t_pieces_uppers t_pieces_lowers t_pieces_middles t_joins t_finals x_1 x_2 x_3 x_4 = some (o_t_settledNear, o_t_pieces_points, o_t_pieces_size, o_t_pieces_leastUpper, o_t_pieces_leastLower, o_t_pieces_mostUpper, o_t_pieces_mostLower, o_t_pieces_times, o_t_pieces_lows, o_t_pieces_highs, o_t_pieces_firsts, o_t_pieces_lengths, o_t_pieces_uppers, o_t_pieces_lowers, o_t_pieces_middles, o_t_joins, o_t_finals) → va_P D vwCl (W_24 ct q_t q_t_row0 q_t_row1 q_t_measures q_t_pieces q_t_joins q_t_finals q_t_kept q_t_row0_readings q_t_row1_readings q_t_measures_times q_t_measures_means q_t_measures_lefts q_t_measures_ends q_t_pieces_times q_t_pieces_lows q_t_pieces_highs q_t_pieces_firsts q_t_pieces_lengths q_t_pieces_uppers q_t_pieces_lowers q_t_pieces_middles t_settledNear t_row0_size t_row0_readings t_row1_size t_row1_readings t_measures_size t_measures_times t_measures_means t_measures_lefts t_measures_ends t_pieces_points t_pieces_size t_pieces_leastUpper t_pieces_leastLower t_pieces_mostUpper t_pieces_mostLower t_pieces_times t_pieces_lows t_pieces_highs t_pieces_firsts t_pieces_lengths t_pieces_uppers t_pieces_lowers t_pieces_middles t_joins t_finals) H → va_D A (W_24 ct q_t q_t_row0 q_t_row1 q_t_measures q_t_pieces q_t_joins q_t_finals q_t_kept q_t_row0_readings q_t_row1_readings q_t_measures_times q_t_measures_means q_t_measures_lefts q_t_measures_ends q_t_pieces_times q_t_pieces_lows q_t_pieces_highs q_t_pieces_firsts q_t_pieces_lengths q_t_pieces_uppers q_t_pieces_lowers q_t_pieces_middles t_settledNear t_row0_size t_row0_readings t_row1_size t_row1_readings t_measures_size t_measures_times t_measures_means t_measures_lefts t_measures_ends t_pieces_points t_pieces_size t_pieces_leastUpper t_pieces_leastLower t_pieces_mostUpper t_pieces_mostLower t_pieces_times t_pieces_lows t_pieces_highs t_pieces_firsts t_pieces_lengths t_pieces_uppers t_pieces_lowers t_pieces_middles t_joins t_finals) → va_S A s.heap H locs → lv_has ls 5 [(0, .ref q_t), (1, .int x_1), (2, .int x_2), (3, .int x_3), (4, .int x_4)] → W p l e ({ frames := 4, cells := 0, slots := 0, locals := 100 } : Room) s m args below meth c H locs 0 0 (MQ below (va_Qv (fun (_ : Unit) => True) (fun _ t => va_P D vwCl (W_24 ct q_t q_t_row0 q_t_row1 q_t_measures q_t_pieces q_t_joins q_t_finals q_t_kept q_t_row0_readings q_t_row1_readings q_t_measures_times q_t_measures_means q_t_measures_lefts q_t_measures_ends q_t_pieces_times q_t_pieces_lows q_t_pieces_highs q_t_pieces_firsts q_t_pieces_lengths q_t_pieces_uppers q_t_pieces_lowers q_t_pieces_middles o_t_settledNear t_row0_size t_row0_readings t_row1_size t_row1_readings t_measures_size t_measures_times t_measures_means t_measures_lefts t_measures_ends o_t_pieces_points o_t_pieces_size o_t_pieces_leastUpper o_t_pieces_leastLower o_t_pieces_mostUpper o_t_pieces_mostLower o_t_pieces_times o_t_pieces_lows o_t_pieces_highs o_t_pieces_firsts o_t_pieces_lengths o_t_pieces_uppers o_t_pieces_lowers o_t_pieces_middles o_t_joins o_t_finals) t.heap) A) args s 0 0 A) (F0 m 26 ls []) := by
  intro hF hP hD hS hl
  obtain ⟨hx, hb, hml, hown, hts, hr, hlocks, hE, hA⟩ := id C0
  unfold JX6_settle_26 at hF
  refine lv_iload hx hb dX6_settle_26 (lv_at hl 4 rfl) ?_
  refine lv_iload_n hx hb dX6_settle_28 rfl (lv_at hl 2 rfl) ?_
  refine lv_icmp_ge (tgt := 70) hx hb dX6_settle_29 (by decide) (fun c5 => ?_) (fun c5 => ?_)
  · have hF := ifT c5 hF
    refine lv_aload_n hx hb dX6_settle_70 rfl (lv_at hl 0 rfl) ?_
    obtain ⟨v6, v7, f8, f9, f10, h11, hF⟩ := ob5_ex hF
    refine xvM (ws1 := (W_24 ct q_t q_t_row0 q_t_row1 q_t_measures q_t_pieces q_t_joins q_t_finals q_t_kept q_t_row0_readings q_t_row1_readings q_t_measures_times q_t_measures_means q_t_measures_lefts q_t_measures_ends q_t_pieces_times q_t_pieces_lows q_t_pieces_highs q_t_pieces_firsts q_t_pieces_lengths q_t_pieces_uppers q_t_pieces_lowers q_t_pieces_middles t_settledNear t_row0_size t_row0_readings t_row1_size t_row1_readings t_measures_size t_measures_times t_measures_means t_measures_lefts t_measures_ends v6 v7 t_pieces_leastUpper t_pieces_leastLower t_pieces_mostUpper t_pieces_mostLower f8 f9 f10 t_pieces_firsts t_pieces_lengths t_pieces_uppers t_pieces_lowers t_pieces_middles t_joins t_finals)) (va_runV (As := []) (rest := []) ⟨hx, hb, hml, hown, hts⟩ (met_X6_takePoints l D ct q_t q_t_row0 q_t_row1 q_t_measures q_t_pieces q_t_joins q_t_finals q_t_kept q_t_measures_times q_t_measures_means q_t_measures_lefts q_t_measures_ends q_t_pieces_times q_t_pieces_lows q_t_pieces_highs q_t_pieces_firsts q_t_pieces_lengths q_t_pieces_uppers q_t_pieces_lowers q_t_pieces_middles H.size t_settledNear t_measures_size t_measures_times t_measures_means t_measures_lefts t_measures_ends t_pieces_points t_pieces_size t_pieces_leastUpper t_pieces_leastLower t_pieces_mostUpper t_pieces_mostLower t_pieces_times t_pieces_lows t_pieces_highs t_joins n v6 v7 f8 f9 f10 h11) (cwV 0 hts gX6_settle_X6_takePoints rfl rfl rfl (by decide +kernel) ⟨Nat.le_of_ble_eq_true rfl, Nat.le_of_ble_eq_true rfl⟩) ⟨blind_, va_recv hE.1 hP (ci := 6) (q0 := 0) rfl rfl, mkpre_ hE (hP.sub [0, 5, 6, 7, 8, 9, 10, 11, 12, 13, 19] rfl) (hD.sub [0, 5, 6, 7, 8, 9, 10, 11, 12, 13, 19] (by decide) rfl)⟩ rfl rfl hl.1 rfl (lv_room (Nat.le_of_ble_eq_true rfl)) dX6_settle_71 ⟨Nat.le_of_ble_eq_true rfl, Nat.le_of_ble_eq_true rfl⟩) hP hD hS hA [0, 5, 6, 7, 8, 9, 10, 11, 12, 13, 19] [1, 2, 3, 4, 14, 15, 16, 17, 18, 20] 21 rfl rfl rfl rfl (by decide) rfl (fun H locs hP hD hS => ?_)
    refine lv_aload_n hx hb dX6_settle_74 rfl (lv_at hl 0 rfl) ?_
    refine va_get (D := D) (ci := 6) (v := .ref q_t_pieces) (C := RX6) (T := TX6) (N := 8) hx hb hts i_X6_settle_X6 hown hE.1 hP 0 rfl rfl 3 (by decide) (hts (.fieldLink RX6 31 "NeedleHouse$Track" "pieces" "LNeedleHouse$Pieces;") (by decide +kernel)) (fun _ h9 => h9) rfl dX6_settle_75 ?_
    obtain ⟨v12, v13, v14, v15, v16, f17, f18, f19, f20, f21, h22, hF⟩ := ob10_ex hF
    refine xvM (ws1 := (W_24 ct q_t q_t_row0 q_t_row1 q_t_measures q_t_pieces q_t_joins q_t_finals q_t_kept q_t_row0_readings q_t_row1_readings q_t_measures_times q_t_measures_means q_t_measures_lefts q_t_measures_ends q_t_pieces_times q_t_pieces_lows q_t_pieces_highs q_t_pieces_firsts q_t_pieces_lengths q_t_pieces_uppers q_t_pieces_lowers q_t_pieces_middles t_settledNear t_row0_size t_row0_readings t_row1_size t_row1_readings t_measures_size t_measures_times t_measures_means t_measures_lefts t_measures_ends v6 v12 v13 v14 v15 v16 f8 f9 f10 f17 f18 f19 f20 f21 t_joins t_finals)) (va_runV (As := []) (rest := []) ⟨hx, hb, hml, hown, hts⟩ (met_X1_lay l D ct q_t_pieces q_t_pieces_times q_t_pieces_lows q_t_pieces_highs q_t_pieces_firsts q_t_pieces_lengths q_t_pieces_uppers q_t_pieces_lowers q_t_pieces_middles H.size v6 v7 t_pieces_leastUpper t_pieces_leastLower t_pieces_mostUpper t_pieces_mostLower f8 f9 f10 t_pieces_firsts t_pieces_lengths t_pieces_uppers t_pieces_lowers t_pieces_middles n v12 v13 v14 v15 v16 f17 f18 f19 f20 f21 h22) (cwV 0 hts gX6_settle_X1_lay rfl rfl rfl (by decide +kernel) ⟨Nat.le_of_ble_eq_true rfl, Nat.le_of_ble_eq_true rfl⟩) ⟨blind_, va_recv hE.1 hP (ci := 1) (q0 := 10) rfl rfl, mkpre_ hE (hP.sub [10, 11, 12, 13, 14, 15, 16, 17, 18] rfl) (hD.sub [10, 11, 12, 13, 14, 15, 16, 17, 18] (by decide) rfl)⟩ rfl rfl hl.1 rfl (lv_room (Nat.le_of_ble_eq_true rfl)) dX6_settle_78 ⟨Nat.le_of_ble_eq_true rfl, Nat.le_of_ble_eq_true rfl⟩) hP hD hS hA [10, 11, 12, 13, 14, 15, 16, 17, 18] [0, 1, 2, 3, 4, 5, 6, 7, 8, 9, 19, 20] 21 rfl rfl rfl rfl (by decide) rfl (fun H locs hP hD hS => ?_)
    refine lv_iconst (v := 0) hx hb dX6_settle_81 (by decide) ?_
    refine lv_istore (lv' := [(4, .int 0), (0, .ref q_t), (1, .int x_1), (2, .int x_2), (3, .int x_3)]) hx hb dX6_settle_82 hl (by decide) rfl (fun ls hl => ?_)
    exact lX6_settle_84 C0 n t_settledNear v6 v12 v13 v14 v15 v16 f8 f9 f10 f17 f18 f19 f20 f21 t_joins t_finals x_1 x_2 0 _ _ _ hF hP hD hS (lv_sub hl [1, 2, 3, 0] rfl)
  · have hF := ifF c5 hF
    refine lv_aload_n hx hb dX6_settle_32 rfl (lv_at hl 0 rfl) ?_
    refine va_get (D := D) (ci := 6) (v := .ref q_t_row0) (C := RX6) (T := TX6) (N := 8) hx hb hts i_X6_settle_X6 hown hE.1 hP 0 rfl rfl 0 (by decide) (hts (.fieldLink RX6 12 "NeedleHouse$Track" "row0" "LNeedleHouse$Row;") (by decide +kernel)) (fun _ h9 => h9) rfl dX6_settle_33 ?_
    refine lv_iload hx hb dX6_settle_36 (lv_at hl 4 rfl) ?_
    obtain ⟨r23, h24, hF⟩ := ob1_ex hF
    refine xiR (va_runV (As := [.int x_4]) (rest := []) ⟨hx, hb, hml, hown, hts⟩ (met_X2_reading l D ct q_t_row0 q_t_row0_readings H.size t_row0_size t_row0_readings x_4 n r23 h24) (cwV 1 hts gX6_settle_X2_reading rfl rfl rfl (by decide +kernel) ⟨Nat.le_of_ble_eq_true rfl, Nat.le_of_ble_eq_true rfl⟩) ⟨blind_, va_recv hE.1 hP (ci := 2) (q0 := 1) rfl rfl, mkpre_ hE (hP.sub [1, 2] rfl) (hD.sub [1, 2] (by decide) rfl)⟩ rfl rfl hl.1 rfl (lv_room (Nat.le_of_ble_eq_true rfl)) dX6_settle_38 ⟨Nat.le_of_ble_eq_true rfl, Nat.le_of_ble_eq_true rfl⟩) hP hD hS hA [1, 2] rfl (fun H locs hP hD hS => ?_)
    refine lv_aload_n hx hb dX6_settle_41 rfl (lv_at hl 0 rfl) ?_
    refine va_get (D := D) (ci := 6) (v := .ref q_t_row1) (C := RX6) (T := TX6) (N := 8) hx hb hts i_X6_settle_X6 hown hE.1 hP 0 rfl rfl 1 (by decide) (hts (.fieldLink RX6 18 "NeedleHouse$Track" "row1" "LNeedleHouse$Row;") (by decide +kernel)) (fun _ h9 => h9) rfl dX6_settle_42 ?_
    refine lv_iload hx hb dX6_settle_45 (lv_at hl 4 rfl) ?_
    obtain ⟨r25, h26, hF⟩ := ob1_ex hF
    refine xiR (va_runV (As := [.int x_4]) (rest := [.int r23]) ⟨hx, hb, hml, hown, hts⟩ (met_X2_reading l D ct q_t_row1 q_t_row1_readings H.size t_row1_size t_row1_readings x_4 n r25 h26) (cwV 1 hts gX6_settle_X2_reading rfl rfl rfl (by decide +kernel) ⟨Nat.le_of_ble_eq_true rfl, Nat.le_of_ble_eq_true rfl⟩) ⟨blind_, va_recv hE.1 hP (ci := 2) (q0 := 3) rfl rfl, mkpre_ hE (hP.sub [3, 4] rfl) (hD.sub [3, 4] (by decide) rfl)⟩ rfl rfl hl.1 rfl (lv_room (Nat.le_of_ble_eq_true rfl)) dX6_settle_47 ⟨Nat.le_of_ble_eq_true rfl, Nat.le_of_ble_eq_true rfl⟩) hP hD hS hA [3, 4] rfl (fun H locs hP hD hS => ?_)
    refine lv_iload_n hx hb dX6_settle_50 rfl (lv_at hl 3 rfl) ?_
    refine lv_iload_n hx hb dX6_settle_51 rfl (lv_at hl 1 rfl) ?_
    obtain ⟨r27, h28, hF⟩ := ob1_ex hF
    refine xiR (va_runS (As := [.int r23, .int r25, .int x_3, .int x_1]) (rest := []) ⟨hx, hb, hml, hown, hts⟩ (met_X6_join l D ct H.size r23 r25 x_3 x_1 n r27 h28) (va_cwS 4 hts gX6_settle_X6_join rfl rfl rfl (by decide +kernel) ⟨Nat.le_of_ble_eq_true rfl, Nat.le_of_ble_eq_true rfl⟩) ⟨blind_, mkpre_ hE (hP.sub [] rfl) (hD.sub [] (by decide) rfl)⟩ rfl rfl hl.1 rfl (lv_room (Nat.le_of_ble_eq_true rfl)) dX6_settle_52 ⟨Nat.le_of_ble_eq_true rfl, Nat.le_of_ble_eq_true rfl⟩) hP hD hS hA [] rfl (fun H locs hP hD hS => ?_)
    refine lv_istore_n (lv' := [(3, .int r27), (0, .ref q_t), (1, .int x_1), (2, .int x_2), (4, .int x_4)]) hx hb dX6_settle_55 rfl hl (by decide) rfl (fun ls hl => ?_)
    refine lv_aload_n hx hb dX6_settle_56 rfl (lv_at hl 1 rfl) ?_
    refine va_get (D := D) (ci := 6) (v := .ref q_t_joins) (C := RX6) (T := TX6) (N := 8) hx hb hts i_X6_settle_X6 hown hE.1 hP 0 rfl rfl 4 (by decide) (hts (.fieldLink RX6 35 "NeedleHouse$Track" "joins" "[I") (by decide +kernel)) (fun _ h9 => h9) rfl dX6_settle_57 ?_
    refine lv_iload hx hb dX6_settle_60 (lv_at hl 4 rfl) ?_
    refine lv_iload_n hx hb dX6_settle_62 rfl (lv_at hl 0 rfl) ?_
    obtain ⟨h29, hF⟩ := gd_ex hF
    obtain ⟨f30, ef30, hF⟩ := bn_ex hF
    refine va_iast hx hb hE.1 hP hD hS 19 0 rfl rfl h29 dX6_settle_63 (fun H locs hP hD hS => ?_)
    have hP : va_P D vwCl (W_24 ct q_t q_t_row0 q_t_row1 q_t_measures q_t_pieces q_t_joins q_t_finals q_t_kept q_t_row0_readings q_t_row1_readings q_t_measures_times q_t_measures_means q_t_measures_lefts q_t_measures_ends q_t_pieces_times q_t_pieces_lows q_t_pieces_highs q_t_pieces_firsts q_t_pieces_lengths q_t_pieces_uppers q_t_pieces_lowers q_t_pieces_middles t_settledNear t_row0_size t_row0_readings t_row1_size t_row1_readings t_measures_size t_measures_times t_measures_means t_measures_lefts t_measures_ends t_pieces_points t_pieces_size t_pieces_leastUpper t_pieces_leastLower t_pieces_mostUpper t_pieces_mostLower t_pieces_times t_pieces_lows t_pieces_highs t_pieces_firsts t_pieces_lengths t_pieces_uppers t_pieces_lowers t_pieces_middles f30 t_finals) H := by rw [ef30]; exact hP
    have hD : va_D A (W_24 ct q_t q_t_row0 q_t_row1 q_t_measures q_t_pieces q_t_joins q_t_finals q_t_kept q_t_row0_readings q_t_row1_readings q_t_measures_times q_t_measures_means q_t_measures_lefts q_t_measures_ends q_t_pieces_times q_t_pieces_lows q_t_pieces_highs q_t_pieces_firsts q_t_pieces_lengths q_t_pieces_uppers q_t_pieces_lowers q_t_pieces_middles t_settledNear t_row0_size t_row0_readings t_row1_size t_row1_readings t_measures_size t_measures_times t_measures_means t_measures_lefts t_measures_ends t_pieces_points t_pieces_size t_pieces_leastUpper t_pieces_leastLower t_pieces_mostUpper t_pieces_mostLower t_pieces_times t_pieces_lows t_pieces_highs t_pieces_firsts t_pieces_lengths t_pieces_uppers t_pieces_lowers t_pieces_middles f30 t_finals) := by rw [ef30]; exact hD
    obtain ⟨x31, ex31⟩ : ∃ y : Int32, y = x_4 + 1 := ⟨_, rfl⟩
    refine lv_iinc (v := x31) (lv' := [(4, .int x31), (3, .int r27), (0, .ref q_t), (1, .int x_1), (2, .int x_2)]) hx hb dX6_settle_64 hl (k := 4) rfl (by rw [ex31]; rfl) (by decide) rfl (fun ls hl => ?_)
    have hF := bn_as ex31 hF
    refine lv_goto (tgt := 26) hx hb dX6_settle_67 (by decide) ?_
    exact hk26 t_settledNear t_pieces_points t_pieces_size t_pieces_leastUpper t_pieces_leastLower t_pieces_mostUpper t_pieces_mostLower t_pieces_times t_pieces_lows t_pieces_highs t_pieces_firsts t_pieces_lengths t_pieces_uppers t_pieces_lowers t_pieces_middles f30 t_finals x_1 x_2 r27 x31 _ _ _ hF hP hD hS (lv_sub hl [2, 3, 4, 1, 0] rfl)
theorem lX6_settle_26 {p : Program} {l : Launch} {e : Env} {s : State} {m : MethodId} {args : Array Value} {below : List Frame} {meth : Method} {c : Code} {D : va_G} {ct : Nat → ClassId} {A : Nat → Prop} {q_t q_t_row0 q_t_row1 q_t_measures q_t_pieces q_t_joins q_t_finals q_t_kept q_t_row0_readings q_t_row1_readings q_t_measures_times q_t_measures_means q_t_measures_lefts q_t_measures_ends q_t_pieces_times q_t_pieces_lows q_t_pieces_highs q_t_pieces_firsts q_t_pieces_lengths q_t_pieces_uppers q_t_pieces_lowers q_t_pieces_middles : Nat} {t_row0_size : Int32} {t_row0_readings : Nat → Int32} {t_row1_size : Int32} {t_row1_readings : Nat → Int32} {t_measures_size : Int32} {t_measures_times : Nat → Int32} {t_measures_means : Nat → Int32} {t_measures_lefts : Nat → Int32} {t_measures_ends : Nat → Int32} {o_t_settledNear : Int32} {o_t_pieces_points : Int32} {o_t_pieces_size : Int32} {o_t_pieces_leastUpper : Int64} {o_t_pieces_leastLower : Int64} {o_t_pieces_mostUpper : Int64} {o_t_pieces_mostLower : Int64} {o_t_pieces_times : Nat → Int32} {o_t_pieces_lows : Nat → Int32} {o_t_pieces_highs : Nat → Int32} {o_t_pieces_firsts : Nat → Int32} {o_t_pieces_lengths : Nat → Int32} {o_t_pieces_uppers : Nat → Int32} {o_t_pieces_lowers : Nat → Int32} {o_t_pieces_middles : Nat → Int64} {o_t_joins : Nat → Int32} {o_t_finals : Nat → Int32} (C0 : Cx RX6 cX6_settle 5 none wsX6_settle D ct A p s m args meth c) : ∀ (n : Nat) (t_settledNear : Int32) (t_pieces_points : Int32) (t_pieces_size : Int32) (t_pieces_leastUpper : Int64) (t_pieces_leastLower : Int64) (t_pieces_mostUpper : Int64) (t_pieces_mostLower : Int64) (t_pieces_times : Nat → Int32) (t_pieces_lows : Nat → Int32) (t_pieces_highs : Nat → Int32) (t_pieces_firsts : Nat → Int32) (t_pieces_lengths : Nat → Int32) (t_pieces_uppers : Nat → Int32) (t_pieces_lowers : Nat → Int32) (t_pieces_middles : Nat → Int64) (t_joins : Nat → Int32) (t_finals : Nat → Int32) (x_1 : Int32) (x_2 : Int32) (x_3 : Int32) (x_4 : Int32) (H : Heap) (locs : List Loc) (ls : Array Slot), LX6_settle_26 n t_settledNear t_row0_size t_row0_readings t_row1_size t_row1_readings t_measures_size t_measures_times t_measures_means t_measures_lefts t_measures_ends t_pieces_points t_pieces_size t_pieces_leastUpper t_pieces_leastLower t_pieces_mostUpper t_pieces_mostLower t_pieces_times t_pieces_lows t_pieces_highs t_pieces_firsts t_pieces_lengths t_pieces_uppers t_pieces_lowers t_pieces_middles t_joins t_finals x_1 x_2 x_3 x_4 = some (o_t_settledNear, o_t_pieces_points, o_t_pieces_size, o_t_pieces_leastUpper, o_t_pieces_leastLower, o_t_pieces_mostUpper, o_t_pieces_mostLower, o_t_pieces_times, o_t_pieces_lows, o_t_pieces_highs, o_t_pieces_firsts, o_t_pieces_lengths, o_t_pieces_uppers, o_t_pieces_lowers, o_t_pieces_middles, o_t_joins, o_t_finals) → va_P D vwCl (W_24 ct q_t q_t_row0 q_t_row1 q_t_measures q_t_pieces q_t_joins q_t_finals q_t_kept q_t_row0_readings q_t_row1_readings q_t_measures_times q_t_measures_means q_t_measures_lefts q_t_measures_ends q_t_pieces_times q_t_pieces_lows q_t_pieces_highs q_t_pieces_firsts q_t_pieces_lengths q_t_pieces_uppers q_t_pieces_lowers q_t_pieces_middles t_settledNear t_row0_size t_row0_readings t_row1_size t_row1_readings t_measures_size t_measures_times t_measures_means t_measures_lefts t_measures_ends t_pieces_points t_pieces_size t_pieces_leastUpper t_pieces_leastLower t_pieces_mostUpper t_pieces_mostLower t_pieces_times t_pieces_lows t_pieces_highs t_pieces_firsts t_pieces_lengths t_pieces_uppers t_pieces_lowers t_pieces_middles t_joins t_finals) H → va_D A (W_24 ct q_t q_t_row0 q_t_row1 q_t_measures q_t_pieces q_t_joins q_t_finals q_t_kept q_t_row0_readings q_t_row1_readings q_t_measures_times q_t_measures_means q_t_measures_lefts q_t_measures_ends q_t_pieces_times q_t_pieces_lows q_t_pieces_highs q_t_pieces_firsts q_t_pieces_lengths q_t_pieces_uppers q_t_pieces_lowers q_t_pieces_middles t_settledNear t_row0_size t_row0_readings t_row1_size t_row1_readings t_measures_size t_measures_times t_measures_means t_measures_lefts t_measures_ends t_pieces_points t_pieces_size t_pieces_leastUpper t_pieces_leastLower t_pieces_mostUpper t_pieces_mostLower t_pieces_times t_pieces_lows t_pieces_highs t_pieces_firsts t_pieces_lengths t_pieces_uppers t_pieces_lowers t_pieces_middles t_joins t_finals) → va_S A s.heap H locs → lv_has ls 5 [(0, .ref q_t), (1, .int x_1), (2, .int x_2), (3, .int x_3), (4, .int x_4)] → W p l e ({ frames := 4, cells := 0, slots := 0, locals := 100 } : Room) s m args below meth c H locs 0 0 (MQ below (va_Qv (fun (_ : Unit) => True) (fun _ t => va_P D vwCl (W_24 ct q_t q_t_row0 q_t_row1 q_t_measures q_t_pieces q_t_joins q_t_finals q_t_kept q_t_row0_readings q_t_row1_readings q_t_measures_times q_t_measures_means q_t_measures_lefts q_t_measures_ends q_t_pieces_times q_t_pieces_lows q_t_pieces_highs q_t_pieces_firsts q_t_pieces_lengths q_t_pieces_uppers q_t_pieces_lowers q_t_pieces_middles o_t_settledNear t_row0_size t_row0_readings t_row1_size t_row1_readings t_measures_size t_measures_times t_measures_means t_measures_lefts t_measures_ends o_t_pieces_points o_t_pieces_size o_t_pieces_leastUpper o_t_pieces_leastLower o_t_pieces_mostUpper o_t_pieces_mostLower o_t_pieces_times o_t_pieces_lows o_t_pieces_highs o_t_pieces_firsts o_t_pieces_lengths o_t_pieces_uppers o_t_pieces_lowers o_t_pieces_middles o_t_joins o_t_finals) t.heap) A) args s 0 0 A) (F0 m 26 ls []) := by
  intro n
  induction n with
  | zero => intro t_settledNear t_pieces_points t_pieces_size t_pieces_leastUpper t_pieces_leastLower t_pieces_mostUpper t_pieces_mostLower t_pieces_times t_pieces_lows t_pieces_highs t_pieces_firsts t_pieces_lengths t_pieces_uppers t_pieces_lowers t_pieces_middles t_joins t_finals x_1 x_2 x_3 x_4 H locs ls hF; exact nomatch (show (none : Option (Int32 × Int32 × Int32 × Int64 × Int64 × Int64 × Int64 × (Nat → Int32) × (Nat → Int32) × (Nat → Int32) × (Nat → Int32) × (Nat → Int32) × (Nat → Int32) × (Nat → Int32) × (Nat → Int64) × (Nat → Int32) × (Nat → Int32))) = _ from hF)
  | succ n ih => intro t_settledNear t_pieces_points t_pieces_size t_pieces_leastUpper t_pieces_leastLower t_pieces_mostUpper t_pieces_mostLower t_pieces_times t_pieces_lows t_pieces_highs t_pieces_firsts t_pieces_lengths t_pieces_uppers t_pieces_lowers t_pieces_middles t_joins t_finals x_1 x_2 x_3 x_4 H locs ls hF; exact jX6_settle_26 C0 (LX6_settle_26 n) ih n t_settledNear t_pieces_points t_pieces_size t_pieces_leastUpper t_pieces_leastLower t_pieces_mostUpper t_pieces_mostLower t_pieces_times t_pieces_lows t_pieces_highs t_pieces_firsts t_pieces_lengths t_pieces_uppers t_pieces_lowers t_pieces_middles t_joins t_finals x_1 x_2 x_3 x_4 H locs ls hF
set_option maxHeartbeats 4000000 in
set_option maxRecDepth 100000 in
theorem met_X6_settle (l : Launch) (D : va_G) (ct : Nat → ClassId) (q_t : Nat) (q_t_row0 : Nat) (q_t_row1 : Nat) (q_t_measures : Nat) (q_t_pieces : Nat) (q_t_joins : Nat) (q_t_finals : Nat) (q_t_kept : Nat) (q_t_row0_readings : Nat) (q_t_row1_readings : Nat) (q_t_measures_times : Nat) (q_t_measures_means : Nat) (q_t_measures_lefts : Nat) (q_t_measures_ends : Nat) (q_t_pieces_times : Nat) (q_t_pieces_lows : Nat) (q_t_pieces_highs : Nat) (q_t_pieces_firsts : Nat) (q_t_pieces_lengths : Nat) (q_t_pieces_uppers : Nat) (q_t_pieces_lowers : Nat) (q_t_pieces_middles : Nat) (sz : Nat) (t_settledNear : Int32) (t_row0_size : Int32) (t_row0_readings : Nat → Int32) (t_row1_size : Int32) (t_row1_readings : Nat → Int32) (t_measures_size : Int32) (t_measures_times : Nat → Int32) (t_measures_means : Nat → Int32) (t_measures_lefts : Nat → Int32) (t_measures_ends : Nat → Int32) (t_pieces_points : Int32) (t_pieces_size : Int32) (t_pieces_leastUpper : Int64) (t_pieces_leastLower : Int64) (t_pieces_mostUpper : Int64) (t_pieces_mostLower : Int64) (t_pieces_times : Nat → Int32) (t_pieces_lows : Nat → Int32) (t_pieces_highs : Nat → Int32) (t_pieces_firsts : Nat → Int32) (t_pieces_lengths : Nat → Int32) (t_pieces_uppers : Nat → Int32) (t_pieces_lowers : Nat → Int32) (t_pieces_middles : Nat → Int64) (t_joins : Nat → Int32) (t_finals : Nat → Int32) (p1 : Int32) (n : Nat) (o_t_settledNear : Int32) (o_t_pieces_points : Int32) (o_t_pieces_size : Int32) (o_t_pieces_leastUpper : Int64) (o_t_pieces_leastLower : Int64) (o_t_pieces_mostUpper : Int64) (o_t_pieces_mostLower : Int64) (o_t_pieces_times : Nat → Int32) (o_t_pieces_lows : Nat → Int32) (o_t_pieces_highs : Nat → Int32) (o_t_pieces_firsts : Nat → Int32) (o_t_pieces_lengths : Nat → Int32) (o_t_pieces_uppers : Nat → Int32) (o_t_pieces_lowers : Nat → Int32) (o_t_pieces_middles : Nat → Int64) (o_t_joins : Nat → Int32) (o_t_finals : Nat → Int32) (hF : FX6_settle n t_settledNear t_row0_size t_row0_readings t_row1_size t_row1_readings t_measures_size t_measures_times t_measures_means t_measures_lefts t_measures_ends t_pieces_points t_pieces_size t_pieces_leastUpper t_pieces_leastLower t_pieces_mostUpper t_pieces_mostLower t_pieces_times t_pieces_lows t_pieces_highs t_pieces_firsts t_pieces_lengths t_pieces_uppers t_pieces_lowers t_pieces_middles t_joins t_finals p1 = some (o_t_settledNear, o_t_pieces_points, o_t_pieces_size, o_t_pieces_leastUpper, o_t_pieces_leastLower, o_t_pieces_mostUpper, o_t_pieces_mostLower, o_t_pieces_times, o_t_pieces_lows, o_t_pieces_highs, o_t_pieces_firsts, o_t_pieces_lengths, o_t_pieces_uppers, o_t_pieces_lowers, o_t_pieces_middles, o_t_joins, o_t_finals)) : Met l yX6_settle wsX6_settle ({ frames := 4, cells := 0, slots := 0, locals := 100 } : Room) (va_Pc [.ref q_t, .int p1] (pre_ D ct sz (W_24 ct q_t q_t_row0 q_t_row1 q_t_measures q_t_pieces q_t_joins q_t_finals q_t_kept q_t_row0_readings q_t_row1_readings q_t_measures_times q_t_measures_means q_t_measures_lefts q_t_measures_ends q_t_pieces_times q_t_pieces_lows q_t_pieces_highs q_t_pieces_firsts q_t_pieces_lengths q_t_pieces_uppers q_t_pieces_lowers q_t_pieces_middles t_settledNear t_row0_size t_row0_readings t_row1_size t_row1_readings t_measures_size t_measures_times t_measures_means t_measures_lefts t_measures_ends t_pieces_points t_pieces_size t_pieces_leastUpper t_pieces_leastLower t_pieces_mostUpper t_pieces_mostLower t_pieces_times t_pieces_lows t_pieces_highs t_pieces_firsts t_pieces_lengths t_pieces_uppers t_pieces_lowers t_pieces_middles t_joins t_finals))) (va_Qv (fun (_ : Unit) => True) (fun _ t => va_P D vwCl (W_24 ct q_t q_t_row0 q_t_row1 q_t_measures q_t_pieces q_t_joins q_t_finals q_t_kept q_t_row0_readings q_t_row1_readings q_t_measures_times q_t_measures_means q_t_measures_lefts q_t_measures_ends q_t_pieces_times q_t_pieces_lows q_t_pieces_highs q_t_pieces_firsts q_t_pieces_lengths q_t_pieces_uppers q_t_pieces_lowers q_t_pieces_middles o_t_settledNear t_row0_size t_row0_readings t_row1_size t_row1_readings t_measures_size t_measures_times t_measures_means t_measures_lefts t_measures_ends o_t_pieces_points o_t_pieces_size o_t_pieces_leastUpper o_t_pieces_leastLower o_t_pieces_mostUpper o_t_pieces_mostLower o_t_pieces_times o_t_pieces_lows o_t_pieces_highs o_t_pieces_firsts o_t_pieces_lengths o_t_pieces_uppers o_t_pieces_lowers o_t_pieces_middles o_t_joins o_t_finals) t.heap) (va_A (W_24 ct q_t q_t_row0 q_t_row1 q_t_measures q_t_pieces q_t_joins q_t_finals q_t_kept q_t_row0_readings q_t_row1_readings q_t_measures_times q_t_measures_means q_t_measures_lefts q_t_measures_ends q_t_pieces_times q_t_pieces_lows q_t_pieces_highs q_t_pieces_firsts q_t_pieces_lengths q_t_pieces_uppers q_t_pieces_lowers q_t_pieces_middles t_settledNear t_row0_size t_row0_readings t_row1_size t_row1_readings t_measures_size t_measures_times t_measures_means t_measures_lefts t_measures_ends t_pieces_points t_pieces_size t_pieces_leastUpper t_pieces_leastLower t_pieces_mostUpper t_pieces_mostLower t_pieces_times t_pieces_lows t_pieces_highs t_pieces_firsts t_pieces_lengths t_pieces_uppers t_pieces_lowers t_pieces_middles t_joins t_finals) sz)) 0 0 (va_A (W_24 ct q_t q_t_row0 q_t_row1 q_t_measures q_t_pieces q_t_joins q_t_finals q_t_kept q_t_row0_readings q_t_row1_readings q_t_measures_times q_t_measures_means q_t_measures_lefts q_t_measures_ends q_t_pieces_times q_t_pieces_lows q_t_pieces_highs q_t_pieces_firsts q_t_pieces_lengths q_t_pieces_uppers q_t_pieces_lowers q_t_pieces_middles t_settledNear t_row0_size t_row0_readings t_row1_size t_row1_readings t_measures_size t_measures_times t_measures_means t_measures_lefts t_measures_ends t_pieces_points t_pieces_size t_pieces_leastUpper t_pieces_leastLower t_pieces_mostUpper t_pieces_mostLower t_pieces_times t_pieces_lows t_pieces_highs t_pieces_firsts t_pieces_lengths t_pieces_uppers t_pieces_lowers t_pieces_middles t_joins t_finals) sz) := by
  refine Met.ofW (cc := cX6_settle) (maxL := 5) (ret := none) (by decide) rfl ?_
  intro p e s m args below meth c s₁ B hml hv
  obtain ⟨rfl, hsz, hP, hE, hD0⟩ := hv
  have hx := B.exec
  have hb := B.bytes
  have hr := B.returns
  have hts := atoms_spec (ws := wsX6_settle) B.pre
  have hown : s.vm.findClass RX6 = some m.cls := findClass_of_methodNamed B.named
  have hlocks := B.notSynchronized
  subst hsz
  have hD := hD0.self (sz := s.heap.size)
  generalize hAe : va_A (W_24 ct q_t q_t_row0 q_t_row1 q_t_measures q_t_pieces q_t_joins q_t_finals q_t_kept q_t_row0_readings q_t_row1_readings q_t_measures_times q_t_measures_means q_t_measures_lefts q_t_measures_ends q_t_pieces_times q_t_pieces_lows q_t_pieces_highs q_t_pieces_firsts q_t_pieces_lengths q_t_pieces_uppers q_t_pieces_lowers q_t_pieces_middles t_settledNear t_row0_size t_row0_readings t_row1_size t_row1_readings t_measures_size t_measures_times t_measures_means t_measures_lefts t_measures_ends t_pieces_points t_pieces_size t_pieces_leastUpper t_pieces_leastLower t_pieces_mostUpper t_pieces_mostLower t_pieces_times t_pieces_lows t_pieces_highs t_pieces_firsts t_pieces_lengths t_pieces_uppers t_pieces_lowers t_pieces_middles t_joins t_finals) s.heap.size = A at hD ⊢
  have hA : ∀ q : Nat, s.heap.size ≤ q → A q := fun q h => by rw [← hAe]; exact Or.inr h
  have hl := lv_entry ([.ref q_t, .int p1]) (n := 5) (Nat.le_of_ble_eq_true rfl)
  rw [lg_entry_eq]
  generalize (lg_sl ([.ref q_t, .int p1]) ++ List.replicate (5 - (lg_sl ([.ref q_t, .int p1])).length) Slot.unset).toArray = ls at hl ⊢
  have hl : lv_has ls 5 [(0, .ref q_t), (1, .int p1)] := hl
  have C0 : Cx RX6 cX6_settle 5 none wsX6_settle D ct A p s m ([.ref q_t, .int p1]).toArray meth c := ⟨hx, hb, hml, hown, hts, hr, hlocks, hE, hA⟩
  have hS : ∀ H : Heap, s.heap = H → va_S A s.heap H [] := fun H h => h ▸ va_S.rf
  generalize hH : s.heap = H at hP ⊢
  have hS := hS H hH
  unfold FX6_settle at hF
  refine lv_aload_n hx hb dX6_settle_0 rfl (lv_at hl 0 rfl) ?_
  refine va_get (D := D) (ci := 6) (v := .int t_settledNear) (C := RX6) (T := TX6) (N := 8) hx hb hts i_X6_settle_X6 hown hE.1 hP 0 rfl rfl 7 (by decide) (hts (.fieldLink RX6 52 "NeedleHouse$Track" "settledNear" "I") (by decide +kernel)) (fun _ h9 => h9) rfl dX6_settle_1 ?_
  refine lv_iload_n hx hb dX6_settle_4 rfl (lv_at hl 1 rfl) ?_
  refine lv_icmp_ne (tgt := 9) hx hb dX6_settle_5 (by decide) (fun c1 => ?_) (fun c1 => ?_)
  · have hF := ifF c1 hF
    refine lv_aload_n hx hb dX6_settle_9 rfl (lv_at hl 0 rfl) ?_
    obtain ⟨r2, h3, hF⟩ := ob1_ex hF
    refine xiR (va_runV (As := []) (rest := []) ⟨hx, hb, hml, hown, hts⟩ (met_X6_times l D ct q_t q_t_row0 q_t_row1 q_t_measures q_t_pieces q_t_joins q_t_finals q_t_kept q_t_row0_readings q_t_row1_readings H.size t_settledNear t_row0_size t_row1_size n r2 h3) (cwV 0 hts gX6_settle_X6_times rfl rfl rfl (by decide +kernel) ⟨Nat.le_of_ble_eq_true rfl, Nat.le_of_ble_eq_true rfl⟩) ⟨blind_, va_recv hE.1 hP (ci := 6) (q0 := 0) rfl rfl, mkpre_ hE (hP.sub [0, 1, 3] rfl) (hD.sub [0, 1, 3] (by decide) rfl)⟩ rfl rfl hl.1 rfl (lv_room (Nat.le_of_ble_eq_true rfl)) dX6_settle_10 ⟨Nat.le_of_ble_eq_true rfl, Nat.le_of_ble_eq_true rfl⟩) hP hD hS hA [0, 1, 3] rfl (fun H locs hP hD hS => ?_)
    refine lv_sipush (v := 300) hx hb dX6_settle_13 (by decide) ?_
    refine va_mmin hx hb (hml.trans hl.1.symm) hown (hts (.methodLink RX6 69 Lib.Math.min.name) (by decide +kernel)) (hts (.static Lib.Math.min.name) (by decide +kernel)) (hts (.initialized "java/lang/Math") (by decide +kernel)) (hts (.code Lib.Math.min.name Lib.Math.min.code 2 (some .int)) (by decide +kernel)) (Nat.le_of_ble_eq_true rfl) (Nat.le_of_ble_eq_true rfl) (Nat.zero_le _) (Nat.zero_le _) dX6_settle_16 ?_
    refine lv_topi (fun x4 ex4 => ?_)
    have hF := bn_as ex4 hF
    refine lv_istore_n (lv' := [(2, .int x4), (0, .ref q_t), (1, .int p1)]) hx hb dX6_settle_19 rfl hl (by decide) rfl (fun ls hl => ?_)
    refine lv_ldc hx hb hown (hts (.constant RX6 45 (-2000000000)) (by decide +kernel)) dX6_settle_20 ?_
    refine lv_istore_n (lv' := [(3, .int ((-2000000000))), (2, .int x4), (0, .ref q_t), (1, .int p1)]) hx hb dX6_settle_22 rfl hl (by decide) rfl (fun ls hl => ?_)
    refine lv_iconst (v := 0) hx hb dX6_settle_23 (by decide) ?_
    refine lv_istore (lv' := [(4, .int 0), (3, .int ((-2000000000))), (2, .int x4), (0, .ref q_t), (1, .int p1)]) hx hb dX6_settle_24 hl (by decide) rfl (fun ls hl => ?_)
    exact lX6_settle_26 C0 n t_settledNear t_pieces_points t_pieces_size t_pieces_leastUpper t_pieces_leastLower t_pieces_mostUpper t_pieces_mostLower t_pieces_times t_pieces_lows t_pieces_highs t_pieces_firsts t_pieces_lengths t_pieces_uppers t_pieces_lowers t_pieces_middles t_joins t_finals p1 x4 ((-2000000000)) 0 _ _ _ hF hP hD hS (lv_sub hl [3, 4, 2, 1, 0] rfl)
  · have hF := ifT c1 hF
    obtain ⟨rfl, rfl, rfl, rfl, rfl, rfl, rfl, rfl, rfl, rfl, rfl, rfl, rfl, rfl, rfl, rfl, rfl⟩ := in17 hF
    exact W.vret hx hb hr (fun t ht hW => ⟨⟨(), rfl, trivial, vaP_at ht hP⟩, hS.F ht⟩) hS.2.2 dX6_settle_8
def W_25 (ct : Nat → ClassId) (a0 a1 a2 a3 a4 a5 a6 a7 a8 a9 : Nat) (v0 : Int32) (v1 : Int32) (v2 : Nat → Int32) (v3 : Int32) (v4 : Nat → Int32) : va_W := [(a0, .inr (6, [.ref a1, .ref a2, .ref a3, .ref a4, .ref a5, .ref a6, .ref a7, .int v0])), (a1, .inr (2, [.ref a8, .int v1])), (a8, .inl (ct 0, 300, .inl v2)), (a2, .inr (2, [.ref a9, .int v3])), (a9, .inl (ct 0, 300, .inl v4))]
/-! NeedleHouse$Track.jumpTime(III)I -/
set_option maxHeartbeats 4000000 in
set_option maxRecDepth 100000 in
theorem jX6_jumpTime_22 {p : Program} {l : Launch} {e : Env} {s : State} {m : MethodId} {args : Array Value} {below : List Frame} {meth : Method} {c : Code} {D : va_G} {ct : Nat → ClassId} {A : Nat → Prop} {q_t q_t_row0 q_t_row1 q_t_measures q_t_pieces q_t_joins q_t_finals q_t_kept q_t_row0_readings q_t_row1_readings : Nat} {t_settledNear : Int32} {t_row0_size : Int32} {t_row0_readings : Nat → Int32} {t_row1_size : Int32} {t_row1_readings : Nat → Int32} {o_r : Int32} (C0 : Cx RX6 cX6_jumpTime 9 (some .int) wsX6_jumpTime D ct A p s m args meth c) (k22 : (Nat → Int32) → (Nat → Int32) → Int32 → Int32 → Int32 → Int32 → Option (Int32)) (hk22 : ∀ (x_2 : Int32) (x_3 : Int32) (x_6 : Int32) (x_7 : Int32) (H : Heap) (locs : List Loc) (ls : Array Slot), k22 t_row0_readings t_row1_readings x_2 x_3 x_6 x_7 = some (o_r) → va_P D vwCl (W_25 ct q_t q_t_row0 q_t_row1 q_t_measures q_t_pieces q_t_joins q_t_finals q_t_kept q_t_row0_readings q_t_row1_readings t_settledNear t_row0_size t_row0_readings t_row1_size t_row1_readings) H → va_D A (W_25 ct q_t q_t_row0 q_t_row1 q_t_measures q_t_pieces q_t_joins q_t_finals q_t_kept q_t_row0_readings q_t_row1_readings t_settledNear t_row0_size t_row0_readings t_row1_size t_row1_readings) → va_S A s.heap H locs → lv_has ls 9 [(2, .int x_2), (3, .int x_3), (4, .ref q_t_row0), (5, .ref q_t_row0), (6, .int x_6), (7, .int x_7)] → W p l e ({ frames := 2, cells := 0, slots := 0, locals := 44 } : Room) s m args below meth c H locs 0 0 (MQ below (va_Qi (fun r (_ : Unit) => r = o_r) (fun _ t => va_P D vwCl (W_25 ct q_t q_t_row0 q_t_row1 q_t_measures q_t_pieces q_t_joins q_t_finals q_t_kept q_t_row0_readings q_t_row1_readings t_settledNear t_row0_size t_row0_readings t_row1_size t_row1_readings) t.heap) A) args s 0 0 A) (F0 m 22 ls [])) (n : Nat) (x_2 : Int32) (x_3 : Int32) (x_6 : Int32) (x_7 : Int32) (H : Heap) (locs : List Loc) (ls : Array Slot) : JX6_jumpTime_22 k22 n t_row0_readings t_row1_readings x_2 x_3 x_6 x_7 = some (o_r) → va_P D vwCl (W_25 ct q_t q_t_row0 q_t_row1 q_t_measures q_t_pieces q_t_joins q_t_finals q_t_kept q_t_row0_readings q_t_row1_readings t_settledNear t_row0_size t_row0_readings t_row1_size t_row1_readings) H → va_D A (W_25 ct q_t q_t_row0 q_t_row1 q_t_measures q_t_pieces q_t_joins q_t_finals q_t_kept q_t_row0_readings q_t_row1_readings t_settledNear t_row0_size t_row0_readings t_row1_size t_row1_readings) → va_S A s.heap H locs → lv_has ls 9 [(2, .int x_2), (3, .int x_3), (4, .ref q_t_row0), (5, .ref q_t_row0), (6, .int x_6), (7, .int x_7)] → W p l e ({ frames := 2, cells := 0, slots := 0, locals := 44 } : Room) s m args below meth c H locs 0 0 (MQ below (va_Qi (fun r (_ : Unit) => r = o_r) (fun _ t => va_P D vwCl (W_25 ct q_t q_t_row0 q_t_row1 q_t_measures q_t_pieces q_t_joins q_t_finals q_t_kept q_t_row0_readings q_t_row1_readings t_settledNear t_row0_size t_row0_readings t_row1_size t_row1_readings) t.heap) A) args s 0 0 A) (F0 m 22 ls []) := by
  intro hF hP hD hS hl
  obtain ⟨hx, hb, hml, hown, hts, hr, hlocks, hE, hA⟩ := id C0
  unfold JX6_jumpTime_22 at hF
  refine lv_iload hx hb dX6_jumpTime_22 (lv_at hl 5 rfl) ?_
  refine lv_sipush (v := 300) hx hb dX6_jumpTime_24 (by decide) ?_
  refine lv_icmp_ge (tgt := 80) hx hb dX6_jumpTime_27 (by decide) (fun c4 => ?_) (fun c4 => ?_)
  · have hF := ifT c4 hF
    refine lv_iconst (v := (-1)) hx hb dX6_jumpTime_80 (by decide) ?_
    obtain rfl := Option.some.inj hF
    exact W.iret hx hb hr (fun t ht hW => ⟨⟨_, (), rfl, rfl, vaP_at ht hP⟩, hS.F ht⟩) hS.2.2 dX6_jumpTime_81
  · have hF := ifF c4 hF
    refine lv_aload hx hb dX6_jumpTime_30 (lv_at hl 3 rfl) ?_
    refine lv_iload hx hb dX6_jumpTime_32 (lv_at hl 5 rfl) ?_
    obtain ⟨r5, h6, hF⟩ := ob1_ex hF
    refine xiR (va_runV (As := [.int x_7]) (rest := []) ⟨hx, hb, hml, hown, hts⟩ (met_X2_step l D ct q_t_row0 q_t_row0_readings H.size t_row0_size t_row0_readings x_7 n r5 h6) (cwV 1 hts gX6_jumpTime_X2_step rfl rfl rfl (by decide +kernel) ⟨Nat.le_of_ble_eq_true rfl, Nat.le_of_ble_eq_true rfl⟩) ⟨blind_, va_recv hE.1 hP (ci := 2) (q0 := 1) rfl rfl, mkpre_ hE (hP.sub [1, 2] rfl) (hD.sub [1, 2] (by decide) rfl)⟩ rfl rfl hl.1 rfl (lv_room (Nat.le_of_ble_eq_true rfl)) dX6_jumpTime_34 ⟨Nat.le_of_ble_eq_true rfl, Nat.le_of_ble_eq_true rfl⟩) hP hD hS hA [1, 2] rfl (fun H locs hP hD hS => ?_)
    refine lv_istore (lv' := [(8, .int r5), (2, .int x_2), (3, .int x_3), (4, .ref q_t_row0), (5, .ref q_t_row0), (6, .int x_6), (7, .int x_7)]) hx hb dX6_jumpTime_37 hl (by decide) rfl (fun ls hl => ?_)
    refine lv_aload hx hb dX6_jumpTime_39 (lv_at hl 3 rfl) ?_
    refine lv_iload hx hb dX6_jumpTime_41 (lv_at hl 6 rfl) ?_
    obtain ⟨r7, h8, hF⟩ := ob1_ex hF
    refine xiR (va_runV (As := [.int x_7]) (rest := []) ⟨hx, hb, hml, hown, hts⟩ (met_X2_step l D ct q_t_row0 q_t_row0_readings H.size t_row0_size t_row0_readings x_7 n r7 h8) (cwV 1 hts gX6_jumpTime_X2_step rfl rfl rfl (by decide +kernel) ⟨Nat.le_of_ble_eq_true rfl, Nat.le_of_ble_eq_true rfl⟩) ⟨blind_, va_recv hE.1 hP (ci := 2) (q0 := 1) rfl rfl, mkpre_ hE (hP.sub [1, 2] rfl) (hD.sub [1, 2] (by decide) rfl)⟩ rfl rfl hl.1 rfl (lv_room (Nat.le_of_ble_eq_true rfl)) dX6_jumpTime_43 ⟨Nat.le_of_ble_eq_true rfl, Nat.le_of_ble_eq_true rfl⟩) hP hD hS hA [1, 2] rfl (fun H locs hP hD hS => ?_)
    refine lv_iload_n hx hb dX6_jumpTime_46 rfl (lv_at hl 2 rfl) ?_
    refine lv_icmp_le (tgt := 74) hx hb dX6_jumpTime_47 (by decide) (fun c9 => ?_) (fun c9 => ?_)
    · have hF := ifT c9 hF
      obtain ⟨x10, ex10⟩ : ∃ y : Int32, y = x_7 + 1 := ⟨_, rfl⟩
      refine lv_iinc (v := x10) (lv' := [(7, .int x10), (8, .int r5), (2, .int x_2), (3, .int x_3), (4, .ref q_t_row0), (5, .ref q_t_row0), (6, .int x_6)]) hx hb dX6_jumpTime_74 hl (k := 6) rfl (by rw [ex10]; rfl) (by decide) rfl (fun ls hl => ?_)
      have hF := bn_as ex10 hF
      refine lv_goto (tgt := 22) hx hb dX6_jumpTime_77 (by decide) ?_
      exact hk22 x_2 x_3 x_6 x10 _ _ _ hF hP hD hS (lv_sub hl [2, 3, 4, 5, 6, 0] rfl)
    · have hF := ifF c9 hF
      refine lv_iload hx hb dX6_jumpTime_50 (lv_at hl 0 rfl) ?_
      refine lv_iconst (v := (-1)) hx hb dX6_jumpTime_52 (by decide) ?_
      refine lv_icmp_eq (tgt := 74) hx hb dX6_jumpTime_53 (by decide) (fun c11 => ?_) (fun c11 => ?_)
      · have hF := ifT c11 hF
        obtain ⟨x12, ex12⟩ : ∃ y : Int32, y = x_7 + 1 := ⟨_, rfl⟩
        refine lv_iinc (v := x12) (lv' := [(7, .int x12), (8, .int r5), (2, .int x_2), (3, .int x_3), (4, .ref q_t_row0), (5, .ref q_t_row0), (6, .int x_6)]) hx hb dX6_jumpTime_74 hl (k := 6) rfl (by rw [ex12]; rfl) (by decide) rfl (fun ls hl => ?_)
        have hF := bn_as ex12 hF
        refine lv_goto (tgt := 22) hx hb dX6_jumpTime_77 (by decide) ?_
        exact hk22 x_2 x_3 x_6 x12 _ _ _ hF hP hD hS (lv_sub hl [2, 3, 4, 5, 6, 0] rfl)
      · have hF := ifF c11 hF
        refine lv_iload hx hb dX6_jumpTime_56 (lv_at hl 0 rfl) ?_
        refine lv_iload_n hx hb dX6_jumpTime_58 rfl (lv_at hl 2 rfl) ?_
        refine lv_icmp_gt (tgt := 74) hx hb dX6_jumpTime_59 (by decide) (fun c13 => ?_) (fun c13 => ?_)
        · have hF := ifT c13 hF
          obtain ⟨x14, ex14⟩ : ∃ y : Int32, y = x_7 + 1 := ⟨_, rfl⟩
          refine lv_iinc (v := x14) (lv' := [(7, .int x14), (8, .int r5), (2, .int x_2), (3, .int x_3), (4, .ref q_t_row0), (5, .ref q_t_row0), (6, .int x_6)]) hx hb dX6_jumpTime_74 hl (k := 6) rfl (by rw [ex14]; rfl) (by decide) rfl (fun ls hl => ?_)
          have hF := bn_as ex14 hF
          refine lv_goto (tgt := 22) hx hb dX6_jumpTime_77 (by decide) ?_
          exact hk22 x_2 x_3 x_6 x14 _ _ _ hF hP hD hS (lv_sub hl [2, 3, 4, 5, 6, 0] rfl)
        · have hF := ifF c13 hF
          refine lv_iload hx hb dX6_jumpTime_62 (lv_at hl 5 rfl) ?_
          refine lv_iload_n hx hb dX6_jumpTime_64 rfl (lv_at hl 1 rfl) ?_
          refine lv_icmp_ne (tgt := 71) hx hb dX6_jumpTime_65 (by decide) (fun c15 => ?_) (fun c15 => ?_)
          · have hF := ifF c15 hF
            obtain ⟨x16, ex16⟩ : ∃ y : Int32, y = x_6 + 1 := ⟨_, rfl⟩
            refine lv_iinc (v := x16) (lv' := [(6, .int x16), (8, .int r5), (2, .int x_2), (3, .int x_3), (4, .ref q_t_row0), (5, .ref q_t_row0), (7, .int x_7)]) hx hb dX6_jumpTime_71 hl (k := 5) rfl (by rw [ex16]; rfl) (by decide) rfl (fun ls hl => ?_)
            have hF := bn_as ex16 hF
            obtain ⟨x17, ex17⟩ : ∃ y : Int32, y = x_7 + 1 := ⟨_, rfl⟩
            refine lv_iinc (v := x17) (lv' := [(7, .int x17), (6, .int x16), (8, .int r5), (2, .int x_2), (3, .int x_3), (4, .ref q_t_row0), (5, .ref q_t_row0)]) hx hb dX6_jumpTime_74 hl (k := 6) rfl (by rw [ex17]; rfl) (by decide) rfl (fun ls hl => ?_)
            have hF := bn_as ex17 hF
            refine lv_goto (tgt := 22) hx hb dX6_jumpTime_77 (by decide) ?_
            exact hk22 x_2 x_3 x16 x17 _ _ _ hF hP hD hS (lv_sub hl [3, 4, 5, 6, 1, 0] rfl)
          · have hF := ifT c15 hF
            refine lv_iload hx hb dX6_jumpTime_68 (lv_at hl 6 rfl) ?_
            obtain rfl := Option.some.inj hF
            exact W.iret hx hb hr (fun t ht hW => ⟨⟨_, (), rfl, rfl, vaP_at ht hP⟩, hS.F ht⟩) hS.2.2 dX6_jumpTime_70
theorem lX6_jumpTime_22 {p : Program} {l : Launch} {e : Env} {s : State} {m : MethodId} {args : Array Value} {below : List Frame} {meth : Method} {c : Code} {D : va_G} {ct : Nat → ClassId} {A : Nat → Prop} {q_t q_t_row0 q_t_row1 q_t_measures q_t_pieces q_t_joins q_t_finals q_t_kept q_t_row0_readings q_t_row1_readings : Nat} {t_settledNear : Int32} {t_row0_size : Int32} {t_row0_readings : Nat → Int32} {t_row1_size : Int32} {t_row1_readings : Nat → Int32} {o_r : Int32} (C0 : Cx RX6 cX6_jumpTime 9 (some .int) wsX6_jumpTime D ct A p s m args meth c) : ∀ (n : Nat) (x_2 : Int32) (x_3 : Int32) (x_6 : Int32) (x_7 : Int32) (H : Heap) (locs : List Loc) (ls : Array Slot), LX6_jumpTime_22 n t_row0_readings t_row1_readings x_2 x_3 x_6 x_7 = some (o_r) → va_P D vwCl (W_25 ct q_t q_t_row0 q_t_row1 q_t_measures q_t_pieces q_t_joins q_t_finals q_t_kept q_t_row0_readings q_t_row1_readings t_settledNear t_row0_size t_row0_readings t_row1_size t_row1_readings) H → va_D A (W_25 ct q_t q_t_row0 q_t_row1 q_t_measures q_t_pieces q_t_joins q_t_finals q_t_kept q_t_row0_readings q_t_row1_readings t_settledNear t_row0_size t_row0_readings t_row1_size t_row1_readings) → va_S A s.heap H locs → lv_has ls 9 [(2, .int x_2), (3, .int x_3), (4, .ref q_t_row0), (5, .ref q_t_row0), (6, .int x_6), (7, .int x_7)] → W p l e ({ frames := 2, cells := 0, slots := 0, locals := 44 } : Room) s m args below meth c H locs 0 0 (MQ below (va_Qi (fun r (_ : Unit) => r = o_r) (fun _ t => va_P D vwCl (W_25 ct q_t q_t_row0 q_t_row1 q_t_measures q_t_pieces q_t_joins q_t_finals q_t_kept q_t_row0_readings q_t_row1_readings t_settledNear t_row0_size t_row0_readings t_row1_size t_row1_readings) t.heap) A) args s 0 0 A) (F0 m 22 ls []) := by
  intro n
  induction n with
  | zero => intro x_2 x_3 x_6 x_7 H locs ls hF; exact nomatch (show (none : Option (Int32)) = _ from hF)
  | succ n ih => intro x_2 x_3 x_6 x_7 H locs ls hF; exact jX6_jumpTime_22 C0 (LX6_jumpTime_22 n) ih n x_2 x_3 x_6 x_7 H locs ls hF
set_option maxHeartbeats 4000000 in
set_option maxRecDepth 100000 in
theorem jX6_jumpTime_100022 {p : Program} {l : Launch} {e : Env} {s : State} {m : MethodId} {args : Array Value} {below : List Frame} {meth : Method} {c : Code} {D : va_G} {ct : Nat → ClassId} {A : Nat → Prop} {q_t q_t_row0 q_t_row1 q_t_measures q_t_pieces q_t_joins q_t_finals q_t_kept q_t_row0_readings q_t_row1_readings : Nat} {t_settledNear : Int32} {t_row0_size : Int32} {t_row0_readings : Nat → Int32} {t_row1_size : Int32} {t_row1_readings : Nat → Int32} {o_r : Int32} (C0 : Cx RX6 cX6_jumpTime 9 (some .int) wsX6_jumpTime D ct A p s m args meth c) (k100022 : (Nat → Int32) → (Nat → Int32) → Int32 → Int32 → Int32 → Int32 → Option (Int32)) (hk100022 : ∀ (x_2 : Int32) (x_3 : Int32) (x_6 : Int32) (x_7 : Int32) (H : Heap) (locs : List Loc) (ls : Array Slot), k100022 t_row0_readings t_row1_readings x_2 x_3 x_6 x_7 = some (o_r) → va_P D vwCl (W_25 ct q_t q_t_row0 q_t_row1 q_t_measures q_t_pieces q_t_joins q_t_finals q_t_kept q_t_row0_readings q_t_row1_readings t_settledNear t_row0_size t_row0_readings t_row1_size t_row1_readings) H → va_D A (W_25 ct q_t q_t_row0 q_t_row1 q_t_measures q_t_pieces q_t_joins q_t_finals q_t_kept q_t_row0_readings q_t_row1_readings t_settledNear t_row0_size t_row0_readings t_row1_size t_row1_readings) → va_S A s.heap H locs → lv_has ls 9 [(2, .int x_2), (3, .int x_3), (4, .ref q_t_row0), (5, .ref q_t_row1), (6, .int x_6), (7, .int x_7)] → W p l e ({ frames := 2, cells := 0, slots := 0, locals := 44 } : Room) s m args below meth c H locs 0 0 (MQ below (va_Qi (fun r (_ : Unit) => r = o_r) (fun _ t => va_P D vwCl (W_25 ct q_t q_t_row0 q_t_row1 q_t_measures q_t_pieces q_t_joins q_t_finals q_t_kept q_t_row0_readings q_t_row1_readings t_settledNear t_row0_size t_row0_readings t_row1_size t_row1_readings) t.heap) A) args s 0 0 A) (F0 m 22 ls [])) (n : Nat) (x_2 : Int32) (x_3 : Int32) (x_6 : Int32) (x_7 : Int32) (H : Heap) (locs : List Loc) (ls : Array Slot) : JX6_jumpTime_100022 k100022 n t_row0_readings t_row1_readings x_2 x_3 x_6 x_7 = some (o_r) → va_P D vwCl (W_25 ct q_t q_t_row0 q_t_row1 q_t_measures q_t_pieces q_t_joins q_t_finals q_t_kept q_t_row0_readings q_t_row1_readings t_settledNear t_row0_size t_row0_readings t_row1_size t_row1_readings) H → va_D A (W_25 ct q_t q_t_row0 q_t_row1 q_t_measures q_t_pieces q_t_joins q_t_finals q_t_kept q_t_row0_readings q_t_row1_readings t_settledNear t_row0_size t_row0_readings t_row1_size t_row1_readings) → va_S A s.heap H locs → lv_has ls 9 [(2, .int x_2), (3, .int x_3), (4, .ref q_t_row0), (5, .ref q_t_row1), (6, .int x_6), (7, .int x_7)] → W p l e ({ frames := 2, cells := 0, slots := 0, locals := 44 } : Room) s m args below meth c H locs 0 0 (MQ below (va_Qi (fun r (_ : Unit) => r = o_r) (fun _ t => va_P D vwCl (W_25 ct q_t q_t_row0 q_t_row1 q_t_measures q_t_pieces q_t_joins q_t_finals q_t_kept q_t_row0_readings q_t_row1_readings t_settledNear t_row0_size t_row0_readings t_row1_size t_row1_readings) t.heap) A) args s 0 0 A) (F0 m 22 ls []) := by
  intro hF hP hD hS hl
  obtain ⟨hx, hb, hml, hown, hts, hr, hlocks, hE, hA⟩ := id C0
  unfold JX6_jumpTime_100022 at hF
  refine lv_iload hx hb dX6_jumpTime_22 (lv_at hl 5 rfl) ?_
  refine lv_sipush (v := 300) hx hb dX6_jumpTime_24 (by decide) ?_
  refine lv_icmp_ge (tgt := 80) hx hb dX6_jumpTime_27 (by decide) (fun c18 => ?_) (fun c18 => ?_)
  · have hF := ifT c18 hF
    refine lv_iconst (v := (-1)) hx hb dX6_jumpTime_80 (by decide) ?_
    obtain rfl := Option.some.inj hF
    exact W.iret hx hb hr (fun t ht hW => ⟨⟨_, (), rfl, rfl, vaP_at ht hP⟩, hS.F ht⟩) hS.2.2 dX6_jumpTime_81
  · have hF := ifF c18 hF
    refine lv_aload hx hb dX6_jumpTime_30 (lv_at hl 3 rfl) ?_
    refine lv_iload hx hb dX6_jumpTime_32 (lv_at hl 5 rfl) ?_
    obtain ⟨r19, h20, hF⟩ := ob1_ex hF
    refine xiR (va_runV (As := [.int x_7]) (rest := []) ⟨hx, hb, hml, hown, hts⟩ (met_X2_step l D ct q_t_row1 q_t_row1_readings H.size t_row1_size t_row1_readings x_7 n r19 h20) (cwV 1 hts gX6_jumpTime_X2_step rfl rfl rfl (by decide +kernel) ⟨Nat.le_of_ble_eq_true rfl, Nat.le_of_ble_eq_true rfl⟩) ⟨blind_, va_recv hE.1 hP (ci := 2) (q0 := 3) rfl rfl, mkpre_ hE (hP.sub [3, 4] rfl) (hD.sub [3, 4] (by decide) rfl)⟩ rfl rfl hl.1 rfl (lv_room (Nat.le_of_ble_eq_true rfl)) dX6_jumpTime_34 ⟨Nat.le_of_ble_eq_true rfl, Nat.le_of_ble_eq_true rfl⟩) hP hD hS hA [3, 4] rfl (fun H locs hP hD hS => ?_)
    refine lv_istore (lv' := [(8, .int r19), (2, .int x_2), (3, .int x_3), (4, .ref q_t_row0), (5, .ref q_t_row1), (6, .int x_6), (7, .int x_7)]) hx hb dX6_jumpTime_37 hl (by decide) rfl (fun ls hl => ?_)
    refine lv_aload hx hb dX6_jumpTime_39 (lv_at hl 3 rfl) ?_
    refine lv_iload hx hb dX6_jumpTime_41 (lv_at hl 6 rfl) ?_
    obtain ⟨r21, h22, hF⟩ := ob1_ex hF
    refine xiR (va_runV (As := [.int x_7]) (rest := []) ⟨hx, hb, hml, hown, hts⟩ (met_X2_step l D ct q_t_row0 q_t_row0_readings H.size t_row0_size t_row0_readings x_7 n r21 h22) (cwV 1 hts gX6_jumpTime_X2_step rfl rfl rfl (by decide +kernel) ⟨Nat.le_of_ble_eq_true rfl, Nat.le_of_ble_eq_true rfl⟩) ⟨blind_, va_recv hE.1 hP (ci := 2) (q0 := 1) rfl rfl, mkpre_ hE (hP.sub [1, 2] rfl) (hD.sub [1, 2] (by decide) rfl)⟩ rfl rfl hl.1 rfl (lv_room (Nat.le_of_ble_eq_true rfl)) dX6_jumpTime_43 ⟨Nat.le_of_ble_eq_true rfl, Nat.le_of_ble_eq_true rfl⟩) hP hD hS hA [1, 2] rfl (fun H locs hP hD hS => ?_)
    refine lv_iload_n hx hb dX6_jumpTime_46 rfl (lv_at hl 2 rfl) ?_
    refine lv_icmp_le (tgt := 74) hx hb dX6_jumpTime_47 (by decide) (fun c23 => ?_) (fun c23 => ?_)
    · have hF := ifT c23 hF
      obtain ⟨x24, ex24⟩ : ∃ y : Int32, y = x_7 + 1 := ⟨_, rfl⟩
      refine lv_iinc (v := x24) (lv' := [(7, .int x24), (8, .int r19), (2, .int x_2), (3, .int x_3), (4, .ref q_t_row0), (5, .ref q_t_row1), (6, .int x_6)]) hx hb dX6_jumpTime_74 hl (k := 6) rfl (by rw [ex24]; rfl) (by decide) rfl (fun ls hl => ?_)
      have hF := bn_as ex24 hF
      refine lv_goto (tgt := 22) hx hb dX6_jumpTime_77 (by decide) ?_
      exact hk100022 x_2 x_3 x_6 x24 _ _ _ hF hP hD hS (lv_sub hl [2, 3, 4, 5, 6, 0] rfl)
    · have hF := ifF c23 hF
      refine lv_iload hx hb dX6_jumpTime_50 (lv_at hl 0 rfl) ?_
      refine lv_iconst (v := (-1)) hx hb dX6_jumpTime_52 (by decide) ?_
      refine lv_icmp_eq (tgt := 74) hx hb dX6_jumpTime_53 (by decide) (fun c25 => ?_) (fun c25 => ?_)
      · have hF := ifT c25 hF
        obtain ⟨x26, ex26⟩ : ∃ y : Int32, y = x_7 + 1 := ⟨_, rfl⟩
        refine lv_iinc (v := x26) (lv' := [(7, .int x26), (8, .int r19), (2, .int x_2), (3, .int x_3), (4, .ref q_t_row0), (5, .ref q_t_row1), (6, .int x_6)]) hx hb dX6_jumpTime_74 hl (k := 6) rfl (by rw [ex26]; rfl) (by decide) rfl (fun ls hl => ?_)
        have hF := bn_as ex26 hF
        refine lv_goto (tgt := 22) hx hb dX6_jumpTime_77 (by decide) ?_
        exact hk100022 x_2 x_3 x_6 x26 _ _ _ hF hP hD hS (lv_sub hl [2, 3, 4, 5, 6, 0] rfl)
      · have hF := ifF c25 hF
        refine lv_iload hx hb dX6_jumpTime_56 (lv_at hl 0 rfl) ?_
        refine lv_iload_n hx hb dX6_jumpTime_58 rfl (lv_at hl 2 rfl) ?_
        refine lv_icmp_gt (tgt := 74) hx hb dX6_jumpTime_59 (by decide) (fun c27 => ?_) (fun c27 => ?_)
        · have hF := ifT c27 hF
          obtain ⟨x28, ex28⟩ : ∃ y : Int32, y = x_7 + 1 := ⟨_, rfl⟩
          refine lv_iinc (v := x28) (lv' := [(7, .int x28), (8, .int r19), (2, .int x_2), (3, .int x_3), (4, .ref q_t_row0), (5, .ref q_t_row1), (6, .int x_6)]) hx hb dX6_jumpTime_74 hl (k := 6) rfl (by rw [ex28]; rfl) (by decide) rfl (fun ls hl => ?_)
          have hF := bn_as ex28 hF
          refine lv_goto (tgt := 22) hx hb dX6_jumpTime_77 (by decide) ?_
          exact hk100022 x_2 x_3 x_6 x28 _ _ _ hF hP hD hS (lv_sub hl [2, 3, 4, 5, 6, 0] rfl)
        · have hF := ifF c27 hF
          refine lv_iload hx hb dX6_jumpTime_62 (lv_at hl 5 rfl) ?_
          refine lv_iload_n hx hb dX6_jumpTime_64 rfl (lv_at hl 1 rfl) ?_
          refine lv_icmp_ne (tgt := 71) hx hb dX6_jumpTime_65 (by decide) (fun c29 => ?_) (fun c29 => ?_)
          · have hF := ifF c29 hF
            obtain ⟨x30, ex30⟩ : ∃ y : Int32, y = x_6 + 1 := ⟨_, rfl⟩
            refine lv_iinc (v := x30) (lv' := [(6, .int x30), (8, .int r19), (2, .int x_2), (3, .int x_3), (4, .ref q_t_row0), (5, .ref q_t_row1), (7, .int x_7)]) hx hb dX6_jumpTime_71 hl (k := 5) rfl (by rw [ex30]; rfl) (by decide) rfl (fun ls hl => ?_)
            have hF := bn_as ex30 hF
            obtain ⟨x31, ex31⟩ : ∃ y : Int32, y = x_7 + 1 := ⟨_, rfl⟩
            refine lv_iinc (v := x31) (lv' := [(7, .int x31), (6, .int x30), (8, .int r19), (2, .int x_2), (3, .int x_3), (4, .ref q_t_row0), (5, .ref q_t_row1)]) hx hb dX6_jumpTime_74 hl (k := 6) rfl (by rw [ex31]; rfl) (by decide) rfl (fun ls hl => ?_)
            have hF := bn_as ex31 hF
            refine lv_goto (tgt := 22) hx hb dX6_jumpTime_77 (by decide) ?_
            exact hk100022 x_2 x_3 x30 x31 _ _ _ hF hP hD hS (lv_sub hl [3, 4, 5, 6, 1, 0] rfl)
          · have hF := ifT c29 hF
            refine lv_iload hx hb dX6_jumpTime_68 (lv_at hl 6 rfl) ?_
            obtain rfl := Option.some.inj hF
            exact W.iret hx hb hr (fun t ht hW => ⟨⟨_, (), rfl, rfl, vaP_at ht hP⟩, hS.F ht⟩) hS.2.2 dX6_jumpTime_70
theorem lX6_jumpTime_100022 {p : Program} {l : Launch} {e : Env} {s : State} {m : MethodId} {args : Array Value} {below : List Frame} {meth : Method} {c : Code} {D : va_G} {ct : Nat → ClassId} {A : Nat → Prop} {q_t q_t_row0 q_t_row1 q_t_measures q_t_pieces q_t_joins q_t_finals q_t_kept q_t_row0_readings q_t_row1_readings : Nat} {t_settledNear : Int32} {t_row0_size : Int32} {t_row0_readings : Nat → Int32} {t_row1_size : Int32} {t_row1_readings : Nat → Int32} {o_r : Int32} (C0 : Cx RX6 cX6_jumpTime 9 (some .int) wsX6_jumpTime D ct A p s m args meth c) : ∀ (n : Nat) (x_2 : Int32) (x_3 : Int32) (x_6 : Int32) (x_7 : Int32) (H : Heap) (locs : List Loc) (ls : Array Slot), LX6_jumpTime_100022 n t_row0_readings t_row1_readings x_2 x_3 x_6 x_7 = some (o_r) → va_P D vwCl (W_25 ct q_t q_t_row0 q_t_row1 q_t_measures q_t_pieces q_t_joins q_t_finals q_t_kept q_t_row0_readings q_t_row1_readings t_settledNear t_row0_size t_row0_readings t_row1_size t_row1_readings) H → va_D A (W_25 ct q_t q_t_row0 q_t_row1 q_t_measures q_t_pieces q_t_joins q_t_finals q_t_kept q_t_row0_readings q_t_row1_readings t_settledNear t_row0_size t_row0_readings t_row1_size t_row1_readings) → va_S A s.heap H locs → lv_has ls 9 [(2, .int x_2), (3, .int x_3), (4, .ref q_t_row0), (5, .ref q_t_row1), (6, .int x_6), (7, .int x_7)] → W p l e ({ frames := 2, cells := 0, slots := 0, locals := 44 } : Room) s m args below meth c H locs 0 0 (MQ below (va_Qi (fun r (_ : Unit) => r = o_r) (fun _ t => va_P D vwCl (W_25 ct q_t q_t_row0 q_t_row1 q_t_measures q_t_pieces q_t_joins q_t_finals q_t_kept q_t_row0_readings q_t_row1_readings t_settledNear t_row0_size t_row0_readings t_row1_size t_row1_readings) t.heap) A) args s 0 0 A) (F0 m 22 ls []) := by
  intro n
  induction n with
  | zero => intro x_2 x_3 x_6 x_7 H locs ls hF; exact nomatch (show (none : Option (Int32)) = _ from hF)
  | succ n ih => intro x_2 x_3 x_6 x_7 H locs ls hF; exact jX6_jumpTime_100022 C0 (LX6_jumpTime_100022 n) ih n x_2 x_3 x_6 x_7 H locs ls hF
set_option maxHeartbeats 4000000 in
set_option maxRecDepth 100000 in
theorem jX6_jumpTime_200022 {p : Program} {l : Launch} {e : Env} {s : State} {m : MethodId} {args : Array Value} {below : List Frame} {meth : Method} {c : Code} {D : va_G} {ct : Nat → ClassId} {A : Nat → Prop} {q_t q_t_row0 q_t_row1 q_t_measures q_t_pieces q_t_joins q_t_finals q_t_kept q_t_row0_readings q_t_row1_readings : Nat} {t_settledNear : Int32} {t_row0_size : Int32} {t_row0_readings : Nat → Int32} {t_row1_size : Int32} {t_row1_readings : Nat → Int32} {o_r : Int32} (C0 : Cx RX6 cX6_jumpTime 9 (some .int) wsX6_jumpTime D ct A p s m args meth c) (k200022 : (Nat → Int32) → (Nat → Int32) → Int32 → Int32 → Int32 → Int32 → Option (Int32)) (hk200022 : ∀ (x_2 : Int32) (x_3 : Int32) (x_6 : Int32) (x_7 : Int32) (H : Heap) (locs : List Loc) (ls : Array Slot), k200022 t_row0_readings t_row1_readings x_2 x_3 x_6 x_7 = some (o_r) → va_P D vwCl (W_25 ct q_t q_t_row0 q_t_row1 q_t_measures q_t_pieces q_t_joins q_t_finals q_t_kept q_t_row0_readings q_t_row1_readings t_settledNear t_row0_size t_row0_readings t_row1_size t_row1_readings) H → va_D A (W_25 ct q_t q_t_row0 q_t_row1 q_t_measures q_t_pieces q_t_joins q_t_finals q_t_kept q_t_row0_readings q_t_row1_readings t_settledNear t_row0_size t_row0_readings t_row1_size t_row1_readings) → va_S A s.heap H locs → lv_has ls 9 [(2, .int x_2), (3, .int x_3), (4, .ref q_t_row1), (5, .ref q_t_row0), (6, .int x_6), (7, .int x_7)] → W p l e ({ frames := 2, cells := 0, slots := 0, locals := 44 } : Room) s m args below meth c H locs 0 0 (MQ below (va_Qi (fun r (_ : Unit) => r = o_r) (fun _ t => va_P D vwCl (W_25 ct q_t q_t_row0 q_t_row1 q_t_measures q_t_pieces q_t_joins q_t_finals q_t_kept q_t_row0_readings q_t_row1_readings t_settledNear t_row0_size t_row0_readings t_row1_size t_row1_readings) t.heap) A) args s 0 0 A) (F0 m 22 ls [])) (n : Nat) (x_2 : Int32) (x_3 : Int32) (x_6 : Int32) (x_7 : Int32) (H : Heap) (locs : List Loc) (ls : Array Slot) : JX6_jumpTime_200022 k200022 n t_row0_readings t_row1_readings x_2 x_3 x_6 x_7 = some (o_r) → va_P D vwCl (W_25 ct q_t q_t_row0 q_t_row1 q_t_measures q_t_pieces q_t_joins q_t_finals q_t_kept q_t_row0_readings q_t_row1_readings t_settledNear t_row0_size t_row0_readings t_row1_size t_row1_readings) H → va_D A (W_25 ct q_t q_t_row0 q_t_row1 q_t_measures q_t_pieces q_t_joins q_t_finals q_t_kept q_t_row0_readings q_t_row1_readings t_settledNear t_row0_size t_row0_readings t_row1_size t_row1_readings) → va_S A s.heap H locs → lv_has ls 9 [(2, .int x_2), (3, .int x_3), (4, .ref q_t_row1), (5, .ref q_t_row0), (6, .int x_6), (7, .int x_7)] → W p l e ({ frames := 2, cells := 0, slots := 0, locals := 44 } : Room) s m args below meth c H locs 0 0 (MQ below (va_Qi (fun r (_ : Unit) => r = o_r) (fun _ t => va_P D vwCl (W_25 ct q_t q_t_row0 q_t_row1 q_t_measures q_t_pieces q_t_joins q_t_finals q_t_kept q_t_row0_readings q_t_row1_readings t_settledNear t_row0_size t_row0_readings t_row1_size t_row1_readings) t.heap) A) args s 0 0 A) (F0 m 22 ls []) := by
  intro hF hP hD hS hl
  obtain ⟨hx, hb, hml, hown, hts, hr, hlocks, hE, hA⟩ := id C0
  unfold JX6_jumpTime_200022 at hF
  refine lv_iload hx hb dX6_jumpTime_22 (lv_at hl 5 rfl) ?_
  refine lv_sipush (v := 300) hx hb dX6_jumpTime_24 (by decide) ?_
  refine lv_icmp_ge (tgt := 80) hx hb dX6_jumpTime_27 (by decide) (fun c32 => ?_) (fun c32 => ?_)
  · have hF := ifT c32 hF
    refine lv_iconst (v := (-1)) hx hb dX6_jumpTime_80 (by decide) ?_
    obtain rfl := Option.some.inj hF
    exact W.iret hx hb hr (fun t ht hW => ⟨⟨_, (), rfl, rfl, vaP_at ht hP⟩, hS.F ht⟩) hS.2.2 dX6_jumpTime_81
  · have hF := ifF c32 hF
    refine lv_aload hx hb dX6_jumpTime_30 (lv_at hl 3 rfl) ?_
    refine lv_iload hx hb dX6_jumpTime_32 (lv_at hl 5 rfl) ?_
    obtain ⟨r33, h34, hF⟩ := ob1_ex hF
    refine xiR (va_runV (As := [.int x_7]) (rest := []) ⟨hx, hb, hml, hown, hts⟩ (met_X2_step l D ct q_t_row0 q_t_row0_readings H.size t_row0_size t_row0_readings x_7 n r33 h34) (cwV 1 hts gX6_jumpTime_X2_step rfl rfl rfl (by decide +kernel) ⟨Nat.le_of_ble_eq_true rfl, Nat.le_of_ble_eq_true rfl⟩) ⟨blind_, va_recv hE.1 hP (ci := 2) (q0 := 1) rfl rfl, mkpre_ hE (hP.sub [1, 2] rfl) (hD.sub [1, 2] (by decide) rfl)⟩ rfl rfl hl.1 rfl (lv_room (Nat.le_of_ble_eq_true rfl)) dX6_jumpTime_34 ⟨Nat.le_of_ble_eq_true rfl, Nat.le_of_ble_eq_true rfl⟩) hP hD hS hA [1, 2] rfl (fun H locs hP hD hS => ?_)
    refine lv_istore (lv' := [(8, .int r33), (2, .int x_2), (3, .int x_3), (4, .ref q_t_row1), (5, .ref q_t_row0), (6, .int x_6), (7, .int x_7)]) hx hb dX6_jumpTime_37 hl (by decide) rfl (fun ls hl => ?_)
    refine lv_aload hx hb dX6_jumpTime_39 (lv_at hl 3 rfl) ?_
    refine lv_iload hx hb dX6_jumpTime_41 (lv_at hl 6 rfl) ?_
    obtain ⟨r35, h36, hF⟩ := ob1_ex hF
    refine xiR (va_runV (As := [.int x_7]) (rest := []) ⟨hx, hb, hml, hown, hts⟩ (met_X2_step l D ct q_t_row1 q_t_row1_readings H.size t_row1_size t_row1_readings x_7 n r35 h36) (cwV 1 hts gX6_jumpTime_X2_step rfl rfl rfl (by decide +kernel) ⟨Nat.le_of_ble_eq_true rfl, Nat.le_of_ble_eq_true rfl⟩) ⟨blind_, va_recv hE.1 hP (ci := 2) (q0 := 3) rfl rfl, mkpre_ hE (hP.sub [3, 4] rfl) (hD.sub [3, 4] (by decide) rfl)⟩ rfl rfl hl.1 rfl (lv_room (Nat.le_of_ble_eq_true rfl)) dX6_jumpTime_43 ⟨Nat.le_of_ble_eq_true rfl, Nat.le_of_ble_eq_true rfl⟩) hP hD hS hA [3, 4] rfl (fun H locs hP hD hS => ?_)
    refine lv_iload_n hx hb dX6_jumpTime_46 rfl (lv_at hl 2 rfl) ?_
    refine lv_icmp_le (tgt := 74) hx hb dX6_jumpTime_47 (by decide) (fun c37 => ?_) (fun c37 => ?_)
    · have hF := ifT c37 hF
      obtain ⟨x38, ex38⟩ : ∃ y : Int32, y = x_7 + 1 := ⟨_, rfl⟩
      refine lv_iinc (v := x38) (lv' := [(7, .int x38), (8, .int r33), (2, .int x_2), (3, .int x_3), (4, .ref q_t_row1), (5, .ref q_t_row0), (6, .int x_6)]) hx hb dX6_jumpTime_74 hl (k := 6) rfl (by rw [ex38]; rfl) (by decide) rfl (fun ls hl => ?_)
      have hF := bn_as ex38 hF
      refine lv_goto (tgt := 22) hx hb dX6_jumpTime_77 (by decide) ?_
      exact hk200022 x_2 x_3 x_6 x38 _ _ _ hF hP hD hS (lv_sub hl [2, 3, 4, 5, 6, 0] rfl)
    · have hF := ifF c37 hF
      refine lv_iload hx hb dX6_jumpTime_50 (lv_at hl 0 rfl) ?_
      refine lv_iconst (v := (-1)) hx hb dX6_jumpTime_52 (by decide) ?_
      refine lv_icmp_eq (tgt := 74) hx hb dX6_jumpTime_53 (by decide) (fun c39 => ?_) (fun c39 => ?_)
      · have hF := ifT c39 hF
        obtain ⟨x40, ex40⟩ : ∃ y : Int32, y = x_7 + 1 := ⟨_, rfl⟩
        refine lv_iinc (v := x40) (lv' := [(7, .int x40), (8, .int r33), (2, .int x_2), (3, .int x_3), (4, .ref q_t_row1), (5, .ref q_t_row0), (6, .int x_6)]) hx hb dX6_jumpTime_74 hl (k := 6) rfl (by rw [ex40]; rfl) (by decide) rfl (fun ls hl => ?_)
        have hF := bn_as ex40 hF
        refine lv_goto (tgt := 22) hx hb dX6_jumpTime_77 (by decide) ?_
        exact hk200022 x_2 x_3 x_6 x40 _ _ _ hF hP hD hS (lv_sub hl [2, 3, 4, 5, 6, 0] rfl)
      · have hF := ifF c39 hF
        refine lv_iload hx hb dX6_jumpTime_56 (lv_at hl 0 rfl) ?_
        refine lv_iload_n hx hb dX6_jumpTime_58 rfl (lv_at hl 2 rfl) ?_
        refine lv_icmp_gt (tgt := 74) hx hb dX6_jumpTime_59 (by decide) (fun c41 => ?_) (fun c41 => ?_)
        · have hF := ifT c41 hF
          obtain ⟨x42, ex42⟩ : ∃ y : Int32, y = x_7 + 1 := ⟨_, rfl⟩
          refine lv_iinc (v := x42) (lv' := [(7, .int x42), (8, .int r33), (2, .int x_2), (3, .int x_3), (4, .ref q_t_row1), (5, .ref q_t_row0), (6, .int x_6)]) hx hb dX6_jumpTime_74 hl (k := 6) rfl (by rw [ex42]; rfl) (by decide) rfl (fun ls hl => ?_)
          have hF := bn_as ex42 hF
          refine lv_goto (tgt := 22) hx hb dX6_jumpTime_77 (by decide) ?_
          exact hk200022 x_2 x_3 x_6 x42 _ _ _ hF hP hD hS (lv_sub hl [2, 3, 4, 5, 6, 0] rfl)
        · have hF := ifF c41 hF
          refine lv_iload hx hb dX6_jumpTime_62 (lv_at hl 5 rfl) ?_
          refine lv_iload_n hx hb dX6_jumpTime_64 rfl (lv_at hl 1 rfl) ?_
          refine lv_icmp_ne (tgt := 71) hx hb dX6_jumpTime_65 (by decide) (fun c43 => ?_) (fun c43 => ?_)
          · have hF := ifF c43 hF
            obtain ⟨x44, ex44⟩ : ∃ y : Int32, y = x_6 + 1 := ⟨_, rfl⟩
            refine lv_iinc (v := x44) (lv' := [(6, .int x44), (8, .int r33), (2, .int x_2), (3, .int x_3), (4, .ref q_t_row1), (5, .ref q_t_row0), (7, .int x_7)]) hx hb dX6_jumpTime_71 hl (k := 5) rfl (by rw [ex44]; rfl) (by decide) rfl (fun ls hl => ?_)
            have hF := bn_as ex44 hF
            obtain ⟨x45, ex45⟩ : ∃ y : Int32, y = x_7 + 1 := ⟨_, rfl⟩
            refine lv_iinc (v := x45) (lv' := [(7, .int x45), (6, .int x44), (8, .int r33), (2, .int x_2), (3, .int x_3), (4, .ref q_t_row1), (5, .ref q_t_row0)]) hx hb dX6_jumpTime_74 hl (k := 6) rfl (by rw [ex45]; rfl) (by decide) rfl (fun ls hl => ?_)
            have hF := bn_as ex45 hF
            refine lv_goto (tgt := 22) hx hb dX6_jumpTime_77 (by decide) ?_
            exact hk200022 x_2 x_3 x44 x45 _ _ _ hF hP hD hS (lv_sub hl [3, 4, 5, 6, 1, 0] rfl)
          · have hF := ifT c43 hF
            refine lv_iload hx hb dX6_jumpTime_68 (lv_at hl 6 rfl) ?_
            obtain rfl := Option.some.inj hF
            exact W.iret hx hb hr (fun t ht hW => ⟨⟨_, (), rfl, rfl, vaP_at ht hP⟩, hS.F ht⟩) hS.2.2 dX6_jumpTime_70
theorem lX6_jumpTime_200022 {p : Program} {l : Launch} {e : Env} {s : State} {m : MethodId} {args : Array Value} {below : List Frame} {meth : Method} {c : Code} {D : va_G} {ct : Nat → ClassId} {A : Nat → Prop} {q_t q_t_row0 q_t_row1 q_t_measures q_t_pieces q_t_joins q_t_finals q_t_kept q_t_row0_readings q_t_row1_readings : Nat} {t_settledNear : Int32} {t_row0_size : Int32} {t_row0_readings : Nat → Int32} {t_row1_size : Int32} {t_row1_readings : Nat → Int32} {o_r : Int32} (C0 : Cx RX6 cX6_jumpTime 9 (some .int) wsX6_jumpTime D ct A p s m args meth c) : ∀ (n : Nat) (x_2 : Int32) (x_3 : Int32) (x_6 : Int32) (x_7 : Int32) (H : Heap) (locs : List Loc) (ls : Array Slot), LX6_jumpTime_200022 n t_row0_readings t_row1_readings x_2 x_3 x_6 x_7 = some (o_r) → va_P D vwCl (W_25 ct q_t q_t_row0 q_t_row1 q_t_measures q_t_pieces q_t_joins q_t_finals q_t_kept q_t_row0_readings q_t_row1_readings t_settledNear t_row0_size t_row0_readings t_row1_size t_row1_readings) H → va_D A (W_25 ct q_t q_t_row0 q_t_row1 q_t_measures q_t_pieces q_t_joins q_t_finals q_t_kept q_t_row0_readings q_t_row1_readings t_settledNear t_row0_size t_row0_readings t_row1_size t_row1_readings) → va_S A s.heap H locs → lv_has ls 9 [(2, .int x_2), (3, .int x_3), (4, .ref q_t_row1), (5, .ref q_t_row0), (6, .int x_6), (7, .int x_7)] → W p l e ({ frames := 2, cells := 0, slots := 0, locals := 44 } : Room) s m args below meth c H locs 0 0 (MQ below (va_Qi (fun r (_ : Unit) => r = o_r) (fun _ t => va_P D vwCl (W_25 ct q_t q_t_row0 q_t_row1 q_t_measures q_t_pieces q_t_joins q_t_finals q_t_kept q_t_row0_readings q_t_row1_readings t_settledNear t_row0_size t_row0_readings t_row1_size t_row1_readings) t.heap) A) args s 0 0 A) (F0 m 22 ls []) := by
  intro n
  induction n with
  | zero => intro x_2 x_3 x_6 x_7 H locs ls hF; exact nomatch (show (none : Option (Int32)) = _ from hF)
  | succ n ih => intro x_2 x_3 x_6 x_7 H locs ls hF; exact jX6_jumpTime_200022 C0 (LX6_jumpTime_200022 n) ih n x_2 x_3 x_6 x_7 H locs ls hF
set_option maxHeartbeats 4000000 in
set_option maxRecDepth 100000 in
theorem jX6_jumpTime_300022 {p : Program} {l : Launch} {e : Env} {s : State} {m : MethodId} {args : Array Value} {below : List Frame} {meth : Method} {c : Code} {D : va_G} {ct : Nat → ClassId} {A : Nat → Prop} {q_t q_t_row0 q_t_row1 q_t_measures q_t_pieces q_t_joins q_t_finals q_t_kept q_t_row0_readings q_t_row1_readings : Nat} {t_settledNear : Int32} {t_row0_size : Int32} {t_row0_readings : Nat → Int32} {t_row1_size : Int32} {t_row1_readings : Nat → Int32} {o_r : Int32} (C0 : Cx RX6 cX6_jumpTime 9 (some .int) wsX6_jumpTime D ct A p s m args meth c) (k300022 : (Nat → Int32) → (Nat → Int32) → Int32 → Int32 → Int32 → Int32 → Option (Int32)) (hk300022 : ∀ (x_2 : Int32) (x_3 : Int32) (x_6 : Int32) (x_7 : Int32) (H : Heap) (locs : List Loc) (ls : Array Slot), k300022 t_row0_readings t_row1_readings x_2 x_3 x_6 x_7 = some (o_r) → va_P D vwCl (W_25 ct q_t q_t_row0 q_t_row1 q_t_measures q_t_pieces q_t_joins q_t_finals q_t_kept q_t_row0_readings q_t_row1_readings t_settledNear t_row0_size t_row0_readings t_row1_size t_row1_readings) H → va_D A (W_25 ct q_t q_t_row0 q_t_row1 q_t_measures q_t_pieces q_t_joins q_t_finals q_t_kept q_t_row0_readings q_t_row1_readings t_settledNear t_row0_size t_row0_readings t_row1_size t_row1_readings) → va_S A s.heap H locs → lv_has ls 9 [(2, .int x_2), (3, .int x_3), (4, .ref q_t_row1), (5, .ref q_t_row1), (6, .int x_6), (7, .int x_7)] → W p l e ({ frames := 2, cells := 0, slots := 0, locals := 44 } : Room) s m args below meth c H locs 0 0 (MQ below (va_Qi (fun r (_ : Unit) => r = o_r) (fun _ t => va_P D vwCl (W_25 ct q_t q_t_row0 q_t_row1 q_t_measures q_t_pieces q_t_joins q_t_finals q_t_kept q_t_row0_readings q_t_row1_readings t_settledNear t_row0_size t_row0_readings t_row1_size t_row1_readings) t.heap) A) args s 0 0 A) (F0 m 22 ls [])) (n : Nat) (x_2 : Int32) (x_3 : Int32) (x_6 : Int32) (x_7 : Int32) (H : Heap) (locs : List Loc) (ls : Array Slot) : JX6_jumpTime_300022 k300022 n t_row0_readings t_row1_readings x_2 x_3 x_6 x_7 = some (o_r) → va_P D vwCl (W_25 ct q_t q_t_row0 q_t_row1 q_t_measures q_t_pieces q_t_joins q_t_finals q_t_kept q_t_row0_readings q_t_row1_readings t_settledNear t_row0_size t_row0_readings t_row1_size t_row1_readings) H → va_D A (W_25 ct q_t q_t_row0 q_t_row1 q_t_measures q_t_pieces q_t_joins q_t_finals q_t_kept q_t_row0_readings q_t_row1_readings t_settledNear t_row0_size t_row0_readings t_row1_size t_row1_readings) → va_S A s.heap H locs → lv_has ls 9 [(2, .int x_2), (3, .int x_3), (4, .ref q_t_row1), (5, .ref q_t_row1), (6, .int x_6), (7, .int x_7)] → W p l e ({ frames := 2, cells := 0, slots := 0, locals := 44 } : Room) s m args below meth c H locs 0 0 (MQ below (va_Qi (fun r (_ : Unit) => r = o_r) (fun _ t => va_P D vwCl (W_25 ct q_t q_t_row0 q_t_row1 q_t_measures q_t_pieces q_t_joins q_t_finals q_t_kept q_t_row0_readings q_t_row1_readings t_settledNear t_row0_size t_row0_readings t_row1_size t_row1_readings) t.heap) A) args s 0 0 A) (F0 m 22 ls []) := by
  intro hF hP hD hS hl
  obtain ⟨hx, hb, hml, hown, hts, hr, hlocks, hE, hA⟩ := id C0
  unfold JX6_jumpTime_300022 at hF
  refine lv_iload hx hb dX6_jumpTime_22 (lv_at hl 5 rfl) ?_
  refine lv_sipush (v := 300) hx hb dX6_jumpTime_24 (by decide) ?_
  refine lv_icmp_ge (tgt := 80) hx hb dX6_jumpTime_27 (by decide) (fun c46 => ?_) (fun c46 => ?_)
  · have hF := ifT c46 hF
    refine lv_iconst (v := (-1)) hx hb dX6_jumpTime_80 (by decide) ?_
    obtain rfl := Option.some.inj hF
    exact W.iret hx hb hr (fun t ht hW => ⟨⟨_, (), rfl, rfl, vaP_at ht hP⟩, hS.F ht⟩) hS.2.2 dX6_jumpTime_81
  · have hF := ifF c46 hF
    refine lv_aload hx hb dX6_jumpTime_30 (lv_at hl 3 rfl) ?_
    refine lv_iload hx hb dX6_jumpTime_32 (lv_at hl 5 rfl) ?_
    obtain ⟨r47, h48, hF⟩ := ob1_ex hF
    refine xiR (va_runV (As := [.int x_7]) (rest := []) ⟨hx, hb, hml, hown, hts⟩ (met_X2_step l D ct q_t_row1 q_t_row1_readings H.size t_row1_size t_row1_readings x_7 n r47 h48) (cwV 1 hts gX6_jumpTime_X2_step rfl rfl rfl (by decide +kernel) ⟨Nat.le_of_ble_eq_true rfl, Nat.le_of_ble_eq_true rfl⟩) ⟨blind_, va_recv hE.1 hP (ci := 2) (q0 := 3) rfl rfl, mkpre_ hE (hP.sub [3, 4] rfl) (hD.sub [3, 4] (by decide) rfl)⟩ rfl rfl hl.1 rfl (lv_room (Nat.le_of_ble_eq_true rfl)) dX6_jumpTime_34 ⟨Nat.le_of_ble_eq_true rfl, Nat.le_of_ble_eq_true rfl⟩) hP hD hS hA [3, 4] rfl (fun H locs hP hD hS => ?_)
    refine lv_istore (lv' := [(8, .int r47), (2, .int x_2), (3, .int x_3), (4, .ref q_t_row1), (5, .ref q_t_row1), (6, .int x_6), (7, .int x_7)]) hx hb dX6_jumpTime_37 hl (by decide) rfl (fun ls hl => ?_)
    refine lv_aload hx hb dX6_jumpTime_39 (lv_at hl 3 rfl) ?_
    refine lv_iload hx hb dX6_jumpTime_41 (lv_at hl 6 rfl) ?_
    obtain ⟨r49, h50, hF⟩ := ob1_ex hF
    refine xiR (va_runV (As := [.int x_7]) (rest := []) ⟨hx, hb, hml, hown, hts⟩ (met_X2_step l D ct q_t_row1 q_t_row1_readings H.size t_row1_size t_row1_readings x_7 n r49 h50) (cwV 1 hts gX6_jumpTime_X2_step rfl rfl rfl (by decide +kernel) ⟨Nat.le_of_ble_eq_true rfl, Nat.le_of_ble_eq_true rfl⟩) ⟨blind_, va_recv hE.1 hP (ci := 2) (q0 := 3) rfl rfl, mkpre_ hE (hP.sub [3, 4] rfl) (hD.sub [3, 4] (by decide) rfl)⟩ rfl rfl hl.1 rfl (lv_room (Nat.le_of_ble_eq_true rfl)) dX6_jumpTime_43 ⟨Nat.le_of_ble_eq_true rfl, Nat.le_of_ble_eq_true rfl⟩) hP hD hS hA [3, 4] rfl (fun H locs hP hD hS => ?_)
    refine lv_iload_n hx hb dX6_jumpTime_46 rfl (lv_at hl 2 rfl) ?_
    refine lv_icmp_le (tgt := 74) hx hb dX6_jumpTime_47 (by decide) (fun c51 => ?_) (fun c51 => ?_)
    · have hF := ifT c51 hF
      obtain ⟨x52, ex52⟩ : ∃ y : Int32, y = x_7 + 1 := ⟨_, rfl⟩
      refine lv_iinc (v := x52) (lv' := [(7, .int x52), (8, .int r47), (2, .int x_2), (3, .int x_3), (4, .ref q_t_row1), (5, .ref q_t_row1), (6, .int x_6)]) hx hb dX6_jumpTime_74 hl (k := 6) rfl (by rw [ex52]; rfl) (by decide) rfl (fun ls hl => ?_)
      have hF := bn_as ex52 hF
      refine lv_goto (tgt := 22) hx hb dX6_jumpTime_77 (by decide) ?_
      exact hk300022 x_2 x_3 x_6 x52 _ _ _ hF hP hD hS (lv_sub hl [2, 3, 4, 5, 6, 0] rfl)
    · have hF := ifF c51 hF
      refine lv_iload hx hb dX6_jumpTime_50 (lv_at hl 0 rfl) ?_
      refine lv_iconst (v := (-1)) hx hb dX6_jumpTime_52 (by decide) ?_
      refine lv_icmp_eq (tgt := 74) hx hb dX6_jumpTime_53 (by decide) (fun c53 => ?_) (fun c53 => ?_)
      · have hF := ifT c53 hF
        obtain ⟨x54, ex54⟩ : ∃ y : Int32, y = x_7 + 1 := ⟨_, rfl⟩
        refine lv_iinc (v := x54) (lv' := [(7, .int x54), (8, .int r47), (2, .int x_2), (3, .int x_3), (4, .ref q_t_row1), (5, .ref q_t_row1), (6, .int x_6)]) hx hb dX6_jumpTime_74 hl (k := 6) rfl (by rw [ex54]; rfl) (by decide) rfl (fun ls hl => ?_)
        have hF := bn_as ex54 hF
        refine lv_goto (tgt := 22) hx hb dX6_jumpTime_77 (by decide) ?_
        exact hk300022 x_2 x_3 x_6 x54 _ _ _ hF hP hD hS (lv_sub hl [2, 3, 4, 5, 6, 0] rfl)
      · have hF := ifF c53 hF
        refine lv_iload hx hb dX6_jumpTime_56 (lv_at hl 0 rfl) ?_
        refine lv_iload_n hx hb dX6_jumpTime_58 rfl (lv_at hl 2 rfl) ?_
        refine lv_icmp_gt (tgt := 74) hx hb dX6_jumpTime_59 (by decide) (fun c55 => ?_) (fun c55 => ?_)
        · have hF := ifT c55 hF
          obtain ⟨x56, ex56⟩ : ∃ y : Int32, y = x_7 + 1 := ⟨_, rfl⟩
          refine lv_iinc (v := x56) (lv' := [(7, .int x56), (8, .int r47), (2, .int x_2), (3, .int x_3), (4, .ref q_t_row1), (5, .ref q_t_row1), (6, .int x_6)]) hx hb dX6_jumpTime_74 hl (k := 6) rfl (by rw [ex56]; rfl) (by decide) rfl (fun ls hl => ?_)
          have hF := bn_as ex56 hF
          refine lv_goto (tgt := 22) hx hb dX6_jumpTime_77 (by decide) ?_
          exact hk300022 x_2 x_3 x_6 x56 _ _ _ hF hP hD hS (lv_sub hl [2, 3, 4, 5, 6, 0] rfl)
        · have hF := ifF c55 hF
          refine lv_iload hx hb dX6_jumpTime_62 (lv_at hl 5 rfl) ?_
          refine lv_iload_n hx hb dX6_jumpTime_64 rfl (lv_at hl 1 rfl) ?_
          refine lv_icmp_ne (tgt := 71) hx hb dX6_jumpTime_65 (by decide) (fun c57 => ?_) (fun c57 => ?_)
          · have hF := ifF c57 hF
            obtain ⟨x58, ex58⟩ : ∃ y : Int32, y = x_6 + 1 := ⟨_, rfl⟩
            refine lv_iinc (v := x58) (lv' := [(6, .int x58), (8, .int r47), (2, .int x_2), (3, .int x_3), (4, .ref q_t_row1), (5, .ref q_t_row1), (7, .int x_7)]) hx hb dX6_jumpTime_71 hl (k := 5) rfl (by rw [ex58]; rfl) (by decide) rfl (fun ls hl => ?_)
            have hF := bn_as ex58 hF
            obtain ⟨x59, ex59⟩ : ∃ y : Int32, y = x_7 + 1 := ⟨_, rfl⟩
            refine lv_iinc (v := x59) (lv' := [(7, .int x59), (6, .int x58), (8, .int r47), (2, .int x_2), (3, .int x_3), (4, .ref q_t_row1), (5, .ref q_t_row1)]) hx hb dX6_jumpTime_74 hl (k := 6) rfl (by rw [ex59]; rfl) (by decide) rfl (fun ls hl => ?_)
            have hF := bn_as ex59 hF
            refine lv_goto (tgt := 22) hx hb dX6_jumpTime_77 (by decide) ?_
            exact hk300022 x_2 x_3 x58 x59 _ _ _ hF hP hD hS (lv_sub hl [3, 4, 5, 6, 1, 0] rfl)
          · have hF := ifT c57 hF
            refine lv_iload hx hb dX6_jumpTime_68 (lv_at hl 6 rfl) ?_
            obtain rfl := Option.some.inj hF
            exact W.iret hx hb hr (fun t ht hW => ⟨⟨_, (), rfl, rfl, vaP_at ht hP⟩, hS.F ht⟩) hS.2.2 dX6_jumpTime_70
theorem lX6_jumpTime_300022 {p : Program} {l : Launch} {e : Env} {s : State} {m : MethodId} {args : Array Value} {below : List Frame} {meth : Method} {c : Code} {D : va_G} {ct : Nat → ClassId} {A : Nat → Prop} {q_t q_t_row0 q_t_row1 q_t_measures q_t_pieces q_t_joins q_t_finals q_t_kept q_t_row0_readings q_t_row1_readings : Nat} {t_settledNear : Int32} {t_row0_size : Int32} {t_row0_readings : Nat → Int32} {t_row1_size : Int32} {t_row1_readings : Nat → Int32} {o_r : Int32} (C0 : Cx RX6 cX6_jumpTime 9 (some .int) wsX6_jumpTime D ct A p s m args meth c) : ∀ (n : Nat) (x_2 : Int32) (x_3 : Int32) (x_6 : Int32) (x_7 : Int32) (H : Heap) (locs : List Loc) (ls : Array Slot), LX6_jumpTime_300022 n t_row0_readings t_row1_readings x_2 x_3 x_6 x_7 = some (o_r) → va_P D vwCl (W_25 ct q_t q_t_row0 q_t_row1 q_t_measures q_t_pieces q_t_joins q_t_finals q_t_kept q_t_row0_readings q_t_row1_readings t_settledNear t_row0_size t_row0_readings t_row1_size t_row1_readings) H → va_D A (W_25 ct q_t q_t_row0 q_t_row1 q_t_measures q_t_pieces q_t_joins q_t_finals q_t_kept q_t_row0_readings q_t_row1_readings t_settledNear t_row0_size t_row0_readings t_row1_size t_row1_readings) → va_S A s.heap H locs → lv_has ls 9 [(2, .int x_2), (3, .int x_3), (4, .ref q_t_row1), (5, .ref q_t_row1), (6, .int x_6), (7, .int x_7)] → W p l e ({ frames := 2, cells := 0, slots := 0, locals := 44 } : Room) s m args below meth c H locs 0 0 (MQ below (va_Qi (fun r (_ : Unit) => r = o_r) (fun _ t => va_P D vwCl (W_25 ct q_t q_t_row0 q_t_row1 q_t_measures q_t_pieces q_t_joins q_t_finals q_t_kept q_t_row0_readings q_t_row1_readings t_settledNear t_row0_size t_row0_readings t_row1_size t_row1_readings) t.heap) A) args s 0 0 A) (F0 m 22 ls []) := by
  intro n
  induction n with
  | zero => intro x_2 x_3 x_6 x_7 H locs ls hF; exact nomatch (show (none : Option (Int32)) = _ from hF)
  | succ n ih => intro x_2 x_3 x_6 x_7 H locs ls hF; exact jX6_jumpTime_300022 C0 (LX6_jumpTime_300022 n) ih n x_2 x_3 x_6 x_7 H locs ls hF
set_option maxHeartbeats 4000000 in
set_option maxRecDepth 100000 in
theorem met_X6_jumpTime (l : Launch) (D : va_G) (ct : Nat → ClassId) (q_t : Nat) (q_t_row0 : Nat) (q_t_row1 : Nat) (q_t_measures : Nat) (q_t_pieces : Nat) (q_t_joins : Nat) (q_t_finals : Nat) (q_t_kept : Nat) (q_t_row0_readings : Nat) (q_t_row1_readings : Nat) (sz : Nat) (t_settledNear : Int32) (t_row0_size : Int32) (t_row0_readings : Nat → Int32) (t_row1_size : Int32) (t_row1_readings : Nat → Int32) (p1 : Int32) (p2 : Int32) (p3 : Int32) (n : Nat) (o_r : Int32) (hF : FX6_jumpTime n t_row0_readings t_row1_readings p1 p2 p3 = some (o_r)) : Met l yX6_jumpTime wsX6_jumpTime ({ frames := 2, cells := 0, slots := 0, locals := 44 } : Room) (va_Pc [.ref q_t, .int p1, .int p2, .int p3] (pre_ D ct sz (W_25 ct q_t q_t_row0 q_t_row1 q_t_measures q_t_pieces q_t_joins q_t_finals q_t_kept q_t_row0_readings q_t_row1_readings t_settledNear t_row0_size t_row0_readings t_row1_size t_row1_readings))) (va_Qi (fun r (_ : Unit) => r = o_r) (fun _ t => va_P D vwCl (W_25 ct q_t q_t_row0 q_t_row1 q_t_measures q_t_pieces q_t_joins q_t_finals q_t_kept q_t_row0_readings q_t_row1_readings t_settledNear t_row0_size t_row0_readings t_row1_size t_row1_readings) t.heap) (va_A (W_25 ct q_t q_t_row0 q_t_row1 q_t_measures q_t_pieces q_t_joins q_t_finals q_t_kept q_t_row0_readings q_t_row1_readings t_settledNear t_row0_size t_row0_readings t_row1_size t_row1_readings) sz)) 0 0 (va_A (W_25 ct q_t q_t_row0 q_t_row1 q_t_measures q_t_pieces q_t_joins q_t_finals q_t_kept q_t_row0_readings q_t_row1_readings t_settledNear t_row0_size t_row0_readings t_row1_size t_row1_readings) sz) := by
  refine Met.ofW (cc := cX6_jumpTime) (maxL := 9) (ret := (some .int)) (by decide) rfl ?_
  intro p e s m args below meth c s₁ B hml hv
  obtain ⟨rfl, hsz, hP, hE, hD0⟩ := hv
  have hx := B.exec
  have hb := B.bytes
  have hr := B.returns
  have hts := atoms_spec (ws := wsX6_jumpTime) B.pre
  have hown : s.vm.findClass RX6 = some m.cls := findClass_of_methodNamed B.named
  have hlocks := B.notSynchronized
  subst hsz
  have hD := hD0.self (sz := s.heap.size)
  generalize hAe : va_A (W_25 ct q_t q_t_row0 q_t_row1 q_t_measures q_t_pieces q_t_joins q_t_finals q_t_kept q_t_row0_readings q_t_row1_readings t_settledNear t_row0_size t_row0_readings t_row1_size t_row1_readings) s.heap.size = A at hD ⊢
  have hA : ∀ q : Nat, s.heap.size ≤ q → A q := fun q h => by rw [← hAe]; exact Or.inr h
  have hl := lv_entry ([.ref q_t, .int p1, .int p2, .int p3]) (n := 9) (Nat.le_of_ble_eq_true rfl)
  rw [lg_entry_eq]
  generalize (lg_sl ([.ref q_t, .int p1, .int p2, .int p3]) ++ List.replicate (9 - (lg_sl ([.ref q_t, .int p1, .int p2, .int p3])).length) Slot.unset).toArray = ls at hl ⊢
  have hl : lv_has ls 9 [(0, .ref q_t), (1, .int p1), (2, .int p2), (3, .int p3)] := hl
  have C0 : Cx RX6 cX6_jumpTime 9 (some .int) wsX6_jumpTime D ct A p s m ([.ref q_t, .int p1, .int p2, .int p3]).toArray meth c := ⟨hx, hb, hml, hown, hts, hr, hlocks, hE, hA⟩
  have hS : ∀ H : Heap, s.heap = H → va_S A s.heap H [] := fun H h => h ▸ va_S.rf
  generalize hH : s.heap = H at hP ⊢
  have hS := hS H hH
  unfold FX6_jumpTime at hF
  refine lv_aload_n hx hb dX6_jumpTime_0 rfl (lv_at hl 0 rfl) ?_
  refine lv_iload_n hx hb dX6_jumpTime_1 rfl (lv_at hl 1 rfl) ?_
  by_cases c1 : p1 = 0
  · have hF := ifT c1 hF
    refine xrR (va_runV (As := [.int p1]) (rest := []) ⟨hx, hb, hml, hown, hts⟩ (met_X6_rowOf_t l D ct q_t q_t_row0 q_t_row1 q_t_measures q_t_pieces q_t_joins q_t_finals q_t_kept H.size t_settledNear p1 c1) (cwV 1 hts gX6_jumpTime_X6_rowOf rfl rfl rfl (by decide +kernel) ⟨Nat.le_of_ble_eq_true rfl, Nat.le_of_ble_eq_true rfl⟩) ⟨blind_, va_recv hE.1 hP (ci := 6) (q0 := 0) rfl rfl, mkpre_ hE (hP.sub [0] rfl) (hD.sub [0] (by decide) rfl)⟩ rfl rfl hl.1 rfl (lv_room (Nat.le_of_ble_eq_true rfl)) dX6_jumpTime_2 ⟨Nat.le_of_ble_eq_true rfl, Nat.le_of_ble_eq_true rfl⟩) hP hD hS hA [0] rfl (fun H locs hP hD hS => ?_)
    refine lv_astore (lv' := [(4, .ref q_t_row0), (0, .ref q_t), (1, .int p1), (2, .int p2), (3, .int p3)]) hx hb dX6_jumpTime_5 hl (by decide) rfl (fun ls hl => ?_)
    refine lv_aload_n hx hb dX6_jumpTime_7 rfl (lv_at hl 1 rfl) ?_
    refine lv_iconst (v := 1) hx hb dX6_jumpTime_8 (by decide) ?_
    refine lv_iload_n hx hb dX6_jumpTime_9 rfl (lv_at hl 2 rfl) ?_
    refine lv_isub hx hb dX6_jumpTime_10 ?_
    by_cases c2 : (1 - p1) = 0
    · have hF := ifT c2 hF
      refine xrR (va_runV (As := [.int (1 - p1)]) (rest := []) ⟨hx, hb, hml, hown, hts⟩ (met_X6_rowOf_t l D ct q_t q_t_row0 q_t_row1 q_t_measures q_t_pieces q_t_joins q_t_finals q_t_kept H.size t_settledNear (1 - p1) c2) (cwV 1 hts gX6_jumpTime_X6_rowOf rfl rfl rfl (by decide +kernel) ⟨Nat.le_of_ble_eq_true rfl, Nat.le_of_ble_eq_true rfl⟩) ⟨blind_, va_recv hE.1 hP (ci := 6) (q0 := 0) rfl rfl, mkpre_ hE (hP.sub [0] rfl) (hD.sub [0] (by decide) rfl)⟩ rfl rfl hl.1 rfl (lv_room (Nat.le_of_ble_eq_true rfl)) dX6_jumpTime_11 ⟨Nat.le_of_ble_eq_true rfl, Nat.le_of_ble_eq_true rfl⟩) hP hD hS hA [0] rfl (fun H locs hP hD hS => ?_)
      refine lv_astore (lv' := [(5, .ref q_t_row0), (4, .ref q_t_row0), (0, .ref q_t), (1, .int p1), (2, .int p2), (3, .int p3)]) hx hb dX6_jumpTime_14 hl (by decide) rfl (fun ls hl => ?_)
      refine lv_iconst (v := 0) hx hb dX6_jumpTime_16 (by decide) ?_
      refine lv_istore (lv' := [(6, .int 0), (5, .ref q_t_row0), (4, .ref q_t_row0), (0, .ref q_t), (1, .int p1), (2, .int p2), (3, .int p3)]) hx hb dX6_jumpTime_17 hl (by decide) rfl (fun ls hl => ?_)
      refine lv_iconst (v := 1) hx hb dX6_jumpTime_19 (by decide) ?_
      refine lv_istore (lv' := [(7, .int 1), (6, .int 0), (5, .ref q_t_row0), (4, .ref q_t_row0), (0, .ref q_t), (1, .int p1), (2, .int p2), (3, .int p3)]) hx hb dX6_jumpTime_20 hl (by decide) rfl (fun ls hl => ?_)
      exact lX6_jumpTime_22 C0 n p2 p3 0 1 _ _ _ hF hP hD hS (lv_sub hl [6, 7, 3, 2, 1, 0] rfl)
    · have hF := ifF c2 hF
      refine xrR (va_runV (As := [.int (1 - p1)]) (rest := []) ⟨hx, hb, hml, hown, hts⟩ (met_X6_rowOf_f l D ct q_t q_t_row0 q_t_row1 q_t_measures q_t_pieces q_t_joins q_t_finals q_t_kept H.size t_settledNear (1 - p1) c2) (cwV 1 hts gX6_jumpTime_X6_rowOf rfl rfl rfl (by decide +kernel) ⟨Nat.le_of_ble_eq_true rfl, Nat.le_of_ble_eq_true rfl⟩) ⟨blind_, va_recv hE.1 hP (ci := 6) (q0 := 0) rfl rfl, mkpre_ hE (hP.sub [0] rfl) (hD.sub [0] (by decide) rfl)⟩ rfl rfl hl.1 rfl (lv_room (Nat.le_of_ble_eq_true rfl)) dX6_jumpTime_11 ⟨Nat.le_of_ble_eq_true rfl, Nat.le_of_ble_eq_true rfl⟩) hP hD hS hA [0] rfl (fun H locs hP hD hS => ?_)
      refine lv_astore (lv' := [(5, .ref q_t_row1), (4, .ref q_t_row0), (0, .ref q_t), (1, .int p1), (2, .int p2), (3, .int p3)]) hx hb dX6_jumpTime_14 hl (by decide) rfl (fun ls hl => ?_)
      refine lv_iconst (v := 0) hx hb dX6_jumpTime_16 (by decide) ?_
      refine lv_istore (lv' := [(6, .int 0), (5, .ref q_t_row1), (4, .ref q_t_row0), (0, .ref q_t), (1, .int p1), (2, .int p2), (3, .int p3)]) hx hb dX6_jumpTime_17 hl (by decide) rfl (fun ls hl => ?_)
      refine lv_iconst (v := 1) hx hb dX6_jumpTime_19 (by decide) ?_
      refine lv_istore (lv' := [(7, .int 1), (6, .int 0), (5, .ref q_t_row1), (4, .ref q_t_row0), (0, .ref q_t), (1, .int p1), (2, .int p2), (3, .int p3)]) hx hb dX6_jumpTime_20 hl (by decide) rfl (fun ls hl => ?_)
      exact lX6_jumpTime_100022 C0 n p2 p3 0 1 _ _ _ hF hP hD hS (lv_sub hl [6, 7, 3, 2, 1, 0] rfl)
  · have hF := ifF c1 hF
    refine xrR (va_runV (As := [.int p1]) (rest := []) ⟨hx, hb, hml, hown, hts⟩ (met_X6_rowOf_f l D ct q_t q_t_row0 q_t_row1 q_t_measures q_t_pieces q_t_joins q_t_finals q_t_kept H.size t_settledNear p1 c1) (cwV 1 hts gX6_jumpTime_X6_rowOf rfl rfl rfl (by decide +kernel) ⟨Nat.le_of_ble_eq_true rfl, Nat.le_of_ble_eq_true rfl⟩) ⟨blind_, va_recv hE.1 hP (ci := 6) (q0 := 0) rfl rfl, mkpre_ hE (hP.sub [0] rfl) (hD.sub [0] (by decide) rfl)⟩ rfl rfl hl.1 rfl (lv_room (Nat.le_of_ble_eq_true rfl)) dX6_jumpTime_2 ⟨Nat.le_of_ble_eq_true rfl, Nat.le_of_ble_eq_true rfl⟩) hP hD hS hA [0] rfl (fun H locs hP hD hS => ?_)
    refine lv_astore (lv' := [(4, .ref q_t_row1), (0, .ref q_t), (1, .int p1), (2, .int p2), (3, .int p3)]) hx hb dX6_jumpTime_5 hl (by decide) rfl (fun ls hl => ?_)
    refine lv_aload_n hx hb dX6_jumpTime_7 rfl (lv_at hl 1 rfl) ?_
    refine lv_iconst (v := 1) hx hb dX6_jumpTime_8 (by decide) ?_
    refine lv_iload_n hx hb dX6_jumpTime_9 rfl (lv_at hl 2 rfl) ?_
    refine lv_isub hx hb dX6_jumpTime_10 ?_
    by_cases c3 : (1 - p1) = 0
    · have hF := ifT c3 hF
      refine xrR (va_runV (As := [.int (1 - p1)]) (rest := []) ⟨hx, hb, hml, hown, hts⟩ (met_X6_rowOf_t l D ct q_t q_t_row0 q_t_row1 q_t_measures q_t_pieces q_t_joins q_t_finals q_t_kept H.size t_settledNear (1 - p1) c3) (cwV 1 hts gX6_jumpTime_X6_rowOf rfl rfl rfl (by decide +kernel) ⟨Nat.le_of_ble_eq_true rfl, Nat.le_of_ble_eq_true rfl⟩) ⟨blind_, va_recv hE.1 hP (ci := 6) (q0 := 0) rfl rfl, mkpre_ hE (hP.sub [0] rfl) (hD.sub [0] (by decide) rfl)⟩ rfl rfl hl.1 rfl (lv_room (Nat.le_of_ble_eq_true rfl)) dX6_jumpTime_11 ⟨Nat.le_of_ble_eq_true rfl, Nat.le_of_ble_eq_true rfl⟩) hP hD hS hA [0] rfl (fun H locs hP hD hS => ?_)
      refine lv_astore (lv' := [(5, .ref q_t_row0), (4, .ref q_t_row1), (0, .ref q_t), (1, .int p1), (2, .int p2), (3, .int p3)]) hx hb dX6_jumpTime_14 hl (by decide) rfl (fun ls hl => ?_)
      refine lv_iconst (v := 0) hx hb dX6_jumpTime_16 (by decide) ?_
      refine lv_istore (lv' := [(6, .int 0), (5, .ref q_t_row0), (4, .ref q_t_row1), (0, .ref q_t), (1, .int p1), (2, .int p2), (3, .int p3)]) hx hb dX6_jumpTime_17 hl (by decide) rfl (fun ls hl => ?_)
      refine lv_iconst (v := 1) hx hb dX6_jumpTime_19 (by decide) ?_
      refine lv_istore (lv' := [(7, .int 1), (6, .int 0), (5, .ref q_t_row0), (4, .ref q_t_row1), (0, .ref q_t), (1, .int p1), (2, .int p2), (3, .int p3)]) hx hb dX6_jumpTime_20 hl (by decide) rfl (fun ls hl => ?_)
      exact lX6_jumpTime_200022 C0 n p2 p3 0 1 _ _ _ hF hP hD hS (lv_sub hl [6, 7, 3, 2, 1, 0] rfl)
    · have hF := ifF c3 hF
      refine xrR (va_runV (As := [.int (1 - p1)]) (rest := []) ⟨hx, hb, hml, hown, hts⟩ (met_X6_rowOf_f l D ct q_t q_t_row0 q_t_row1 q_t_measures q_t_pieces q_t_joins q_t_finals q_t_kept H.size t_settledNear (1 - p1) c3) (cwV 1 hts gX6_jumpTime_X6_rowOf rfl rfl rfl (by decide +kernel) ⟨Nat.le_of_ble_eq_true rfl, Nat.le_of_ble_eq_true rfl⟩) ⟨blind_, va_recv hE.1 hP (ci := 6) (q0 := 0) rfl rfl, mkpre_ hE (hP.sub [0] rfl) (hD.sub [0] (by decide) rfl)⟩ rfl rfl hl.1 rfl (lv_room (Nat.le_of_ble_eq_true rfl)) dX6_jumpTime_11 ⟨Nat.le_of_ble_eq_true rfl, Nat.le_of_ble_eq_true rfl⟩) hP hD hS hA [0] rfl (fun H locs hP hD hS => ?_)
      refine lv_astore (lv' := [(5, .ref q_t_row1), (4, .ref q_t_row1), (0, .ref q_t), (1, .int p1), (2, .int p2), (3, .int p3)]) hx hb dX6_jumpTime_14 hl (by decide) rfl (fun ls hl => ?_)
      refine lv_iconst (v := 0) hx hb dX6_jumpTime_16 (by decide) ?_
      refine lv_istore (lv' := [(6, .int 0), (5, .ref q_t_row1), (4, .ref q_t_row1), (0, .ref q_t), (1, .int p1), (2, .int p2), (3, .int p3)]) hx hb dX6_jumpTime_17 hl (by decide) rfl (fun ls hl => ?_)
      refine lv_iconst (v := 1) hx hb dX6_jumpTime_19 (by decide) ?_
      refine lv_istore (lv' := [(7, .int 1), (6, .int 0), (5, .ref q_t_row1), (4, .ref q_t_row1), (0, .ref q_t), (1, .int p1), (2, .int p2), (3, .int p3)]) hx hb dX6_jumpTime_20 hl (by decide) rfl (fun ls hl => ?_)
      exact lX6_jumpTime_300022 C0 n p2 p3 0 1 _ _ _ hF hP hD hS (lv_sub hl [6, 7, 3, 2, 1, 0] rfl)
def W_26 (ct : Nat → ClassId) (a0 a1 a2 a3 a4 a5 a6 a7 a8 a9 a10 a11 : Nat) (v0 : Int32) (v1 : Nat → Int32) (v2 : Int32) (v3 : Int32) (v4 : Int32) (v5 : Int32) (v6 : Int32) (v7 : Int32) (v8 : Int32) (v9 : Int32) (v10 : Int32) (v11 : Nat → Int32) : va_W := [(a0, .inr (6, [.ref a1, .ref a2, .ref a3, .ref a4, .ref a5, .ref a6, .ref a7, .int v0])), (a6, .inl (ct 0, 300, .inl v1)), (a8, .inr (3, [.int v2, .int v3, .int v4, .int v5, .int v6, .int v7, .ref a9, .int v8, .int v9])), (a10, .inr (7, [.ref a11, .int v10])), (a11, .inl (ct 2, 300, .inl v11))]
/-! NeedleHouse$Track.rangeIn(ILNeedleHouse$Rule;LNeedleHouse$Trains;)I -/
theorem i_X6_rangeIn_X3 : ∀ w ∈ wsX30, w ∈ wsX6_rangeIn := by decide +kernel
set_option maxHeartbeats 4000000 in
set_option maxRecDepth 100000 in
theorem jX6_rangeIn_21 {p : Program} {l : Launch} {e : Env} {s : State} {m : MethodId} {args : Array Value} {below : List Frame} {meth : Method} {c : Code} {D : va_G} {ct : Nat → ClassId} {A : Nat → Prop} {q_t q_t_row0 q_t_row1 q_t_measures q_t_pieces q_t_joins q_t_finals q_t_kept q_p2 q_p2_steps q_p3 q_p3_going : Nat} {t_settledNear : Int32} {t_finals : Nat → Int32} {p2_limit : Int32} {p2_near : Int32} {p2_share : Int32} {p2_shareOf : Int32} {p2_window : Int32} {p2_storm : Int32} {p2_stepCount : Int32} {p2_clauses : Int32} {p3_size : Int32} {p3_going : Nat → Int32} {o_r : Int32} (C0 : Cx RX6 cX6_rangeIn 10 (some .int) wsX6_rangeIn D ct A p s m args meth c) (k21 : (Nat → Int32) → Int32 → Int32 → Int32 → (Nat → Int32) → Int32 → Int32 → Int32 → Int32 → Int32 → Option (Int32)) (hk21 : ∀ (x_4 : Int32) (x_5 : Int32) (x_6 : Int32) (x_7 : Int32) (x_8 : Int32) (H : Heap) (locs : List Loc) (ls : Array Slot), k21 t_finals p2_share p2_shareOf p2_window p3_going x_4 x_5 x_6 x_7 x_8 = some (o_r) → va_P D vwCl (W_26 ct q_t q_t_row0 q_t_row1 q_t_measures q_t_pieces q_t_joins q_t_finals q_t_kept q_p2 q_p2_steps q_p3 q_p3_going t_settledNear t_finals p2_limit p2_near p2_share p2_shareOf p2_window p2_storm p2_stepCount p2_clauses p3_size p3_going) H → va_D A (W_26 ct q_t q_t_row0 q_t_row1 q_t_measures q_t_pieces q_t_joins q_t_finals q_t_kept q_p2 q_p2_steps q_p3 q_p3_going t_settledNear t_finals p2_limit p2_near p2_share p2_shareOf p2_window p2_storm p2_stepCount p2_clauses p3_size p3_going) → va_S A s.heap H locs → lv_has ls 10 [(0, .ref q_t), (2, .ref q_p2), (3, .ref q_p3), (4, .int x_4), (5, .int x_5), (6, .int x_6), (7, .int x_7), (8, .int x_8)] → W p l e ({ frames := 1, cells := 0, slots := 0, locals := 21 } : Room) s m args below meth c H locs 0 0 (MQ below (va_Qi (fun r (_ : Unit) => r = o_r) (fun _ t => va_P D vwCl (W_26 ct q_t q_t_row0 q_t_row1 q_t_measures q_t_pieces q_t_joins q_t_finals q_t_kept q_p2 q_p2_steps q_p3 q_p3_going t_settledNear t_finals p2_limit p2_near p2_share p2_shareOf p2_window p2_storm p2_stepCount p2_clauses p3_size p3_going) t.heap) A) args s 0 0 A) (F0 m 21 ls [])) (n : Nat) (x_4 : Int32) (x_5 : Int32) (x_6 : Int32) (x_7 : Int32) (x_8 : Int32) (H : Heap) (locs : List Loc) (ls : Array Slot) : JX6_rangeIn_21 k21 n t_finals p2_share p2_shareOf p2_window p3_going x_4 x_5 x_6 x_7 x_8 = some (o_r) → va_P D vwCl (W_26 ct q_t q_t_row0 q_t_row1 q_t_measures q_t_pieces q_t_joins q_t_finals q_t_kept q_p2 q_p2_steps q_p3 q_p3_going t_settledNear t_finals p2_limit p2_near p2_share p2_shareOf p2_window p2_storm p2_stepCount p2_clauses p3_size p3_going) H → va_D A (W_26 ct q_t q_t_row0 q_t_row1 q_t_measures q_t_pieces q_t_joins q_t_finals q_t_kept q_p2 q_p2_steps q_p3 q_p3_going t_settledNear t_finals p2_limit p2_near p2_share p2_shareOf p2_window p2_storm p2_stepCount p2_clauses p3_size p3_going) → va_S A s.heap H locs → lv_has ls 10 [(0, .ref q_t), (2, .ref q_p2), (3, .ref q_p3), (4, .int x_4), (5, .int x_5), (6, .int x_6), (7, .int x_7), (8, .int x_8)] → W p l e ({ frames := 1, cells := 0, slots := 0, locals := 21 } : Room) s m args below meth c H locs 0 0 (MQ below (va_Qi (fun r (_ : Unit) => r = o_r) (fun _ t => va_P D vwCl (W_26 ct q_t q_t_row0 q_t_row1 q_t_measures q_t_pieces q_t_joins q_t_finals q_t_kept q_p2 q_p2_steps q_p3 q_p3_going t_settledNear t_finals p2_limit p2_near p2_share p2_shareOf p2_window p2_storm p2_stepCount p2_clauses p3_size p3_going) t.heap) A) args s 0 0 A) (F0 m 21 ls []) := by
  intro hF hP hD hS hl
  obtain ⟨hx, hb, hml, hown, hts, hr, hlocks, hE, hA⟩ := id C0
  unfold JX6_rangeIn_21 at hF
  refine lv_iload hx hb dX6_rangeIn_21 (lv_at hl 7 rfl) ?_
  refine lv_iload hx hb dX6_rangeIn_23 (lv_at hl 3 rfl) ?_
  refine lv_aload_n hx hb dX6_rangeIn_25 rfl (lv_at hl 1 rfl) ?_
  refine va_getN (D := D) (ci := 3) (v := .int p2_window) (C := RX3) (T := TX3) (N := 9) hx hb hts i_X6_rangeIn_X3 hown hE.1 hP 2 rfl rfl 4 (by decide) (va_Nw.use rfl (NW_14 hE.2)) (fun _ h9 => h9) rfl dX6_rangeIn_26 ?_
  refine lv_iadd hx hb dX6_rangeIn_29 ?_
  refine lv_icmp_ge (tgt := 107) hx hb dX6_rangeIn_30 (by decide) (fun c2 => ?_) (fun c2 => ?_)
  · have hF := ifT c2 hF
    refine lv_iload hx hb dX6_rangeIn_107 (lv_at hl 4 rfl) ?_
    refine lv_if_eq (tgt := 131) hx hb dX6_rangeIn_109 (by decide) (fun c3 => ?_) (fun c3 => ?_)
    · have hF := ifT c3 hF
      refine lv_iconst (v := (-1)) hx hb dX6_rangeIn_131 (by decide) ?_
      obtain rfl := Option.some.inj hF
      exact W.iret hx hb hr (fun t ht hW => ⟨⟨_, (), rfl, rfl, vaP_at ht hP⟩, hS.F ht⟩) hS.2.2 dX6_rangeIn_132
    · have hF := ifF c3 hF
      refine lv_iload hx hb dX6_rangeIn_112 (lv_at hl 4 rfl) ?_
      refine lv_aload_n hx hb dX6_rangeIn_114 rfl (lv_at hl 1 rfl) ?_
      refine va_getN (D := D) (ci := 3) (v := .int p2_shareOf) (C := RX3) (T := TX3) (N := 9) hx hb hts i_X6_rangeIn_X3 hown hE.1 hP 2 rfl rfl 3 (by decide) (va_Nw.use rfl (NW_15 hE.2)) (fun _ h9 => h9) rfl dX6_rangeIn_115 ?_
      refine lv_imul hx hb dX6_rangeIn_118 ?_
      refine lv_aload_n hx hb dX6_rangeIn_119 rfl (lv_at hl 1 rfl) ?_
      refine va_getN (D := D) (ci := 3) (v := .int p2_window) (C := RX3) (T := TX3) (N := 9) hx hb hts i_X6_rangeIn_X3 hown hE.1 hP 2 rfl rfl 4 (by decide) (va_Nw.use rfl (NW_14 hE.2)) (fun _ h9 => h9) rfl dX6_rangeIn_120 ?_
      refine lv_aload_n hx hb dX6_rangeIn_123 rfl (lv_at hl 1 rfl) ?_
      refine va_getN (D := D) (ci := 3) (v := .int p2_share) (C := RX3) (T := TX3) (N := 9) hx hb hts i_X6_rangeIn_X3 hown hE.1 hP 2 rfl rfl 2 (by decide) (va_Nw.use rfl (NW_16 hE.2)) (fun _ h9 => h9) rfl dX6_rangeIn_124 ?_
      refine lv_imul hx hb dX6_rangeIn_127 ?_
      refine lv_icmp_ge (tgt := 133) hx hb dX6_rangeIn_128 (by decide) (fun c4 => ?_) (fun c4 => ?_)
      · have hF := ifT c4 hF
        refine lv_iload hx hb dX6_rangeIn_133 (lv_at hl 6 rfl) ?_
        refine lv_iload hx hb dX6_rangeIn_135 (lv_at hl 5 rfl) ?_
        refine lv_isub hx hb dX6_rangeIn_137 ?_
        obtain rfl := Option.some.inj hF
        exact W.iret hx hb hr (fun t ht hW => ⟨⟨_, (), rfl, rfl, vaP_at ht hP⟩, hS.F ht⟩) hS.2.2 dX6_rangeIn_138
      · have hF := ifF c4 hF
        refine lv_iconst (v := (-1)) hx hb dX6_rangeIn_131 (by decide) ?_
        obtain rfl := Option.some.inj hF
        exact W.iret hx hb hr (fun t ht hW => ⟨⟨_, (), rfl, rfl, vaP_at ht hP⟩, hS.F ht⟩) hS.2.2 dX6_rangeIn_132
  · have hF := ifF c2 hF
    refine lv_aload_n hx hb dX6_rangeIn_33 rfl (lv_at hl 0 rfl) ?_
    refine lv_iload hx hb dX6_rangeIn_34 (lv_at hl 7 rfl) ?_
    obtain ⟨r5, h6, hF⟩ := ob1_ex hF
    refine xiR (va_runV (As := [.int x_8]) (rest := []) ⟨hx, hb, hml, hown, hts⟩ (met_X6_finalAt l D ct q_t q_t_row0 q_t_row1 q_t_measures q_t_pieces q_t_joins q_t_finals q_t_kept H.size t_settledNear t_finals x_8 n r5 h6) (cwV 1 hts gX6_rangeIn_X6_finalAt rfl rfl rfl (by decide +kernel) ⟨Nat.le_of_ble_eq_true rfl, Nat.le_of_ble_eq_true rfl⟩) ⟨blind_, va_recv hE.1 hP (ci := 6) (q0 := 0) rfl rfl, mkpre_ hE (hP.sub [0, 1] rfl) (hD.sub [0, 1] (by decide) rfl)⟩ rfl rfl hl.1 rfl (lv_room (Nat.le_of_ble_eq_true rfl)) dX6_rangeIn_36 ⟨Nat.le_of_ble_eq_true rfl, Nat.le_of_ble_eq_true rfl⟩) hP hD hS hA [0, 1] rfl (fun H locs hP hD hS => ?_)
    refine lv_istore (lv' := [(9, .int r5), (0, .ref q_t), (2, .ref q_p2), (3, .ref q_p3), (4, .int x_4), (5, .int x_5), (6, .int x_6), (7, .int x_7), (8, .int x_8)]) hx hb dX6_rangeIn_39 hl (by decide) rfl (fun ls hl => ?_)
    refine lv_iload hx hb dX6_rangeIn_41 (lv_at hl 0 rfl) ?_
    refine lv_ldc hx hb hown (hts (.constant RX6 45 (-2000000000)) (by decide +kernel)) dX6_rangeIn_43 ?_
    refine lv_icmp_eq (tgt := 101) hx hb dX6_rangeIn_45 (by decide) (fun c7 => ?_) (fun c7 => ?_)
    · have hF := ifT c7 hF
      obtain ⟨x8, ex8⟩ : ∃ y : Int32, y = x_8 + 1 := ⟨_, rfl⟩
      refine lv_iinc (v := x8) (lv' := [(8, .int x8), (9, .int r5), (0, .ref q_t), (2, .ref q_p2), (3, .ref q_p3), (4, .int x_4), (5, .int x_5), (6, .int x_6), (7, .int x_7)]) hx hb dX6_rangeIn_101 hl (k := 8) rfl (by rw [ex8]; rfl) (by decide) rfl (fun ls hl => ?_)
      have hF := bn_as ex8 hF
      refine lv_goto (tgt := 21) hx hb dX6_rangeIn_104 (by decide) ?_
      exact hk21 x_4 x_5 x_6 x_7 x8 _ _ _ hF hP hD hS (lv_sub hl [2, 3, 4, 5, 6, 7, 8, 0] rfl)
    · have hF := ifF c7 hF
      refine lv_aload_n hx hb dX6_rangeIn_48 rfl (lv_at hl 3 rfl) ?_
      refine lv_iload hx hb dX6_rangeIn_49 (lv_at hl 8 rfl) ?_
      obtain ⟨r9, h10, hF⟩ := ob1_ex hF
      refine xiR (va_runV (As := [.int x_8]) (rest := []) ⟨hx, hb, hml, hown, hts⟩ (met_X7_goBy l D ct q_p3 q_p3_going H.size p3_size p3_going x_8 n r9 h10) (cwV 1 hts gX6_rangeIn_X7_goBy rfl rfl rfl (by decide +kernel) ⟨Nat.le_of_ble_eq_true rfl, Nat.le_of_ble_eq_true rfl⟩) ⟨blind_, va_recv hE.1 hP (ci := 7) (q0 := 3) rfl rfl, mkpre_ hE (hP.sub [3, 4] rfl) (hD.sub [3, 4] (by decide) rfl)⟩ rfl rfl hl.1 rfl (lv_room (Nat.le_of_ble_eq_true rfl)) dX6_rangeIn_51 ⟨Nat.le_of_ble_eq_true rfl, Nat.le_of_ble_eq_true rfl⟩) hP hD hS hA [3, 4] rfl (fun H locs hP hD hS => ?_)
      refine lv_if_eq (tgt := 60) hx hb dX6_rangeIn_54 (by decide) (fun c11 => ?_) (fun c11 => ?_)
      · have hF := ifT c11 hF
        refine lv_iload hx hb dX6_rangeIn_60 (lv_at hl 5 rfl) ?_
        refine lv_if_ne (tgt := 70) hx hb dX6_rangeIn_62 (by decide) (fun c12 => ?_) (fun c12 => ?_)
        · have hF := ifF c12 hF
          refine lv_iload hx hb dX6_rangeIn_70 (lv_at hl 6 rfl) ?_
          refine lv_iload hx hb dX6_rangeIn_72 (lv_at hl 0 rfl) ?_
          refine va_mmin hx hb (hml.trans hl.1.symm) hown (hts (.methodLink RX6 69 Lib.Math.min.name) (by decide +kernel)) (hts (.static Lib.Math.min.name) (by decide +kernel)) (hts (.initialized "java/lang/Math") (by decide +kernel)) (hts (.code Lib.Math.min.name Lib.Math.min.code 2 (some .int)) (by decide +kernel)) (Nat.le_of_ble_eq_true rfl) (Nat.le_of_ble_eq_true rfl) (Nat.zero_le _) (Nat.zero_le _) dX6_rangeIn_74 ?_
          refine lv_topi (fun x13 ex13 => ?_)
          have hF := bn_as ex13 hF
          refine lv_istore (lv' := [(6, .int x13), (9, .int r5), (0, .ref q_t), (2, .ref q_p2), (3, .ref q_p3), (4, .int x_4), (5, .int x_5), (7, .int x_7), (8, .int x_8)]) hx hb dX6_rangeIn_77 hl (by decide) rfl (fun ls hl => ?_)
          refine lv_iload hx hb dX6_rangeIn_79 (lv_at hl 6 rfl) ?_
          refine lv_if_ne (tgt := 89) hx hb dX6_rangeIn_81 (by decide) (fun c14 => ?_) (fun c14 => ?_)
          · have hF := ifF c14 hF
            refine lv_iload hx hb dX6_rangeIn_89 (lv_at hl 7 rfl) ?_
            refine lv_iload hx hb dX6_rangeIn_91 (lv_at hl 1 rfl) ?_
            refine va_mmax hx hb (hml.trans hl.1.symm) hown (hts (.methodLink RX6 60 Lib.Math.max.name) (by decide +kernel)) (hts (.static Lib.Math.max.name) (by decide +kernel)) (hts (.initialized "java/lang/Math") (by decide +kernel)) (hts (.code Lib.Math.max.name Lib.Math.max.code 2 (some .int)) (by decide +kernel)) (Nat.le_of_ble_eq_true rfl) (Nat.le_of_ble_eq_true rfl) (Nat.zero_le _) (Nat.zero_le _) dX6_rangeIn_93 ?_
            refine lv_topi (fun x15 ex15 => ?_)
            have hF := bn_as ex15 hF
            refine lv_istore (lv' := [(7, .int x15), (6, .int x13), (9, .int r5), (0, .ref q_t), (2, .ref q_p2), (3, .ref q_p3), (4, .int x_4), (5, .int x_5), (8, .int x_8)]) hx hb dX6_rangeIn_96 hl (by decide) rfl (fun ls hl => ?_)
            obtain ⟨x16, ex16⟩ : ∃ y : Int32, y = x_5 + 1 := ⟨_, rfl⟩
            refine lv_iinc (v := x16) (lv' := [(5, .int x16), (7, .int x15), (6, .int x13), (9, .int r5), (0, .ref q_t), (2, .ref q_p2), (3, .ref q_p3), (4, .int x_4), (8, .int x_8)]) hx hb dX6_rangeIn_98 hl (k := 7) rfl (by rw [ex16]; rfl) (by decide) rfl (fun ls hl => ?_)
            have hF := bn_as ex16 hF
            obtain ⟨x17, ex17⟩ : ∃ y : Int32, y = x_8 + 1 := ⟨_, rfl⟩
            refine lv_iinc (v := x17) (lv' := [(8, .int x17), (5, .int x16), (7, .int x15), (6, .int x13), (9, .int r5), (0, .ref q_t), (2, .ref q_p2), (3, .ref q_p3), (4, .int x_4)]) hx hb dX6_rangeIn_101 hl (k := 8) rfl (by rw [ex17]; rfl) (by decide) rfl (fun ls hl => ?_)
            have hF := bn_as ex17 hF
            refine lv_goto (tgt := 21) hx hb dX6_rangeIn_104 (by decide) ?_
            exact hk21 x_4 x16 x13 x15 x17 _ _ _ hF hP hD hS (lv_sub hl [5, 6, 7, 8, 1, 3, 2, 0] rfl)
          · have hF := ifT c14 hF
            refine lv_iload hx hb dX6_rangeIn_84 (lv_at hl 1 rfl) ?_
            refine lv_goto (tgt := 96) hx hb dX6_rangeIn_86 (by decide) ?_
            refine lv_istore (lv' := [(7, .int r5), (6, .int x13), (9, .int r5), (0, .ref q_t), (2, .ref q_p2), (3, .ref q_p3), (4, .int x_4), (5, .int x_5), (8, .int x_8)]) hx hb dX6_rangeIn_96 hl (by decide) rfl (fun ls hl => ?_)
            obtain ⟨x18, ex18⟩ : ∃ y : Int32, y = x_5 + 1 := ⟨_, rfl⟩
            refine lv_iinc (v := x18) (lv' := [(5, .int x18), (7, .int r5), (6, .int x13), (9, .int r5), (0, .ref q_t), (2, .ref q_p2), (3, .ref q_p3), (4, .int x_4), (8, .int x_8)]) hx hb dX6_rangeIn_98 hl (k := 7) rfl (by rw [ex18]; rfl) (by decide) rfl (fun ls hl => ?_)
            have hF := bn_as ex18 hF
            obtain ⟨x19, ex19⟩ : ∃ y : Int32, y = x_8 + 1 := ⟨_, rfl⟩
            refine lv_iinc (v := x19) (lv' := [(8, .int x19), (5, .int x18), (7, .int r5), (6, .int x13), (9, .int r5), (0, .ref q_t), (2, .ref q_p2), (3, .ref q_p3), (4, .int x_4)]) hx hb dX6_rangeIn_101 hl (k := 8) rfl (by rw [ex19]; rfl) (by decide) rfl (fun ls hl => ?_)
            have hF := bn_as ex19 hF
            refine lv_goto (tgt := 21) hx hb dX6_rangeIn_104 (by decide) ?_
            exact hk21 x_4 x18 x13 r5 x19 _ _ _ hF hP hD hS (lv_sub hl [5, 6, 7, 8, 1, 3, 2, 0] rfl)
        · have hF := ifT c12 hF
          refine lv_iload hx hb dX6_rangeIn_65 (lv_at hl 0 rfl) ?_
          refine lv_goto (tgt := 77) hx hb dX6_rangeIn_67 (by decide) ?_
          refine lv_istore (lv' := [(6, .int r5), (9, .int r5), (0, .ref q_t), (2, .ref q_p2), (3, .ref q_p3), (4, .int x_4), (5, .int x_5), (7, .int x_7), (8, .int x_8)]) hx hb dX6_rangeIn_77 hl (by decide) rfl (fun ls hl => ?_)
          refine lv_iload hx hb dX6_rangeIn_79 (lv_at hl 6 rfl) ?_
          refine lv_if_ne (tgt := 89) hx hb dX6_rangeIn_81 (by decide) (fun c20 => ?_) (fun c20 => ?_)
          · have hF := ifF c20 hF
            refine lv_iload hx hb dX6_rangeIn_89 (lv_at hl 7 rfl) ?_
            refine lv_iload hx hb dX6_rangeIn_91 (lv_at hl 1 rfl) ?_
            refine va_mmax hx hb (hml.trans hl.1.symm) hown (hts (.methodLink RX6 60 Lib.Math.max.name) (by decide +kernel)) (hts (.static Lib.Math.max.name) (by decide +kernel)) (hts (.initialized "java/lang/Math") (by decide +kernel)) (hts (.code Lib.Math.max.name Lib.Math.max.code 2 (some .int)) (by decide +kernel)) (Nat.le_of_ble_eq_true rfl) (Nat.le_of_ble_eq_true rfl) (Nat.zero_le _) (Nat.zero_le _) dX6_rangeIn_93 ?_
            refine lv_topi (fun x21 ex21 => ?_)
            have hF := bn_as ex21 hF
            refine lv_istore (lv' := [(7, .int x21), (6, .int r5), (9, .int r5), (0, .ref q_t), (2, .ref q_p2), (3, .ref q_p3), (4, .int x_4), (5, .int x_5), (8, .int x_8)]) hx hb dX6_rangeIn_96 hl (by decide) rfl (fun ls hl => ?_)
            obtain ⟨x22, ex22⟩ : ∃ y : Int32, y = x_5 + 1 := ⟨_, rfl⟩
            refine lv_iinc (v := x22) (lv' := [(5, .int x22), (7, .int x21), (6, .int r5), (9, .int r5), (0, .ref q_t), (2, .ref q_p2), (3, .ref q_p3), (4, .int x_4), (8, .int x_8)]) hx hb dX6_rangeIn_98 hl (k := 7) rfl (by rw [ex22]; rfl) (by decide) rfl (fun ls hl => ?_)
            have hF := bn_as ex22 hF
            obtain ⟨x23, ex23⟩ : ∃ y : Int32, y = x_8 + 1 := ⟨_, rfl⟩
            refine lv_iinc (v := x23) (lv' := [(8, .int x23), (5, .int x22), (7, .int x21), (6, .int r5), (9, .int r5), (0, .ref q_t), (2, .ref q_p2), (3, .ref q_p3), (4, .int x_4)]) hx hb dX6_rangeIn_101 hl (k := 8) rfl (by rw [ex23]; rfl) (by decide) rfl (fun ls hl => ?_)
            have hF := bn_as ex23 hF
            refine lv_goto (tgt := 21) hx hb dX6_rangeIn_104 (by decide) ?_
            exact hk21 x_4 x22 r5 x21 x23 _ _ _ hF hP hD hS (lv_sub hl [5, 6, 7, 8, 1, 3, 2, 0] rfl)
          · have hF := ifT c20 hF
            refine lv_iload hx hb dX6_rangeIn_84 (lv_at hl 1 rfl) ?_
            refine lv_goto (tgt := 96) hx hb dX6_rangeIn_86 (by decide) ?_
            refine lv_istore (lv' := [(7, .int r5), (6, .int r5), (9, .int r5), (0, .ref q_t), (2, .ref q_p2), (3, .ref q_p3), (4, .int x_4), (5, .int x_5), (8, .int x_8)]) hx hb dX6_rangeIn_96 hl (by decide) rfl (fun ls hl => ?_)
            obtain ⟨x24, ex24⟩ : ∃ y : Int32, y = x_5 + 1 := ⟨_, rfl⟩
            refine lv_iinc (v := x24) (lv' := [(5, .int x24), (7, .int r5), (6, .int r5), (9, .int r5), (0, .ref q_t), (2, .ref q_p2), (3, .ref q_p3), (4, .int x_4), (8, .int x_8)]) hx hb dX6_rangeIn_98 hl (k := 7) rfl (by rw [ex24]; rfl) (by decide) rfl (fun ls hl => ?_)
            have hF := bn_as ex24 hF
            obtain ⟨x25, ex25⟩ : ∃ y : Int32, y = x_8 + 1 := ⟨_, rfl⟩
            refine lv_iinc (v := x25) (lv' := [(8, .int x25), (5, .int x24), (7, .int r5), (6, .int r5), (9, .int r5), (0, .ref q_t), (2, .ref q_p2), (3, .ref q_p3), (4, .int x_4)]) hx hb dX6_rangeIn_101 hl (k := 8) rfl (by rw [ex25]; rfl) (by decide) rfl (fun ls hl => ?_)
            have hF := bn_as ex25 hF
            refine lv_goto (tgt := 21) hx hb dX6_rangeIn_104 (by decide) ?_
            exact hk21 x_4 x24 r5 r5 x25 _ _ _ hF hP hD hS (lv_sub hl [5, 6, 7, 8, 1, 3, 2, 0] rfl)
      · have hF := ifF c11 hF
        refine lv_goto (tgt := 101) hx hb dX6_rangeIn_57 (by decide) ?_
        obtain ⟨x26, ex26⟩ : ∃ y : Int32, y = x_8 + 1 := ⟨_, rfl⟩
        refine lv_iinc (v := x26) (lv' := [(8, .int x26), (9, .int r5), (0, .ref q_t), (2, .ref q_p2), (3, .ref q_p3), (4, .int x_4), (5, .int x_5), (6, .int x_6), (7, .int x_7)]) hx hb dX6_rangeIn_101 hl (k := 8) rfl (by rw [ex26]; rfl) (by decide) rfl (fun ls hl => ?_)
        have hF := bn_as ex26 hF
        refine lv_goto (tgt := 21) hx hb dX6_rangeIn_104 (by decide) ?_
        exact hk21 x_4 x_5 x_6 x_7 x26 _ _ _ hF hP hD hS (lv_sub hl [2, 3, 4, 5, 6, 7, 8, 0] rfl)
theorem lX6_rangeIn_21 {p : Program} {l : Launch} {e : Env} {s : State} {m : MethodId} {args : Array Value} {below : List Frame} {meth : Method} {c : Code} {D : va_G} {ct : Nat → ClassId} {A : Nat → Prop} {q_t q_t_row0 q_t_row1 q_t_measures q_t_pieces q_t_joins q_t_finals q_t_kept q_p2 q_p2_steps q_p3 q_p3_going : Nat} {t_settledNear : Int32} {t_finals : Nat → Int32} {p2_limit : Int32} {p2_near : Int32} {p2_share : Int32} {p2_shareOf : Int32} {p2_window : Int32} {p2_storm : Int32} {p2_stepCount : Int32} {p2_clauses : Int32} {p3_size : Int32} {p3_going : Nat → Int32} {o_r : Int32} (C0 : Cx RX6 cX6_rangeIn 10 (some .int) wsX6_rangeIn D ct A p s m args meth c) : ∀ (n : Nat) (x_4 : Int32) (x_5 : Int32) (x_6 : Int32) (x_7 : Int32) (x_8 : Int32) (H : Heap) (locs : List Loc) (ls : Array Slot), LX6_rangeIn_21 n t_finals p2_share p2_shareOf p2_window p3_going x_4 x_5 x_6 x_7 x_8 = some (o_r) → va_P D vwCl (W_26 ct q_t q_t_row0 q_t_row1 q_t_measures q_t_pieces q_t_joins q_t_finals q_t_kept q_p2 q_p2_steps q_p3 q_p3_going t_settledNear t_finals p2_limit p2_near p2_share p2_shareOf p2_window p2_storm p2_stepCount p2_clauses p3_size p3_going) H → va_D A (W_26 ct q_t q_t_row0 q_t_row1 q_t_measures q_t_pieces q_t_joins q_t_finals q_t_kept q_p2 q_p2_steps q_p3 q_p3_going t_settledNear t_finals p2_limit p2_near p2_share p2_shareOf p2_window p2_storm p2_stepCount p2_clauses p3_size p3_going) → va_S A s.heap H locs → lv_has ls 10 [(0, .ref q_t), (2, .ref q_p2), (3, .ref q_p3), (4, .int x_4), (5, .int x_5), (6, .int x_6), (7, .int x_7), (8, .int x_8)] → W p l e ({ frames := 1, cells := 0, slots := 0, locals := 21 } : Room) s m args below meth c H locs 0 0 (MQ below (va_Qi (fun r (_ : Unit) => r = o_r) (fun _ t => va_P D vwCl (W_26 ct q_t q_t_row0 q_t_row1 q_t_measures q_t_pieces q_t_joins q_t_finals q_t_kept q_p2 q_p2_steps q_p3 q_p3_going t_settledNear t_finals p2_limit p2_near p2_share p2_shareOf p2_window p2_storm p2_stepCount p2_clauses p3_size p3_going) t.heap) A) args s 0 0 A) (F0 m 21 ls []) := by
  intro n
  induction n with
  | zero => intro x_4 x_5 x_6 x_7 x_8 H locs ls hF; exact nomatch (show (none : Option (Int32)) = _ from hF)
  | succ n ih => intro x_4 x_5 x_6 x_7 x_8 H locs ls hF; exact jX6_rangeIn_21 C0 (LX6_rangeIn_21 n) ih n x_4 x_5 x_6 x_7 x_8 H locs ls hF
set_option maxHeartbeats 4000000 in
set_option maxRecDepth 100000 in
theorem met_X6_rangeIn (l : Launch) (D : va_G) (ct : Nat → ClassId) (q_t : Nat) (q_t_row0 : Nat) (q_t_row1 : Nat) (q_t_measures : Nat) (q_t_pieces : Nat) (q_t_joins : Nat) (q_t_finals : Nat) (q_t_kept : Nat) (q_p2 : Nat) (q_p2_steps : Nat) (q_p3 : Nat) (q_p3_going : Nat) (sz : Nat) (t_settledNear : Int32) (t_finals : Nat → Int32) (p2_limit : Int32) (p2_near : Int32) (p2_share : Int32) (p2_shareOf : Int32) (p2_window : Int32) (p2_storm : Int32) (p2_stepCount : Int32) (p2_clauses : Int32) (p3_size : Int32) (p3_going : Nat → Int32) (p1 : Int32) (n : Nat) (o_r : Int32) (hF : FX6_rangeIn n t_finals p2_share p2_shareOf p2_window p3_going p1 = some (o_r)) : Met l yX6_rangeIn wsX6_rangeIn ({ frames := 1, cells := 0, slots := 0, locals := 21 } : Room) (va_Pc [.ref q_t, .int p1, .ref q_p2, .ref q_p3] (pre_ D ct sz (W_26 ct q_t q_t_row0 q_t_row1 q_t_measures q_t_pieces q_t_joins q_t_finals q_t_kept q_p2 q_p2_steps q_p3 q_p3_going t_settledNear t_finals p2_limit p2_near p2_share p2_shareOf p2_window p2_storm p2_stepCount p2_clauses p3_size p3_going))) (va_Qi (fun r (_ : Unit) => r = o_r) (fun _ t => va_P D vwCl (W_26 ct q_t q_t_row0 q_t_row1 q_t_measures q_t_pieces q_t_joins q_t_finals q_t_kept q_p2 q_p2_steps q_p3 q_p3_going t_settledNear t_finals p2_limit p2_near p2_share p2_shareOf p2_window p2_storm p2_stepCount p2_clauses p3_size p3_going) t.heap) (va_A (W_26 ct q_t q_t_row0 q_t_row1 q_t_measures q_t_pieces q_t_joins q_t_finals q_t_kept q_p2 q_p2_steps q_p3 q_p3_going t_settledNear t_finals p2_limit p2_near p2_share p2_shareOf p2_window p2_storm p2_stepCount p2_clauses p3_size p3_going) sz)) 0 0 (va_A (W_26 ct q_t q_t_row0 q_t_row1 q_t_measures q_t_pieces q_t_joins q_t_finals q_t_kept q_p2 q_p2_steps q_p3 q_p3_going t_settledNear t_finals p2_limit p2_near p2_share p2_shareOf p2_window p2_storm p2_stepCount p2_clauses p3_size p3_going) sz) := by
  refine Met.ofW (cc := cX6_rangeIn) (maxL := 10) (ret := (some .int)) (by decide) rfl ?_
  intro p e s m args below meth c s₁ B hml hv
  obtain ⟨rfl, hsz, hP, hE, hD0⟩ := hv
  have hx := B.exec
  have hb := B.bytes
  have hr := B.returns
  have hts := atoms_spec (ws := wsX6_rangeIn) B.pre
  have hown : s.vm.findClass RX6 = some m.cls := findClass_of_methodNamed B.named
  have hlocks := B.notSynchronized
  subst hsz
  have hD := hD0.self (sz := s.heap.size)
  generalize hAe : va_A (W_26 ct q_t q_t_row0 q_t_row1 q_t_measures q_t_pieces q_t_joins q_t_finals q_t_kept q_p2 q_p2_steps q_p3 q_p3_going t_settledNear t_finals p2_limit p2_near p2_share p2_shareOf p2_window p2_storm p2_stepCount p2_clauses p3_size p3_going) s.heap.size = A at hD ⊢
  have hA : ∀ q : Nat, s.heap.size ≤ q → A q := fun q h => by rw [← hAe]; exact Or.inr h
  have hl := lv_entry ([.ref q_t, .int p1, .ref q_p2, .ref q_p3]) (n := 10) (Nat.le_of_ble_eq_true rfl)
  rw [lg_entry_eq]
  generalize (lg_sl ([.ref q_t, .int p1, .ref q_p2, .ref q_p3]) ++ List.replicate (10 - (lg_sl ([.ref q_t, .int p1, .ref q_p2, .ref q_p3])).length) Slot.unset).toArray = ls at hl ⊢
  have hl : lv_has ls 10 [(0, .ref q_t), (1, .int p1), (2, .ref q_p2), (3, .ref q_p3)] := hl
  have C0 : Cx RX6 cX6_rangeIn 10 (some .int) wsX6_rangeIn D ct A p s m ([.ref q_t, .int p1, .ref q_p2, .ref q_p3]).toArray meth c := ⟨hx, hb, hml, hown, hts, hr, hlocks, hE, hA⟩
  have hS : ∀ H : Heap, s.heap = H → va_S A s.heap H [] := fun H h => h ▸ va_S.rf
  generalize hH : s.heap = H at hP ⊢
  have hS := hS H hH
  unfold FX6_rangeIn at hF
  refine lv_iload_n hx hb dX6_rangeIn_0 rfl (lv_at hl 1 rfl) ?_
  refine lv_aload_n hx hb dX6_rangeIn_1 rfl (lv_at hl 2 rfl) ?_
  refine va_getN (D := D) (ci := 3) (v := .int p2_window) (C := RX3) (T := TX3) (N := 9) hx hb hts i_X6_rangeIn_X3 hown hE.1 hP 2 rfl rfl 4 (by decide) (va_Nw.use rfl (NW_14 hE.2)) (fun _ h9 => h9) rfl dX6_rangeIn_2 ?_
  refine lv_imul hx hb dX6_rangeIn_5 ?_
  refine lv_topi (fun x1 ex1 => ?_)
  have hF := bn_as ex1 hF
  refine lv_istore (lv' := [(4, .int x1), (0, .ref q_t), (1, .int p1), (2, .ref q_p2), (3, .ref q_p3)]) hx hb dX6_rangeIn_6 hl (by decide) rfl (fun ls hl => ?_)
  refine lv_iconst (v := 0) hx hb dX6_rangeIn_8 (by decide) ?_
  refine lv_istore (lv' := [(5, .int 0), (4, .int x1), (0, .ref q_t), (1, .int p1), (2, .ref q_p2), (3, .ref q_p3)]) hx hb dX6_rangeIn_9 hl (by decide) rfl (fun ls hl => ?_)
  refine lv_iconst (v := 0) hx hb dX6_rangeIn_11 (by decide) ?_
  refine lv_istore (lv' := [(6, .int 0), (5, .int 0), (4, .int x1), (0, .ref q_t), (1, .int p1), (2, .ref q_p2), (3, .ref q_p3)]) hx hb dX6_rangeIn_12 hl (by decide) rfl (fun ls hl => ?_)
  refine lv_iconst (v := 0) hx hb dX6_rangeIn_14 (by decide) ?_
  refine lv_istore (lv' := [(7, .int 0), (6, .int 0), (5, .int 0), (4, .int x1), (0, .ref q_t), (1, .int p1), (2, .ref q_p2), (3, .ref q_p3)]) hx hb dX6_rangeIn_15 hl (by decide) rfl (fun ls hl => ?_)
  refine lv_iload hx hb dX6_rangeIn_17 (lv_at hl 3 rfl) ?_
  refine lv_istore (lv' := [(8, .int x1), (7, .int 0), (6, .int 0), (5, .int 0), (4, .int x1), (0, .ref q_t), (1, .int p1), (2, .ref q_p2), (3, .ref q_p3)]) hx hb dX6_rangeIn_19 hl (by decide) rfl (fun ls hl => ?_)
  exact lX6_rangeIn_21 C0 n x1 0 0 0 x1 _ _ _ hF hP hD hS (lv_sub hl [5, 7, 8, 4, 3, 2, 1, 0] rfl)
def W_27 (ct : Nat → ClassId) (a0 a1 a2 a3 a4 a5 a6 a7 : Nat) (v0 : Int32) (v1 : Nat → Int32) (v2 : Nat → Int32) : va_W := [(a0, .inr (6, [.ref a1, .ref a2, .ref a3, .ref a4, .ref a5, .ref a6, .ref a7, .int v0])), (a6, .inl (ct 0, 300, .inl v1)), (a7, .inl (ct 0, 300, .inl v2))]
/-! NeedleHouse$Track.keepFinals()I -/
theorem i_X6_keepFinals_X6 : ∀ w ∈ wsX60, w ∈ wsX6_keepFinals := by decide +kernel
set_option maxHeartbeats 4000000 in
set_option maxRecDepth 100000 in
theorem jX6_keepFinals_4 {p : Program} {l : Launch} {e : Env} {s : State} {m : MethodId} {args : Array Value} {below : List Frame} {meth : Method} {c : Code} {D : va_G} {ct : Nat → ClassId} {A : Nat → Prop} {q_t q_t_row0 q_t_row1 q_t_measures q_t_pieces q_t_joins q_t_finals q_t_kept : Nat} {t_settledNear : Int32} {t_finals : Nat → Int32} {o_r : Int32} {o_t_kept : Nat → Int32} (C0 : Cx RX6 cX6_keepFinals 3 (some .int) wsX6_keepFinals D ct A p s m args meth c) (k4 : (Nat → Int32) → (Nat → Int32) → Int32 → Int32 → Option (Int32 × (Nat → Int32))) (hk4 : ∀ (t_kept : Nat → Int32) (x_1 : Int32) (x_2 : Int32) (H : Heap) (locs : List Loc) (ls : Array Slot), k4 t_finals t_kept x_1 x_2 = some (o_r, o_t_kept) → va_P D vwCl (W_27 ct q_t q_t_row0 q_t_row1 q_t_measures q_t_pieces q_t_joins q_t_finals q_t_kept t_settledNear t_finals t_kept) H → va_D A (W_27 ct q_t q_t_row0 q_t_row1 q_t_measures q_t_pieces q_t_joins q_t_finals q_t_kept t_settledNear t_finals t_kept) → va_S A s.heap H locs → lv_has ls 3 [(0, .ref q_t), (1, .int x_1), (2, .int x_2)] → W p l e ({ frames := 1, cells := 0, slots := 0, locals := 21 } : Room) s m args below meth c H locs 0 0 (MQ below (va_Qi (fun r (_ : Unit) => r = o_r) (fun _ t => va_P D vwCl (W_27 ct q_t q_t_row0 q_t_row1 q_t_measures q_t_pieces q_t_joins q_t_finals q_t_kept t_settledNear t_finals o_t_kept) t.heap) A) args s 0 0 A) (F0 m 4 ls [])) (n : Nat) (t_kept : Nat → Int32) (x_1 : Int32) (x_2 : Int32) (H : Heap) (locs : List Loc) (ls : Array Slot) : JX6_keepFinals_4 k4 n t_finals t_kept x_1 x_2 = some (o_r, o_t_kept) → va_P D vwCl (W_27 ct q_t q_t_row0 q_t_row1 q_t_measures q_t_pieces q_t_joins q_t_finals q_t_kept t_settledNear t_finals t_kept) H → va_D A (W_27 ct q_t q_t_row0 q_t_row1 q_t_measures q_t_pieces q_t_joins q_t_finals q_t_kept t_settledNear t_finals t_kept) → va_S A s.heap H locs → lv_has ls 3 [(0, .ref q_t), (1, .int x_1), (2, .int x_2)] → W p l e ({ frames := 1, cells := 0, slots := 0, locals := 21 } : Room) s m args below meth c H locs 0 0 (MQ below (va_Qi (fun r (_ : Unit) => r = o_r) (fun _ t => va_P D vwCl (W_27 ct q_t q_t_row0 q_t_row1 q_t_measures q_t_pieces q_t_joins q_t_finals q_t_kept t_settledNear t_finals o_t_kept) t.heap) A) args s 0 0 A) (F0 m 4 ls []) := by
  intro hF hP hD hS hl
  obtain ⟨hx, hb, hml, hown, hts, hr, hlocks, hE, hA⟩ := id C0
  unfold JX6_keepFinals_4 at hF
  refine lv_iload_n hx hb dX6_keepFinals_4 rfl (lv_at hl 2 rfl) ?_
  refine lv_aload_n hx hb dX6_keepFinals_5 rfl (lv_at hl 0 rfl) ?_
  refine va_get (D := D) (ci := 6) (v := .ref q_t_kept) (C := RX6) (T := TX6) (N := 8) hx hb hts i_X6_keepFinals_X6 hown hE.1 hP 0 rfl rfl 6 (by decide) (hts (.fieldLink RX6 42 "NeedleHouse$Track" "kept" "[I") (by decide +kernel)) (fun _ h9 => h9) rfl dX6_keepFinals_6 ?_
  refine va_alen (v := 300) hx hb hE.1 hP 2 0 rfl rfl rfl dX6_keepFinals_9 ?_
  refine lv_icmp_ge (tgt := 44) hx hb dX6_keepFinals_10 (by decide) (fun c1 => ?_) (fun c1 => ?_)
  · have hF := ifT c1 hF
    refine lv_iload_n hx hb dX6_keepFinals_44 rfl (lv_at hl 1 rfl) ?_
    obtain ⟨rfl, rfl⟩ := in2 hF
    exact W.iret hx hb hr (fun t ht hW => ⟨⟨_, (), rfl, rfl, vaP_at ht hP⟩, hS.F ht⟩) hS.2.2 dX6_keepFinals_45
  · have hF := ifF c1 hF
    refine lv_aload_n hx hb dX6_keepFinals_13 rfl (lv_at hl 0 rfl) ?_
    refine va_get (D := D) (ci := 6) (v := .ref q_t_kept) (C := RX6) (T := TX6) (N := 8) hx hb hts i_X6_keepFinals_X6 hown hE.1 hP 0 rfl rfl 6 (by decide) (hts (.fieldLink RX6 42 "NeedleHouse$Track" "kept" "[I") (by decide +kernel)) (fun _ h9 => h9) rfl dX6_keepFinals_14 ?_
    refine lv_iload_n hx hb dX6_keepFinals_17 rfl (lv_at hl 2 rfl) ?_
    refine lv_aload_n hx hb dX6_keepFinals_18 rfl (lv_at hl 0 rfl) ?_
    refine lv_iload_n hx hb dX6_keepFinals_19 rfl (lv_at hl 2 rfl) ?_
    obtain ⟨r2, h3, hF⟩ := ob1_ex hF
    refine xiR (va_runV (As := [.int x_2]) (rest := [.int x_2, .ref q_t_kept]) ⟨hx, hb, hml, hown, hts⟩ (met_X6_finalAt l D ct q_t q_t_row0 q_t_row1 q_t_measures q_t_pieces q_t_joins q_t_finals q_t_kept H.size t_settledNear t_finals x_2 n r2 h3) (cwV 1 hts gX6_keepFinals_X6_finalAt rfl rfl rfl (by decide +kernel) ⟨Nat.le_of_ble_eq_true rfl, Nat.le_of_ble_eq_true rfl⟩) ⟨blind_, va_recv hE.1 hP (ci := 6) (q0 := 0) rfl rfl, mkpre_ hE (hP.sub [0, 1] rfl) (hD.sub [0, 1] (by decide) rfl)⟩ rfl rfl hl.1 rfl (lv_room (Nat.le_of_ble_eq_true rfl)) dX6_keepFinals_20 ⟨Nat.le_of_ble_eq_true rfl, Nat.le_of_ble_eq_true rfl⟩) hP hD hS hA [0, 1] rfl (fun H locs hP hD hS => ?_)
    obtain ⟨h4, hF⟩ := gd_ex hF
    obtain ⟨f5, ef5, hF⟩ := bn_ex hF
    refine va_iast hx hb hE.1 hP hD hS 2 0 rfl rfl h4 dX6_keepFinals_23 (fun H locs hP hD hS => ?_)
    have hP : va_P D vwCl (W_27 ct q_t q_t_row0 q_t_row1 q_t_measures q_t_pieces q_t_joins q_t_finals q_t_kept t_settledNear t_finals f5) H := by rw [ef5]; exact hP
    have hD : va_D A (W_27 ct q_t q_t_row0 q_t_row1 q_t_measures q_t_pieces q_t_joins q_t_finals q_t_kept t_settledNear t_finals f5) := by rw [ef5]; exact hD
    refine lv_aload_n hx hb dX6_keepFinals_24 rfl (lv_at hl 0 rfl) ?_
    refine va_get (D := D) (ci := 6) (v := .ref q_t_kept) (C := RX6) (T := TX6) (N := 8) hx hb hts i_X6_keepFinals_X6 hown hE.1 hP 0 rfl rfl 6 (by decide) (hts (.fieldLink RX6 42 "NeedleHouse$Track" "kept" "[I") (by decide +kernel)) (fun _ h9 => h9) rfl dX6_keepFinals_25 ?_
    refine lv_iload_n hx hb dX6_keepFinals_28 rfl (lv_at hl 2 rfl) ?_
    obtain ⟨h6, hF⟩ := gd_ex hF
    refine va_iald hx hb hE.1 hP 2 0 rfl rfl h6 dX6_keepFinals_29 ?_
    refine lv_ldc hx hb hown (hts (.constant RX6 45 (-2000000000)) (by decide +kernel)) dX6_keepFinals_30 ?_
    refine lv_icmp_eq (tgt := 38) hx hb dX6_keepFinals_32 (by decide) (fun c7 => ?_) (fun c7 => ?_)
    · have hF := ifT c7 hF
      obtain ⟨x8, ex8⟩ : ∃ y : Int32, y = x_2 + 1 := ⟨_, rfl⟩
      refine lv_iinc (v := x8) (lv' := [(2, .int x8), (0, .ref q_t), (1, .int x_1)]) hx hb dX6_keepFinals_38 hl (k := 2) rfl (by rw [ex8]; rfl) (by decide) rfl (fun ls hl => ?_)
      have hF := bn_as ex8 hF
      refine lv_goto (tgt := 4) hx hb dX6_keepFinals_41 (by decide) ?_
      exact hk4 f5 x_1 x8 _ _ _ hF hP hD hS (lv_sub hl [1, 2, 0] rfl)
    · have hF := ifF c7 hF
      obtain ⟨x9, ex9⟩ : ∃ y : Int32, y = x_1 + 1 := ⟨_, rfl⟩
      refine lv_iinc (v := x9) (lv' := [(1, .int x9), (0, .ref q_t), (2, .int x_2)]) hx hb dX6_keepFinals_35 hl (k := 1) rfl (by rw [ex9]; rfl) (by decide) rfl (fun ls hl => ?_)
      have hF := bn_as ex9 hF
      obtain ⟨x10, ex10⟩ : ∃ y : Int32, y = x_2 + 1 := ⟨_, rfl⟩
      refine lv_iinc (v := x10) (lv' := [(2, .int x10), (1, .int x9), (0, .ref q_t)]) hx hb dX6_keepFinals_38 hl (k := 2) rfl (by rw [ex10]; rfl) (by decide) rfl (fun ls hl => ?_)
      have hF := bn_as ex10 hF
      refine lv_goto (tgt := 4) hx hb dX6_keepFinals_41 (by decide) ?_
      exact hk4 f5 x9 x10 _ _ _ hF hP hD hS (lv_sub hl [2, 1, 0] rfl)
theorem lX6_keepFinals_4 {p : Program} {l : Launch} {e : Env} {s : State} {m : MethodId} {args : Array Value} {below : List Frame} {meth : Method} {c : Code} {D : va_G} {ct : Nat → ClassId} {A : Nat → Prop} {q_t q_t_row0 q_t_row1 q_t_measures q_t_pieces q_t_joins q_t_finals q_t_kept : Nat} {t_settledNear : Int32} {t_finals : Nat → Int32} {o_r : Int32} {o_t_kept : Nat → Int32} (C0 : Cx RX6 cX6_keepFinals 3 (some .int) wsX6_keepFinals D ct A p s m args meth c) : ∀ (n : Nat) (t_kept : Nat → Int32) (x_1 : Int32) (x_2 : Int32) (H : Heap) (locs : List Loc) (ls : Array Slot), LX6_keepFinals_4 n t_finals t_kept x_1 x_2 = some (o_r, o_t_kept) → va_P D vwCl (W_27 ct q_t q_t_row0 q_t_row1 q_t_measures q_t_pieces q_t_joins q_t_finals q_t_kept t_settledNear t_finals t_kept) H → va_D A (W_27 ct q_t q_t_row0 q_t_row1 q_t_measures q_t_pieces q_t_joins q_t_finals q_t_kept t_settledNear t_finals t_kept) → va_S A s.heap H locs → lv_has ls 3 [(0, .ref q_t), (1, .int x_1), (2, .int x_2)] → W p l e ({ frames := 1, cells := 0, slots := 0, locals := 21 } : Room) s m args below meth c H locs 0 0 (MQ below (va_Qi (fun r (_ : Unit) => r = o_r) (fun _ t => va_P D vwCl (W_27 ct q_t q_t_row0 q_t_row1 q_t_measures q_t_pieces q_t_joins q_t_finals q_t_kept t_settledNear t_finals o_t_kept) t.heap) A) args s 0 0 A) (F0 m 4 ls []) := by
  intro n
  induction n with
  | zero => intro t_kept x_1 x_2 H locs ls hF; exact nomatch (show (none : Option (Int32 × (Nat → Int32))) = _ from hF)
  | succ n ih => intro t_kept x_1 x_2 H locs ls hF; exact jX6_keepFinals_4 C0 (LX6_keepFinals_4 n) ih n t_kept x_1 x_2 H locs ls hF
set_option maxHeartbeats 4000000 in
set_option maxRecDepth 100000 in
theorem met_X6_keepFinals (l : Launch) (D : va_G) (ct : Nat → ClassId) (q_t : Nat) (q_t_row0 : Nat) (q_t_row1 : Nat) (q_t_measures : Nat) (q_t_pieces : Nat) (q_t_joins : Nat) (q_t_finals : Nat) (q_t_kept : Nat) (sz : Nat) (t_settledNear : Int32) (t_finals : Nat → Int32) (t_kept : Nat → Int32) (n : Nat) (o_r : Int32) (o_t_kept : Nat → Int32) (hF : FX6_keepFinals n t_finals t_kept = some (o_r, o_t_kept)) : Met l yX6_keepFinals wsX6_keepFinals ({ frames := 1, cells := 0, slots := 0, locals := 21 } : Room) (va_Pc [.ref q_t] (pre_ D ct sz (W_27 ct q_t q_t_row0 q_t_row1 q_t_measures q_t_pieces q_t_joins q_t_finals q_t_kept t_settledNear t_finals t_kept))) (va_Qi (fun r (_ : Unit) => r = o_r) (fun _ t => va_P D vwCl (W_27 ct q_t q_t_row0 q_t_row1 q_t_measures q_t_pieces q_t_joins q_t_finals q_t_kept t_settledNear t_finals o_t_kept) t.heap) (va_A (W_27 ct q_t q_t_row0 q_t_row1 q_t_measures q_t_pieces q_t_joins q_t_finals q_t_kept t_settledNear t_finals t_kept) sz)) 0 0 (va_A (W_27 ct q_t q_t_row0 q_t_row1 q_t_measures q_t_pieces q_t_joins q_t_finals q_t_kept t_settledNear t_finals t_kept) sz) := by
  refine Met.ofW (cc := cX6_keepFinals) (maxL := 3) (ret := (some .int)) (by decide) rfl ?_
  intro p e s m args below meth c s₁ B hml hv
  obtain ⟨rfl, hsz, hP, hE, hD0⟩ := hv
  have hx := B.exec
  have hb := B.bytes
  have hr := B.returns
  have hts := atoms_spec (ws := wsX6_keepFinals) B.pre
  have hown : s.vm.findClass RX6 = some m.cls := findClass_of_methodNamed B.named
  have hlocks := B.notSynchronized
  subst hsz
  have hD := hD0.self (sz := s.heap.size)
  generalize hAe : va_A (W_27 ct q_t q_t_row0 q_t_row1 q_t_measures q_t_pieces q_t_joins q_t_finals q_t_kept t_settledNear t_finals t_kept) s.heap.size = A at hD ⊢
  have hA : ∀ q : Nat, s.heap.size ≤ q → A q := fun q h => by rw [← hAe]; exact Or.inr h
  have hl := lv_entry ([.ref q_t]) (n := 3) (Nat.le_of_ble_eq_true rfl)
  rw [lg_entry_eq]
  generalize (lg_sl ([.ref q_t]) ++ List.replicate (3 - (lg_sl ([.ref q_t])).length) Slot.unset).toArray = ls at hl ⊢
  have hl : lv_has ls 3 [(0, .ref q_t)] := hl
  have C0 : Cx RX6 cX6_keepFinals 3 (some .int) wsX6_keepFinals D ct A p s m ([.ref q_t]).toArray meth c := ⟨hx, hb, hml, hown, hts, hr, hlocks, hE, hA⟩
  have hS : ∀ H : Heap, s.heap = H → va_S A s.heap H [] := fun H h => h ▸ va_S.rf
  generalize hH : s.heap = H at hP ⊢
  have hS := hS H hH
  unfold FX6_keepFinals at hF
  refine lv_iconst (v := 0) hx hb dX6_keepFinals_0 (by decide) ?_
  refine lv_istore_n (lv' := [(1, .int 0), (0, .ref q_t)]) hx hb dX6_keepFinals_1 rfl hl (by decide) rfl (fun ls hl => ?_)
  refine lv_iconst (v := 0) hx hb dX6_keepFinals_2 (by decide) ?_
  refine lv_istore_n (lv' := [(2, .int 0), (1, .int 0), (0, .ref q_t)]) hx hb dX6_keepFinals_3 rfl hl (by decide) rfl (fun ls hl => ?_)
  exact lX6_keepFinals_4 C0 n t_kept 0 0 _ _ _ hF hP hD hS (lv_sub hl [2, 1, 0] rfl)
def W_28 (ct : Nat → ClassId) (a0 a1 a2 a3 a4 a5 a6 a7 : Nat) (v0 : Int32) (v1 : Nat → Int32) : va_W := [(a0, .inr (6, [.ref a1, .ref a2, .ref a3, .ref a4, .ref a5, .ref a6, .ref a7, .int v0])), (a7, .inl (ct 0, 300, .inl v1))]
/-! NeedleHouse$Track.keptAt(I)I -/
theorem i_X6_keptAt_X6 : ∀ w ∈ wsX60, w ∈ wsX6_keptAt := by decide +kernel
set_option maxHeartbeats 4000000 in
set_option maxRecDepth 100000 in
theorem met_X6_keptAt (l : Launch) (D : va_G) (ct : Nat → ClassId) (q_t : Nat) (q_t_row0 : Nat) (q_t_row1 : Nat) (q_t_measures : Nat) (q_t_pieces : Nat) (q_t_joins : Nat) (q_t_finals : Nat) (q_t_kept : Nat) (sz : Nat) (t_settledNear : Int32) (t_kept : Nat → Int32) (p1 : Int32) (n : Nat) (o_r : Int32) (hF : FX6_keptAt n t_kept p1 = some (o_r)) : Met l yX6_keptAt wsX6_keptAt ({ frames := 0, cells := 0, slots := 0, locals := 0 } : Room) (va_Pc [.ref q_t, .int p1] (pre_ D ct sz (W_28 ct q_t q_t_row0 q_t_row1 q_t_measures q_t_pieces q_t_joins q_t_finals q_t_kept t_settledNear t_kept))) (va_Qi (fun r (_ : Unit) => r = o_r) (fun _ t => va_P D vwCl (W_28 ct q_t q_t_row0 q_t_row1 q_t_measures q_t_pieces q_t_joins q_t_finals q_t_kept t_settledNear t_kept) t.heap) (va_A (W_28 ct q_t q_t_row0 q_t_row1 q_t_measures q_t_pieces q_t_joins q_t_finals q_t_kept t_settledNear t_kept) sz)) 0 0 (va_A (W_28 ct q_t q_t_row0 q_t_row1 q_t_measures q_t_pieces q_t_joins q_t_finals q_t_kept t_settledNear t_kept) sz) := by
  refine Met.ofW (cc := cX6_keptAt) (maxL := 2) (ret := (some .int)) (by decide) rfl ?_
  intro p e s m args below meth c s₁ B hml hv
  obtain ⟨rfl, hsz, hP, hE, hD0⟩ := hv
  have hx := B.exec
  have hb := B.bytes
  have hr := B.returns
  have hts := atoms_spec (ws := wsX6_keptAt) B.pre
  have hown : s.vm.findClass RX6 = some m.cls := findClass_of_methodNamed B.named
  have hlocks := B.notSynchronized
  subst hsz
  have hD := hD0.self (sz := s.heap.size)
  generalize hAe : va_A (W_28 ct q_t q_t_row0 q_t_row1 q_t_measures q_t_pieces q_t_joins q_t_finals q_t_kept t_settledNear t_kept) s.heap.size = A at hD ⊢
  have hA : ∀ q : Nat, s.heap.size ≤ q → A q := fun q h => by rw [← hAe]; exact Or.inr h
  have hl := lv_entry ([.ref q_t, .int p1]) (n := 2) (Nat.le_of_ble_eq_true rfl)
  rw [lg_entry_eq]
  generalize (lg_sl ([.ref q_t, .int p1]) ++ List.replicate (2 - (lg_sl ([.ref q_t, .int p1])).length) Slot.unset).toArray = ls at hl ⊢
  have hl : lv_has ls 2 [(0, .ref q_t), (1, .int p1)] := hl
  have C0 : Cx RX6 cX6_keptAt 2 (some .int) wsX6_keptAt D ct A p s m ([.ref q_t, .int p1]).toArray meth c := ⟨hx, hb, hml, hown, hts, hr, hlocks, hE, hA⟩
  have hS : ∀ H : Heap, s.heap = H → va_S A s.heap H [] := fun H h => h ▸ va_S.rf
  generalize hH : s.heap = H at hP ⊢
  have hS := hS H hH
  unfold FX6_keptAt at hF
  refine lv_iload_n hx hb dX6_keptAt_0 rfl (lv_at hl 1 rfl) ?_
  refine lv_if_lt (tgt := 13) hx hb dX6_keptAt_1 (by decide) (fun c1 => ?_) (fun c1 => ?_)
  · have hF := ifT c1 hF
    refine lv_ldc hx hb hown (hts (.constant RX6 45 (-2000000000)) (by decide +kernel)) dX6_keptAt_13 ?_
    obtain rfl := Option.some.inj hF
    exact W.iret hx hb hr (fun t ht hW => ⟨⟨_, (), rfl, rfl, vaP_at ht hP⟩, hS.F ht⟩) hS.2.2 dX6_keptAt_15
  · have hF := ifF c1 hF
    refine lv_iload_n hx hb dX6_keptAt_4 rfl (lv_at hl 1 rfl) ?_
    refine lv_aload_n hx hb dX6_keptAt_5 rfl (lv_at hl 0 rfl) ?_
    refine va_get (D := D) (ci := 6) (v := .ref q_t_kept) (C := RX6) (T := TX6) (N := 8) hx hb hts i_X6_keptAt_X6 hown hE.1 hP 0 rfl rfl 6 (by decide) (hts (.fieldLink RX6 42 "NeedleHouse$Track" "kept" "[I") (by decide +kernel)) (fun _ h9 => h9) rfl dX6_keptAt_6 ?_
    refine va_alen (v := 300) hx hb hE.1 hP 1 0 rfl rfl rfl dX6_keptAt_9 ?_
    refine lv_icmp_lt (tgt := 16) hx hb dX6_keptAt_10 (by decide) (fun c2 => ?_) (fun c2 => ?_)
    · have hF := ifT c2 hF
      refine lv_aload_n hx hb dX6_keptAt_16 rfl (lv_at hl 0 rfl) ?_
      refine va_get (D := D) (ci := 6) (v := .ref q_t_kept) (C := RX6) (T := TX6) (N := 8) hx hb hts i_X6_keptAt_X6 hown hE.1 hP 0 rfl rfl 6 (by decide) (hts (.fieldLink RX6 42 "NeedleHouse$Track" "kept" "[I") (by decide +kernel)) (fun _ h9 => h9) rfl dX6_keptAt_17 ?_
      refine lv_iload_n hx hb dX6_keptAt_20 rfl (lv_at hl 1 rfl) ?_
      obtain ⟨h3, hF⟩ := gd_ex hF
      refine va_iald hx hb hE.1 hP 1 0 rfl rfl h3 dX6_keptAt_21 ?_
      obtain rfl := Option.some.inj hF
      exact W.iret hx hb hr (fun t ht hW => ⟨⟨_, (), rfl, rfl, vaP_at ht hP⟩, hS.F ht⟩) hS.2.2 dX6_keptAt_22
    · have hF := ifF c2 hF
      refine lv_ldc hx hb hown (hts (.constant RX6 45 (-2000000000)) (by decide +kernel)) dX6_keptAt_13 ?_
      obtain rfl := Option.some.inj hF
      exact W.iret hx hb hr (fun t ht hW => ⟨⟨_, (), rfl, rfl, vaP_at ht hP⟩, hS.F ht⟩) hS.2.2 dX6_keptAt_15
/-! NeedleHouse$Track.changeTime(I)I -/
set_option maxHeartbeats 4000000 in
set_option maxRecDepth 100000 in
theorem jX6_changeTime_4 {p : Program} {l : Launch} {e : Env} {s : State} {m : MethodId} {args : Array Value} {below : List Frame} {meth : Method} {c : Code} {D : va_G} {ct : Nat → ClassId} {A : Nat → Prop} {q_t q_t_row0 q_t_row1 q_t_measures q_t_pieces q_t_joins q_t_finals q_t_kept : Nat} {t_settledNear : Int32} {t_finals : Nat → Int32} {t_kept : Nat → Int32} {o_r : Int32} (C0 : Cx RX6 cX6_changeTime 4 (some .int) wsX6_changeTime D ct A p s m args meth c) (k4 : (Nat → Int32) → (Nat → Int32) → Int32 → Int32 → Int32 → Option (Int32)) (hk4 : ∀ (x_1 : Int32) (x_2 : Int32) (x_3 : Int32) (H : Heap) (locs : List Loc) (ls : Array Slot), k4 t_finals t_kept x_1 x_2 x_3 = some (o_r) → va_P D vwCl (W_27 ct q_t q_t_row0 q_t_row1 q_t_measures q_t_pieces q_t_joins q_t_finals q_t_kept t_settledNear t_finals t_kept) H → va_D A (W_27 ct q_t q_t_row0 q_t_row1 q_t_measures q_t_pieces q_t_joins q_t_finals q_t_kept t_settledNear t_finals t_kept) → va_S A s.heap H locs → lv_has ls 4 [(0, .ref q_t), (1, .int x_1), (2, .int x_2), (3, .int x_3)] → W p l e ({ frames := 1, cells := 0, slots := 0, locals := 21 } : Room) s m args below meth c H locs 0 0 (MQ below (va_Qi (fun r (_ : Unit) => r = o_r) (fun _ t => va_P D vwCl (W_27 ct q_t q_t_row0 q_t_row1 q_t_measures q_t_pieces q_t_joins q_t_finals q_t_kept t_settledNear t_finals t_kept) t.heap) A) args s 0 0 A) (F0 m 4 ls [])) (n : Nat) (x_1 : Int32) (x_2 : Int32) (x_3 : Int32) (H : Heap) (locs : List Loc) (ls : Array Slot) : JX6_changeTime_4 k4 n t_finals t_kept x_1 x_2 x_3 = some (o_r) → va_P D vwCl (W_27 ct q_t q_t_row0 q_t_row1 q_t_measures q_t_pieces q_t_joins q_t_finals q_t_kept t_settledNear t_finals t_kept) H → va_D A (W_27 ct q_t q_t_row0 q_t_row1 q_t_measures q_t_pieces q_t_joins q_t_finals q_t_kept t_settledNear t_finals t_kept) → va_S A s.heap H locs → lv_has ls 4 [(0, .ref q_t), (1, .int x_1), (2, .int x_2), (3, .int x_3)] → W p l e ({ frames := 1, cells := 0, slots := 0, locals := 21 } : Room) s m args below meth c H locs 0 0 (MQ below (va_Qi (fun r (_ : Unit) => r = o_r) (fun _ t => va_P D vwCl (W_27 ct q_t q_t_row0 q_t_row1 q_t_measures q_t_pieces q_t_joins q_t_finals q_t_kept t_settledNear t_finals t_kept) t.heap) A) args s 0 0 A) (F0 m 4 ls []) := by
  intro hF hP hD hS hl
  obtain ⟨hx, hb, hml, hown, hts, hr, hlocks, hE, hA⟩ := id C0
  unfold JX6_changeTime_4 at hF
  refine lv_iload_n hx hb dX6_changeTime_4 rfl (lv_at hl 3 rfl) ?_
  refine lv_sipush (v := 300) hx hb dX6_changeTime_5 (by decide) ?_
  refine lv_icmp_ge (tgt := 40) hx hb dX6_changeTime_8 (by decide) (fun c1 => ?_) (fun c1 => ?_)
  · have hF := ifT c1 hF
    refine lv_iconst (v := (-1)) hx hb dX6_changeTime_40 (by decide) ?_
    obtain rfl := Option.some.inj hF
    exact W.iret hx hb hr (fun t ht hW => ⟨⟨_, (), rfl, rfl, vaP_at ht hP⟩, hS.F ht⟩) hS.2.2 dX6_changeTime_41
  · have hF := ifF c1 hF
    refine lv_aload_n hx hb dX6_changeTime_11 rfl (lv_at hl 0 rfl) ?_
    refine lv_iload_n hx hb dX6_changeTime_12 rfl (lv_at hl 3 rfl) ?_
    obtain ⟨r2, h3, hF⟩ := ob1_ex hF
    refine xiR (va_runV (As := [.int x_3]) (rest := []) ⟨hx, hb, hml, hown, hts⟩ (met_X6_finalAt l D ct q_t q_t_row0 q_t_row1 q_t_measures q_t_pieces q_t_joins q_t_finals q_t_kept H.size t_settledNear t_finals x_3 n r2 h3) (cwV 1 hts gX6_changeTime_X6_finalAt rfl rfl rfl (by decide +kernel) ⟨Nat.le_of_ble_eq_true rfl, Nat.le_of_ble_eq_true rfl⟩) ⟨blind_, va_recv hE.1 hP (ci := 6) (q0 := 0) rfl rfl, mkpre_ hE (hP.sub [0, 1] rfl) (hD.sub [0, 1] (by decide) rfl)⟩ rfl rfl hl.1 rfl (lv_room (Nat.le_of_ble_eq_true rfl)) dX6_changeTime_13 ⟨Nat.le_of_ble_eq_true rfl, Nat.le_of_ble_eq_true rfl⟩) hP hD hS hA [0, 1] rfl (fun H locs hP hD hS => ?_)
    refine lv_aload_n hx hb dX6_changeTime_16 rfl (lv_at hl 0 rfl) ?_
    refine lv_iload_n hx hb dX6_changeTime_17 rfl (lv_at hl 3 rfl) ?_
    obtain ⟨r4, h5, hF⟩ := ob1_ex hF
    refine xiR (va_runV (As := [.int x_3]) (rest := [.int r2]) ⟨hx, hb, hml, hown, hts⟩ (met_X6_keptAt l D ct q_t q_t_row0 q_t_row1 q_t_measures q_t_pieces q_t_joins q_t_finals q_t_kept H.size t_settledNear t_kept x_3 n r4 h5) (cwV 1 hts gX6_changeTime_X6_keptAt rfl rfl rfl (by decide +kernel) ⟨Nat.le_of_ble_eq_true rfl, Nat.le_of_ble_eq_true rfl⟩) ⟨blind_, va_recv hE.1 hP (ci := 6) (q0 := 0) rfl rfl, mkpre_ hE (hP.sub [0, 2] rfl) (hD.sub [0, 2] (by decide) rfl)⟩ rfl rfl hl.1 rfl (lv_room (Nat.le_of_ble_eq_true rfl)) dX6_changeTime_18 ⟨Nat.le_of_ble_eq_true rfl, Nat.le_of_ble_eq_true rfl⟩) hP hD hS hA [0, 2] rfl (fun H locs hP hD hS => ?_)
    refine lv_icmp_eq (tgt := 34) hx hb dX6_changeTime_21 (by decide) (fun c6 => ?_) (fun c6 => ?_)
    · have hF := ifT c6 hF
      obtain ⟨x7, ex7⟩ : ∃ y : Int32, y = x_3 + 1 := ⟨_, rfl⟩
      refine lv_iinc (v := x7) (lv' := [(3, .int x7), (0, .ref q_t), (1, .int x_1), (2, .int x_2)]) hx hb dX6_changeTime_34 hl (k := 3) rfl (by rw [ex7]; rfl) (by decide) rfl (fun ls hl => ?_)
      have hF := bn_as ex7 hF
      refine lv_goto (tgt := 4) hx hb dX6_changeTime_37 (by decide) ?_
      exact hk4 x_1 x_2 x7 _ _ _ hF hP hD hS (lv_sub hl [1, 2, 3, 0] rfl)
    · have hF := ifF c6 hF
      refine lv_iload_n hx hb dX6_changeTime_24 rfl (lv_at hl 2 rfl) ?_
      refine lv_iload_n hx hb dX6_changeTime_25 rfl (lv_at hl 1 rfl) ?_
      refine lv_icmp_ne (tgt := 31) hx hb dX6_changeTime_26 (by decide) (fun c8 => ?_) (fun c8 => ?_)
      · have hF := ifF c8 hF
        obtain ⟨x9, ex9⟩ : ∃ y : Int32, y = x_2 + 1 := ⟨_, rfl⟩
        refine lv_iinc (v := x9) (lv' := [(2, .int x9), (0, .ref q_t), (1, .int x_1), (3, .int x_3)]) hx hb dX6_changeTime_31 hl (k := 2) rfl (by rw [ex9]; rfl) (by decide) rfl (fun ls hl => ?_)
        have hF := bn_as ex9 hF
        obtain ⟨x10, ex10⟩ : ∃ y : Int32, y = x_3 + 1 := ⟨_, rfl⟩
        refine lv_iinc (v := x10) (lv' := [(3, .int x10), (2, .int x9), (0, .ref q_t), (1, .int x_1)]) hx hb dX6_changeTime_34 hl (k := 3) rfl (by rw [ex10]; rfl) (by decide) rfl (fun ls hl => ?_)
        have hF := bn_as ex10 hF
        refine lv_goto (tgt := 4) hx hb dX6_changeTime_37 (by decide) ?_
        exact hk4 x_1 x9 x10 _ _ _ hF hP hD hS (lv_sub hl [2, 3, 1, 0] rfl)
      · have hF := ifT c8 hF
        refine lv_iload_n hx hb dX6_changeTime_29 rfl (lv_at hl 3 rfl) ?_
        obtain rfl := Option.some.inj hF
        exact W.iret hx hb hr (fun t ht hW => ⟨⟨_, (), rfl, rfl, vaP_at ht hP⟩, hS.F ht⟩) hS.2.2 dX6_changeTime_30
theorem lX6_changeTime_4 {p : Program} {l : Launch} {e : Env} {s : State} {m : MethodId} {args : Array Value} {below : List Frame} {meth : Method} {c : Code} {D : va_G} {ct : Nat → ClassId} {A : Nat → Prop} {q_t q_t_row0 q_t_row1 q_t_measures q_t_pieces q_t_joins q_t_finals q_t_kept : Nat} {t_settledNear : Int32} {t_finals : Nat → Int32} {t_kept : Nat → Int32} {o_r : Int32} (C0 : Cx RX6 cX6_changeTime 4 (some .int) wsX6_changeTime D ct A p s m args meth c) : ∀ (n : Nat) (x_1 : Int32) (x_2 : Int32) (x_3 : Int32) (H : Heap) (locs : List Loc) (ls : Array Slot), LX6_changeTime_4 n t_finals t_kept x_1 x_2 x_3 = some (o_r) → va_P D vwCl (W_27 ct q_t q_t_row0 q_t_row1 q_t_measures q_t_pieces q_t_joins q_t_finals q_t_kept t_settledNear t_finals t_kept) H → va_D A (W_27 ct q_t q_t_row0 q_t_row1 q_t_measures q_t_pieces q_t_joins q_t_finals q_t_kept t_settledNear t_finals t_kept) → va_S A s.heap H locs → lv_has ls 4 [(0, .ref q_t), (1, .int x_1), (2, .int x_2), (3, .int x_3)] → W p l e ({ frames := 1, cells := 0, slots := 0, locals := 21 } : Room) s m args below meth c H locs 0 0 (MQ below (va_Qi (fun r (_ : Unit) => r = o_r) (fun _ t => va_P D vwCl (W_27 ct q_t q_t_row0 q_t_row1 q_t_measures q_t_pieces q_t_joins q_t_finals q_t_kept t_settledNear t_finals t_kept) t.heap) A) args s 0 0 A) (F0 m 4 ls []) := by
  intro n
  induction n with
  | zero => intro x_1 x_2 x_3 H locs ls hF; exact nomatch (show (none : Option (Int32)) = _ from hF)
  | succ n ih => intro x_1 x_2 x_3 H locs ls hF; exact jX6_changeTime_4 C0 (LX6_changeTime_4 n) ih n x_1 x_2 x_3 H locs ls hF
set_option maxHeartbeats 4000000 in
set_option maxRecDepth 100000 in
theorem met_X6_changeTime (l : Launch) (D : va_G) (ct : Nat → ClassId) (q_t : Nat) (q_t_row0 : Nat) (q_t_row1 : Nat) (q_t_measures : Nat) (q_t_pieces : Nat) (q_t_joins : Nat) (q_t_finals : Nat) (q_t_kept : Nat) (sz : Nat) (t_settledNear : Int32) (t_finals : Nat → Int32) (t_kept : Nat → Int32) (p1 : Int32) (n : Nat) (o_r : Int32) (hF : FX6_changeTime n t_finals t_kept p1 = some (o_r)) : Met l yX6_changeTime wsX6_changeTime ({ frames := 1, cells := 0, slots := 0, locals := 21 } : Room) (va_Pc [.ref q_t, .int p1] (pre_ D ct sz (W_27 ct q_t q_t_row0 q_t_row1 q_t_measures q_t_pieces q_t_joins q_t_finals q_t_kept t_settledNear t_finals t_kept))) (va_Qi (fun r (_ : Unit) => r = o_r) (fun _ t => va_P D vwCl (W_27 ct q_t q_t_row0 q_t_row1 q_t_measures q_t_pieces q_t_joins q_t_finals q_t_kept t_settledNear t_finals t_kept) t.heap) (va_A (W_27 ct q_t q_t_row0 q_t_row1 q_t_measures q_t_pieces q_t_joins q_t_finals q_t_kept t_settledNear t_finals t_kept) sz)) 0 0 (va_A (W_27 ct q_t q_t_row0 q_t_row1 q_t_measures q_t_pieces q_t_joins q_t_finals q_t_kept t_settledNear t_finals t_kept) sz) := by
  refine Met.ofW (cc := cX6_changeTime) (maxL := 4) (ret := (some .int)) (by decide) rfl ?_
  intro p e s m args below meth c s₁ B hml hv
  obtain ⟨rfl, hsz, hP, hE, hD0⟩ := hv
  have hx := B.exec
  have hb := B.bytes
  have hr := B.returns
  have hts := atoms_spec (ws := wsX6_changeTime) B.pre
  have hown : s.vm.findClass RX6 = some m.cls := findClass_of_methodNamed B.named
  have hlocks := B.notSynchronized
  subst hsz
  have hD := hD0.self (sz := s.heap.size)
  generalize hAe : va_A (W_27 ct q_t q_t_row0 q_t_row1 q_t_measures q_t_pieces q_t_joins q_t_finals q_t_kept t_settledNear t_finals t_kept) s.heap.size = A at hD ⊢
  have hA : ∀ q : Nat, s.heap.size ≤ q → A q := fun q h => by rw [← hAe]; exact Or.inr h
  have hl := lv_entry ([.ref q_t, .int p1]) (n := 4) (Nat.le_of_ble_eq_true rfl)
  rw [lg_entry_eq]
  generalize (lg_sl ([.ref q_t, .int p1]) ++ List.replicate (4 - (lg_sl ([.ref q_t, .int p1])).length) Slot.unset).toArray = ls at hl ⊢
  have hl : lv_has ls 4 [(0, .ref q_t), (1, .int p1)] := hl
  have C0 : Cx RX6 cX6_changeTime 4 (some .int) wsX6_changeTime D ct A p s m ([.ref q_t, .int p1]).toArray meth c := ⟨hx, hb, hml, hown, hts, hr, hlocks, hE, hA⟩
  have hS : ∀ H : Heap, s.heap = H → va_S A s.heap H [] := fun H h => h ▸ va_S.rf
  generalize hH : s.heap = H at hP ⊢
  have hS := hS H hH
  unfold FX6_changeTime at hF
  refine lv_iconst (v := 0) hx hb dX6_changeTime_0 (by decide) ?_
  refine lv_istore_n (lv' := [(2, .int 0), (0, .ref q_t), (1, .int p1)]) hx hb dX6_changeTime_1 rfl hl (by decide) rfl (fun ls hl => ?_)
  refine lv_iconst (v := 0) hx hb dX6_changeTime_2 (by decide) ?_
  refine lv_istore_n (lv' := [(3, .int 0), (2, .int 0), (0, .ref q_t), (1, .int p1)]) hx hb dX6_changeTime_3 rfl hl (by decide) rfl (fun ls hl => ?_)
  exact lX6_changeTime_4 C0 n p1 0 0 _ _ _ hF hP hD hS (lv_sub hl [2, 3, 1, 0] rfl)
