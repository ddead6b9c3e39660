def W_36 (ct : Nat → ClassId) (a0 a1 a2 a3 a4 a5 a6 a7 a8 a9 a10 a11 a12 a13 a14 a15 a16 a17 a18 a19 a20 a21 a22 a23 : Nat) (v0 : Int32) (v1 : Int32) (v2 : Int32) (v3 : Int32) (v4 : Int64) (v5 : Int64) (v6 : Int64) (v7 : Int64) (v8 : Int32) (v9 : Int32) (v10 : Int32) (v11 : Int32) (v12 : Int32) (v13 : Int32) (v14 : Int32) (v15 : Int32) (v16 : Int32) (v17 : Int32) (v18 : Int32) (v19 : Int32) (v20 : Int32) (v21 : Int32) (v22 : Int32) (v23 : Int32) (v24 : Int32) (v25 : Int32) (v26 : Int32) (v27 : Int32) (v28 : Int32) (v29 : Int32) (v30 : Int32) : va_W := [(a0, .inr (10, [.int v0, .ref a1, .ref a2, .ref a3, .ref a4, .ref a5, .ref a6, .ref a7, .ref a8, .ref a9, .int v1, .ref a10, .ref a11, .ref a12, .int v2, .ref a13, .ref a14, .ref a15, .ref a16, .ref a17, .int v3, .long v4, .long v5, .long v6, .long v7, .ref a18, .int v8, .int v9, .int v10, .int v11, .int v12, .int v13, .int v14, .int v15, .int v16, .int v17, .int v18, .int v19, .int v20, .ref a19, .int v21, .int v22, .int v23, .int v24, .int v25, .int v26, .int v27, .ref a20, .int v28, .ref a21, .ref a22, .int v29, .ref a23, .int v30]))]
/-! NeedleHouseModel.thrown()I -/
theorem i_X10_thrown_X10 : ∀ w ∈ wsX100, w ∈ wvX10_thrown := fun w h => List.mem_cons_of_mem _ (iCW10_X10 w h)
set_option maxHeartbeats 4000000 in
set_option maxRecDepth 100000 in
theorem met_X10_thrown (l : Launch) (D : va_G) (ct : Nat → ClassId) (q_t : Nat) (q_t_readings : Nat) (q_t_many : Nat) (q_t_joined : Nat) (q_t_finals : Nat) (q_t_when : Nat) (q_t_mean : Nat) (q_t_left : Nat) (q_t_ends : Nat) (q_t_measures : Nat) (q_t_pointTime : Nat) (q_t_point : Nat) (q_t_pointEnd : Nat) (q_t_first : Nat) (q_t_length : Nat) (q_t_up : Nat) (q_t_down : Nat) (q_t_height : Nat) (q_t_tape : Nat) (q_t_index : Nat) (q_t_newIndex : Nat) (q_t_trainFrom : Nat) (q_t_trainTo : Nat) (q_t_published : Nat) (sz : Nat) (t_thrown : Int32) (t_end : Int32) (t_points : Int32) (t_pieces : Int32) (t_lowUp : Int64) (t_lowDown : Int64) (t_highUp : Int64) (t_highDown : Int64) (t_taped : Int32) (t_size : Int32) (t_at : Int32) (t_fault : Int32) (t_place : Int32) (t_clauses : Int32) (t_limit : Int32) (t_near : Int32) (t_shareOne : Int32) (t_shareOf : Int32) (t_window : Int32) (t_storm : Int32) (t_indexMany : Int32) (t_newLimit : Int32) (t_newNear : Int32) (t_newOne : Int32) (t_newOf : Int32) (t_newWindow : Int32) (t_newStorm : Int32) (t_newMany : Int32) (t_began : Int32) (t_trains : Int32) (t_publishings : Int32) (n : Nat) (o_r : Int32) (hF : FX10_thrown n t_thrown = some (o_r)) : Met l yX10_thrown wvX10_thrown ({ frames := 0, cells := 0, slots := 0, locals := 0 } : Room) (va_Pc [.ref q_t] (pre_ D ct sz (W_36 ct q_t q_t_readings q_t_many q_t_joined q_t_finals q_t_when q_t_mean q_t_left q_t_ends q_t_measures q_t_pointTime q_t_point q_t_pointEnd q_t_first q_t_length q_t_up q_t_down q_t_height q_t_tape q_t_index q_t_newIndex q_t_trainFrom q_t_trainTo q_t_published t_thrown t_end t_points t_pieces t_lowUp t_lowDown t_highUp t_highDown t_taped t_size t_at t_fault t_place t_clauses t_limit t_near t_shareOne t_shareOf t_window t_storm t_indexMany t_newLimit t_newNear t_newOne t_newOf t_newWindow t_newStorm t_newMany t_began t_trains t_publishings))) (va_Qi (fun r (_ : Unit) => r = o_r) (fun _ t => va_P D vwCl (W_36 ct q_t q_t_readings q_t_many q_t_joined q_t_finals q_t_when q_t_mean q_t_left q_t_ends q_t_measures q_t_pointTime q_t_point q_t_pointEnd q_t_first q_t_length q_t_up q_t_down q_t_height q_t_tape q_t_index q_t_newIndex q_t_trainFrom q_t_trainTo q_t_published t_thrown t_end t_points t_pieces t_lowUp t_lowDown t_highUp t_highDown t_taped t_size t_at t_fault t_place t_clauses t_limit t_near t_shareOne t_shareOf t_window t_storm t_indexMany t_newLimit t_newNear t_newOne t_newOf t_newWindow t_newStorm t_newMany t_began t_trains t_publishings) t.heap) (va_A (W_36 ct q_t q_t_readings q_t_many q_t_joined q_t_finals q_t_when q_t_mean q_t_left q_t_ends q_t_measures q_t_pointTime q_t_point q_t_pointEnd q_t_first q_t_length q_t_up q_t_down q_t_height q_t_tape q_t_index q_t_newIndex q_t_trainFrom q_t_trainTo q_t_published t_thrown t_end t_points t_pieces t_lowUp t_lowDown t_highUp t_highDown t_taped t_size t_at t_fault t_place t_clauses t_limit t_near t_shareOne t_shareOf t_window t_storm t_indexMany t_newLimit t_newNear t_newOne t_newOf t_newWindow t_newStorm t_newMany t_began t_trains t_publishings) sz)) 0 0 (va_A (W_36 ct q_t q_t_readings q_t_many q_t_joined q_t_finals q_t_when q_t_mean q_t_left q_t_ends q_t_measures q_t_pointTime q_t_point q_t_pointEnd q_t_first q_t_length q_t_up q_t_down q_t_height q_t_tape q_t_index q_t_newIndex q_t_trainFrom q_t_trainTo q_t_published t_thrown t_end t_points t_pieces t_lowUp t_lowDown t_highUp t_highDown t_taped t_size t_at t_fault t_place t_clauses t_limit t_near t_shareOne t_shareOf t_window t_storm t_indexMany t_newLimit t_newNear t_newOne t_newOf t_newWindow t_newStorm t_newMany t_began t_trains t_publishings) sz) := by
  refine Met.ofW (cc := cX10_thrown) (maxL := 1) (ret := (some .int)) (by decide) rfl ?_
  intro p e s m args below meth c s₁ B hml hv
  obtain ⟨rfl, hsz, hP, hE, hD0⟩ := hv
  have hx := B.exec
  have hb := B.bytes
  have hr := B.returns
  have hts := atoms_spec (ws := wvX10_thrown) B.pre
  have hown : s.vm.findClass RX10 = some m.cls := findClass_of_methodNamed B.named
  have hlocks := B.notSynchronized
  subst hsz
  have hD := hD0.self (sz := s.heap.size)
  generalize hAe : va_A (W_36 ct q_t q_t_readings q_t_many q_t_joined q_t_finals q_t_when q_t_mean q_t_left q_t_ends q_t_measures q_t_pointTime q_t_point q_t_pointEnd q_t_first q_t_length q_t_up q_t_down q_t_height q_t_tape q_t_index q_t_newIndex q_t_trainFrom q_t_trainTo q_t_published t_thrown t_end t_points t_pieces t_lowUp t_lowDown t_highUp t_highDown t_taped t_size t_at t_fault t_place t_clauses t_limit t_near t_shareOne t_shareOf t_window t_storm t_indexMany t_newLimit t_newNear t_newOne t_newOf t_newWindow t_newStorm t_newMany t_began t_trains t_publishings) s.heap.size = A at hD ⊢
  have hA : ∀ q : Nat, s.heap.size ≤ q → A q := fun q h => by rw [← hAe]; exact Or.inr h
  have hl := lv_entry ([.ref q_t]) (n := 1) (Nat.le_of_ble_eq_true rfl)
  rw [lg_entry_eq]
  generalize (lg_sl ([.ref q_t]) ++ List.replicate (1 - (lg_sl ([.ref q_t])).length) Slot.unset).toArray = ls at hl ⊢
  have hl : lv_has ls 1 [(0, .ref q_t)] := hl
  have C0 : Cx RX10 cX10_thrown 1 (some .int) wvX10_thrown D ct A p s m ([.ref q_t]).toArray meth c := ⟨hx, hb, hml, hown, hts, hr, hlocks, hE, hA⟩
  have hS : ∀ H : Heap, s.heap = H → va_S A s.heap H [] := fun H h => h ▸ va_S.rf
  generalize hH : s.heap = H at hP ⊢
  have hS := hS H hH
  unfold FX10_thrown at hF
  refine lv_aload_n hx hb dX10_thrown_0 rfl (lv_at hl 0 rfl) ?_
  refine va_get (D := D) (ci := 10) (v := .int t_thrown) (C := RX10) (T := TX10) (N := 54) hx hb hts i_X10_thrown_X10 hown hE.1 hP 0 rfl rfl 0 (by decide) (hts (.fieldLink RX10 114 "NeedleHouseModel" "thrown" "I") (List.mem_cons_of_mem _ (List.mem_of_getElem? (i := 45) rfl))) (fun _ h9 => h9) rfl dX10_thrown_1 ?_
  obtain rfl := Option.some.inj hF
  exact W.iret hx hb hr (fun t ht hW => ⟨⟨_, (), rfl, rfl, vaP_at ht hP⟩, hS.F ht⟩) hS.2.2 dX10_thrown_4
/-! NeedleHouseModel.bad(ZI)Z -/
theorem i_X10_bad_X10 : ∀ w ∈ wsX100, w ∈ wvX10_bad := fun w h => List.mem_cons_of_mem _ (iCW10_X10 w h)
set_option maxHeartbeats 4000000 in
set_option maxRecDepth 100000 in
theorem met_X10_bad (l : Launch) (D : va_G) (ct : Nat → ClassId) (q_t : Nat) (q_t_readings : Nat) (q_t_many : Nat) (q_t_joined : Nat) (q_t_finals : Nat) (q_t_when : Nat) (q_t_mean : Nat) (q_t_left : Nat) (q_t_ends : Nat) (q_t_measures : Nat) (q_t_pointTime : Nat) (q_t_point : Nat) (q_t_pointEnd : Nat) (q_t_first : Nat) (q_t_length : Nat) (q_t_up : Nat) (q_t_down : Nat) (q_t_height : Nat) (q_t_tape : Nat) (q_t_index : Nat) (q_t_newIndex : Nat) (q_t_trainFrom : Nat) (q_t_trainTo : Nat) (q_t_published : Nat) (sz : Nat) (t_thrown : Int32) (t_end : Int32) (t_points : Int32) (t_pieces : Int32) (t_lowUp : Int64) (t_lowDown : Int64) (t_highUp : Int64) (t_highDown : Int64) (t_taped : Int32) (t_size : Int32) (t_at : Int32) (t_fault : Int32) (t_place : Int32) (t_clauses : Int32) (t_limit : Int32) (t_near : Int32) (t_shareOne : Int32) (t_shareOf : Int32) (t_window : Int32) (t_storm : Int32) (t_indexMany : Int32) (t_newLimit : Int32) (t_newNear : Int32) (t_newOne : Int32) (t_newOf : Int32) (t_newWindow : Int32) (t_newStorm : Int32) (t_newMany : Int32) (t_began : Int32) (t_trains : Int32) (t_publishings : Int32) (p1 : Int32) (p2 : Int32) (n : Nat) (o_r : Int32) (o_t_thrown : Int32) (hF : FX10_bad n t_thrown p1 p2 = some (o_r, o_t_thrown)) : Met l yX10_bad wvX10_bad ({ frames := 0, cells := 0, slots := 0, locals := 0 } : Room) (va_Pc [.ref q_t, .int p1, .int p2] (pre_ D ct sz (W_36 ct q_t q_t_readings q_t_many q_t_joined q_t_finals q_t_when q_t_mean q_t_left q_t_ends q_t_measures q_t_pointTime q_t_point q_t_pointEnd q_t_first q_t_length q_t_up q_t_down q_t_height q_t_tape q_t_index q_t_newIndex q_t_trainFrom q_t_trainTo q_t_published t_thrown t_end t_points t_pieces t_lowUp t_lowDown t_highUp t_highDown t_taped t_size t_at t_fault t_place t_clauses t_limit t_near t_shareOne t_shareOf t_window t_storm t_indexMany t_newLimit t_newNear t_newOne t_newOf t_newWindow t_newStorm t_newMany t_began t_trains t_publishings))) (va_Qi (fun r (_ : Unit) => r = o_r) (fun _ t => va_P D vwCl (W_36 ct q_t q_t_readings q_t_many q_t_joined q_t_finals q_t_when q_t_mean q_t_left q_t_ends q_t_measures q_t_pointTime q_t_point q_t_pointEnd q_t_first q_t_length q_t_up q_t_down q_t_height q_t_tape q_t_index q_t_newIndex q_t_trainFrom q_t_trainTo q_t_published o_t_thrown t_end t_points t_pieces t_lowUp t_lowDown t_highUp t_highDown t_taped t_size t_at t_fault t_place t_clauses t_limit t_near t_shareOne t_shareOf t_window t_storm t_indexMany t_newLimit t_newNear t_newOne t_newOf t_newWindow t_newStorm t_newMany t_began t_trains t_publishings) t.heap) (va_A (W_36 ct q_t q_t_readings q_t_many q_t_joined q_t_finals q_t_when q_t_mean q_t_left q_t_ends q_t_measures q_t_pointTime q_t_point q_t_pointEnd q_t_first q_t_length q_t_up q_t_down q_t_height q_t_tape q_t_index q_t_newIndex q_t_trainFrom q_t_trainTo q_t_published t_thrown t_end t_points t_pieces t_lowUp t_lowDown t_highUp t_highDown t_taped t_size t_at t_fault t_place t_clauses t_limit t_near t_shareOne t_shareOf t_window t_storm t_indexMany t_newLimit t_newNear t_newOne t_newOf t_newWindow t_newStorm t_newMany t_began t_trains t_publishings) sz)) 0 0 (va_A (W_36 ct q_t q_t_readings q_t_many q_t_joined q_t_finals q_t_when q_t_mean q_t_left q_t_ends q_t_measures q_t_pointTime q_t_point q_t_pointEnd q_t_first q_t_length q_t_up q_t_down q_t_height q_t_tape q_t_index q_t_newIndex q_t_trainFrom q_t_trainTo q_t_published t_thrown t_end t_points t_pieces t_lowUp t_lowDown t_highUp t_highDown t_taped t_size t_at t_fault t_place t_clauses t_limit t_near t_shareOne t_shareOf t_window t_storm t_indexMany t_newLimit t_newNear t_newOne t_newOf t_newWindow t_newStorm t_newMany t_began t_trains t_publishings) sz) := by
  refine Met.ofW (cc := cX10_bad) (maxL := 3) (ret := (some .boolean)) (by decide) rfl ?_
  intro p e s m args below meth c s₁ B hml hv
  obtain ⟨rfl, hsz, hP, hE, hD0⟩ := hv
  have hx := B.exec
  have hb := B.bytes
  have hr := B.returns
  have hts := atoms_spec (ws := wvX10_bad) B.pre
  have hown : s.vm.findClass RX10 = some m.cls := findClass_of_methodNamed B.named
  have hlocks := B.notSynchronized
  subst hsz
  have hD := hD0.self (sz := s.heap.size)
  generalize hAe : va_A (W_36 ct q_t q_t_readings q_t_many q_t_joined q_t_finals q_t_when q_t_mean q_t_left q_t_ends q_t_measures q_t_pointTime q_t_point q_t_pointEnd q_t_first q_t_length q_t_up q_t_down q_t_height q_t_tape q_t_index q_t_newIndex q_t_trainFrom q_t_trainTo q_t_published t_thrown t_end t_points t_pieces t_lowUp t_lowDown t_highUp t_highDown t_taped t_size t_at t_fault t_place t_clauses t_limit t_near t_shareOne t_shareOf t_window t_storm t_indexMany t_newLimit t_newNear t_newOne t_newOf t_newWindow t_newStorm t_newMany t_began t_trains t_publishings) s.heap.size = A at hD ⊢
  have hA : ∀ q : Nat, s.heap.size ≤ q → A q := fun q h => by rw [← hAe]; exact Or.inr h
  have hl := lv_entry ([.ref q_t, .int p1, .int p2]) (n := 3) (Nat.le_of_ble_eq_true rfl)
  rw [lg_entry_eq]
  generalize (lg_sl ([.ref q_t, .int p1, .int p2]) ++ List.replicate (3 - (lg_sl ([.ref q_t, .int p1, .int p2])).length) Slot.unset).toArray = ls at hl ⊢
  have hl : lv_has ls 3 [(0, .ref q_t), (1, .int p1), (2, .int p2)] := hl
  have C0 : Cx RX10 cX10_bad 3 (some .boolean) wvX10_bad D ct A p s m ([.ref q_t, .int p1, .int p2]).toArray meth c := ⟨hx, hb, hml, hown, hts, hr, hlocks, hE, hA⟩
  have hS : ∀ H : Heap, s.heap = H → va_S A s.heap H [] := fun H h => h ▸ va_S.rf
  generalize hH : s.heap = H at hP ⊢
  have hS := hS H hH
  unfold FX10_bad at hF
  refine lv_iload_n hx hb dX10_bad_0 rfl (lv_at hl 1 rfl) ?_
  refine lv_if_eq (tgt := 9) hx hb dX10_bad_1 (by decide) (fun c1 => ?_) (fun c1 => ?_)
  · have hF := ifT c1 hF
    refine lv_iload_n hx hb dX10_bad_9 rfl (lv_at hl 1 rfl) ?_
    obtain ⟨hz, hF⟩ := gd_ex hF
    obtain ⟨rfl, rfl⟩ := in2 hF
    exact W.zret hx hb hr hz (fun t ht hW => ⟨⟨_, (), rfl, rfl, vaP_at ht hP⟩, hS.F ht⟩) hS.2.2 dX10_bad_10
  · have hF := ifF c1 hF
    refine lv_aload_n hx hb dX10_bad_4 rfl (lv_at hl 0 rfl) ?_
    refine lv_iload_n hx hb dX10_bad_5 rfl (lv_at hl 2 rfl) ?_
    refine va_put (D := D) (ci := 10) (v := .int p2) (ty := .int) (C := RX10) (T := TX10) (N := 54) hx hb hts i_X10_bad_X10 tyX10 tyX10_ok nmX10 hown hE.1 hP hD hS 0 rfl rfl 0 (by decide) (hts (.fieldLink RX10 114 "NeedleHouseModel" "thrown" "I") (List.mem_cons_of_mem _ (List.mem_of_getElem? (i := 45) rfl))) (fun _ h9 => h9) rfl (by decide +kernel) rfl rfl (Nat.le_of_ble_eq_true rfl) dX10_bad_6 (fun H locs hP hD hS => ?_)
    have hP : va_P D vwCl (W_36 ct q_t q_t_readings q_t_many q_t_joined q_t_finals q_t_when q_t_mean q_t_left q_t_ends q_t_measures q_t_pointTime q_t_point q_t_pointEnd q_t_first q_t_length q_t_up q_t_down q_t_height q_t_tape q_t_index q_t_newIndex q_t_trainFrom q_t_trainTo q_t_published p2 t_end t_points t_pieces t_lowUp t_lowDown t_highUp t_highDown t_taped t_size t_at t_fault t_place t_clauses t_limit t_near t_shareOne t_shareOf t_window t_storm t_indexMany t_newLimit t_newNear t_newOne t_newOf t_newWindow t_newStorm t_newMany t_began t_trains t_publishings) H := hP
    have hD : va_D A (W_36 ct q_t q_t_readings q_t_many q_t_joined q_t_finals q_t_when q_t_mean q_t_left q_t_ends q_t_measures q_t_pointTime q_t_point q_t_pointEnd q_t_first q_t_length q_t_up q_t_down q_t_height q_t_tape q_t_index q_t_newIndex q_t_trainFrom q_t_trainTo q_t_published p2 t_end t_points t_pieces t_lowUp t_lowDown t_highUp t_highDown t_taped t_size t_at t_fault t_place t_clauses t_limit t_near t_shareOne t_shareOf t_window t_storm t_indexMany t_newLimit t_newNear t_newOne t_newOf t_newWindow t_newStorm t_newMany t_began t_trains t_publishings) := hD
    refine lv_iload_n hx hb dX10_bad_9 rfl (lv_at hl 1 rfl) ?_
    obtain ⟨hz, hF⟩ := gd_ex hF
    obtain ⟨rfl, rfl⟩ := in2 hF
    exact W.zret hx hb hr hz (fun t ht hW => ⟨⟨_, (), rfl, rfl, vaP_at ht hP⟩, hS.F ht⟩) hS.2.2 dX10_bad_10
/-! NeedleHouseModel.isTrace(I)Z -/
set_option maxHeartbeats 4000000 in
set_option maxRecDepth 100000 in
theorem met_X10_isTrace (l : Launch) (D : va_G) (ct : Nat → ClassId) (q_t : Nat) (q_t_readings : Nat) (q_t_many : Nat) (q_t_joined : Nat) (q_t_finals : Nat) (q_t_when : Nat) (q_t_mean : Nat) (q_t_left : Nat) (q_t_ends : Nat) (q_t_measures : Nat) (q_t_pointTime : Nat) (q_t_point : Nat) (q_t_pointEnd : Nat) (q_t_first : Nat) (q_t_length : Nat) (q_t_up : Nat) (q_t_down : Nat) (q_t_height : Nat) (q_t_tape : Nat) (q_t_index : Nat) (q_t_newIndex : Nat) (q_t_trainFrom : Nat) (q_t_trainTo : Nat) (q_t_published : Nat) (sz : Nat) (t_thrown : Int32) (t_end : Int32) (t_points : Int32) (t_pieces : Int32) (t_lowUp : Int64) (t_lowDown : Int64) (t_highUp : Int64) (t_highDown : Int64) (t_taped : Int32) (t_size : Int32) (t_at : Int32) (t_fault : Int32) (t_place : Int32) (t_clauses : Int32) (t_limit : Int32) (t_near : Int32) (t_shareOne : Int32) (t_shareOf : Int32) (t_window : Int32) (t_storm : Int32) (t_indexMany : Int32) (t_newLimit : Int32) (t_newNear : Int32) (t_newOne : Int32) (t_newOf : Int32) (t_newWindow : Int32) (t_newStorm : Int32) (t_newMany : Int32) (t_began : Int32) (t_trains : Int32) (t_publishings : Int32) (p1 : Int32) (n : Nat) (o_r : Int32) (hF : FX10_isTrace n p1 = some (o_r)) : Met l yX10_isTrace wvX10_isTrace ({ frames := 0, cells := 0, slots := 0, locals := 0 } : Room) (va_Pc [.ref q_t, .int p1] (pre_ D ct sz (W_36 ct q_t q_t_readings q_t_many q_t_joined q_t_finals q_t_when q_t_mean q_t_left q_t_ends q_t_measures q_t_pointTime q_t_point q_t_pointEnd q_t_first q_t_length q_t_up q_t_down q_t_height q_t_tape q_t_index q_t_newIndex q_t_trainFrom q_t_trainTo q_t_published t_thrown t_end t_points t_pieces t_lowUp t_lowDown t_highUp t_highDown t_taped t_size t_at t_fault t_place t_clauses t_limit t_near t_shareOne t_shareOf t_window t_storm t_indexMany t_newLimit t_newNear t_newOne t_newOf t_newWindow t_newStorm t_newMany t_began t_trains t_publishings))) (va_Qi (fun r (_ : Unit) => r = o_r) (fun _ t => va_P D vwCl (W_36 ct q_t q_t_readings q_t_many q_t_joined q_t_finals q_t_when q_t_mean q_t_left q_t_ends q_t_measures q_t_pointTime q_t_point q_t_pointEnd q_t_first q_t_length q_t_up q_t_down q_t_height q_t_tape q_t_index q_t_newIndex q_t_trainFrom q_t_trainTo q_t_published t_thrown t_end t_points t_pieces t_lowUp t_lowDown t_highUp t_highDown t_taped t_size t_at t_fault t_place t_clauses t_limit t_near t_shareOne t_shareOf t_window t_storm t_indexMany t_newLimit t_newNear t_newOne t_newOf t_newWindow t_newStorm t_newMany t_began t_trains t_publishings) t.heap) (va_A (W_36 ct q_t q_t_readings q_t_many q_t_joined q_t_finals q_t_when q_t_mean q_t_left q_t_ends q_t_measures q_t_pointTime q_t_point q_t_pointEnd q_t_first q_t_length q_t_up q_t_down q_t_height q_t_tape q_t_index q_t_newIndex q_t_trainFrom q_t_trainTo q_t_published t_thrown t_end t_points t_pieces t_lowUp t_lowDown t_highUp t_highDown t_taped t_size t_at t_fault t_place t_clauses t_limit t_near t_shareOne t_shareOf t_window t_storm t_indexMany t_newLimit t_newNear t_newOne t_newOf t_newWindow t_newStorm t_newMany t_began t_trains t_publishings) sz)) 0 0 (va_A (W_36 ct q_t q_t_readings q_t_many q_t_joined q_t_finals q_t_when q_t_mean q_t_left q_t_ends q_t_measures q_t_pointTime q_t_point q_t_pointEnd q_t_first q_t_length q_t_up q_t_down q_t_height q_t_tape q_t_index q_t_newIndex q_t_trainFrom q_t_trainTo q_t_published t_thrown t_end t_points t_pieces t_lowUp t_lowDown t_highUp t_highDown t_taped t_size t_at t_fault t_place t_clauses t_limit t_near t_shareOne t_shareOf t_window t_storm t_indexMany t_newLimit t_newNear t_newOne t_newOf t_newWindow t_newStorm t_newMany t_began t_trains t_publishings) sz) := by
  refine Met.ofW (cc := cX10_isTrace) (maxL := 2) (ret := (some .boolean)) (by decide) rfl ?_
  intro p e s m args below meth c s₁ B hml hv
  obtain ⟨rfl, hsz, hP, hE, hD0⟩ := hv
  have hx := B.exec
  have hb := B.bytes
  have hr := B.returns
  have hts := atoms_spec (ws := wvX10_isTrace) B.pre
  have hown : s.vm.findClass RX10 = some m.cls := findClass_of_methodNamed B.named
  have hlocks := B.notSynchronized
  subst hsz
  have hD := hD0.self (sz := s.heap.size)
  generalize hAe : va_A (W_36 ct q_t q_t_readings q_t_many q_t_joined q_t_finals q_t_when q_t_mean q_t_left q_t_ends q_t_measures q_t_pointTime q_t_point q_t_pointEnd q_t_first q_t_length q_t_up q_t_down q_t_height q_t_tape q_t_index q_t_newIndex q_t_trainFrom q_t_trainTo q_t_published t_thrown t_end t_points t_pieces t_lowUp t_lowDown t_highUp t_highDown t_taped t_size t_at t_fault t_place t_clauses t_limit t_near t_shareOne t_shareOf t_window t_storm t_indexMany t_newLimit t_newNear t_newOne t_newOf t_newWindow t_newStorm t_newMany t_began t_trains t_publishings) s.heap.size = A at hD ⊢
  have hA : ∀ q : Nat, s.heap.size ≤ q → A q := fun q h => by rw [← hAe]; exact Or.inr h
  have hl := lv_entry ([.ref q_t, .int p1]) (n := 2) (Nat.le_of_ble_eq_true rfl)
  rw [lg_entry_eq]
  generalize (lg_sl ([.ref q_t, .int p1]) ++ List.replicate (2 - (lg_sl ([.ref q_t, .int p1])).length) Slot.unset).toArray = ls at hl ⊢
  have hl : lv_has ls 2 [(0, .ref q_t), (1, .int p1)] := hl
  have C0 : Cx RX10 cX10_isTrace 2 (some .boolean) wvX10_isTrace D ct A p s m ([.ref q_t, .int p1]).toArray meth c := ⟨hx, hb, hml, hown, hts, hr, hlocks, hE, hA⟩
  have hS : ∀ H : Heap, s.heap = H → va_S A s.heap H [] := fun H h => h ▸ va_S.rf
  generalize hH : s.heap = H at hP ⊢
  have hS := hS H hH
  unfold FX10_isTrace at hF
  refine lv_iload_n hx hb dX10_isTrace_0 rfl (lv_at hl 1 rfl) ?_
  refine lv_if_lt (tgt := 13) hx hb dX10_isTrace_1 (by decide) (fun c1 => ?_) (fun c1 => ?_)
  · have hF := ifT c1 hF
    refine lv_iconst (v := 0) hx hb dX10_isTrace_13 (by decide) ?_
    obtain rfl := Option.some.inj hF
    exact W.zret hx hb hr rfl (fun t ht hW => ⟨⟨_, (), rfl, rfl, vaP_at ht hP⟩, hS.F ht⟩) hS.2.2 dX10_isTrace_14
  · have hF := ifF c1 hF
    refine lv_iload_n hx hb dX10_isTrace_4 rfl (lv_at hl 1 rfl) ?_
    refine lv_iconst (v := 3) hx hb dX10_isTrace_5 (by decide) ?_
    refine lv_icmp_ge (tgt := 13) hx hb dX10_isTrace_6 (by decide) (fun c2 => ?_) (fun c2 => ?_)
    · have hF := ifT c2 hF
      refine lv_iconst (v := 0) hx hb dX10_isTrace_13 (by decide) ?_
      obtain rfl := Option.some.inj hF
      exact W.zret hx hb hr rfl (fun t ht hW => ⟨⟨_, (), rfl, rfl, vaP_at ht hP⟩, hS.F ht⟩) hS.2.2 dX10_isTrace_14
    · have hF := ifF c2 hF
      refine lv_iconst (v := 1) hx hb dX10_isTrace_9 (by decide) ?_
      refine lv_goto (tgt := 14) hx hb dX10_isTrace_10 (by decide) ?_
      obtain rfl := Option.some.inj hF
      exact W.zret hx hb hr rfl (fun t ht hW => ⟨⟨_, (), rfl, rfl, vaP_at ht hP⟩, hS.F ht⟩) hS.2.2 dX10_isTrace_14
/-! NeedleHouseModel.isRow(II)Z -/
theorem i_X10_isRow_X10 : ∀ w ∈ wsX100, w ∈ wvX10_isRow := fun w h => List.mem_cons_of_mem _ (iCW10_X10 w h)
set_option maxHeartbeats 4000000 in
set_option maxRecDepth 100000 in
theorem met_X10_isRow (l : Launch) (D : va_G) (ct : Nat → ClassId) (q_t : Nat) (q_t_readings : Nat) (q_t_many : Nat) (q_t_joined : Nat) (q_t_finals : Nat) (q_t_when : Nat) (q_t_mean : Nat) (q_t_left : Nat) (q_t_ends : Nat) (q_t_measures : Nat) (q_t_pointTime : Nat) (q_t_point : Nat) (q_t_pointEnd : Nat) (q_t_first : Nat) (q_t_length : Nat) (q_t_up : Nat) (q_t_down : Nat) (q_t_height : Nat) (q_t_tape : Nat) (q_t_index : Nat) (q_t_newIndex : Nat) (q_t_trainFrom : Nat) (q_t_trainTo : Nat) (q_t_published : Nat) (sz : Nat) (t_thrown : Int32) (t_end : Int32) (t_points : Int32) (t_pieces : Int32) (t_lowUp : Int64) (t_lowDown : Int64) (t_highUp : Int64) (t_highDown : Int64) (t_taped : Int32) (t_size : Int32) (t_at : Int32) (t_fault : Int32) (t_place : Int32) (t_clauses : Int32) (t_limit : Int32) (t_near : Int32) (t_shareOne : Int32) (t_shareOf : Int32) (t_window : Int32) (t_storm : Int32) (t_indexMany : Int32) (t_newLimit : Int32) (t_newNear : Int32) (t_newOne : Int32) (t_newOf : Int32) (t_newWindow : Int32) (t_newStorm : Int32) (t_newMany : Int32) (t_began : Int32) (t_trains : Int32) (t_publishings : Int32) (p1 : Int32) (p2 : Int32) (n : Nat) (o_r : Int32) (o_t_thrown : Int32) (hF : FX10_isRow n t_thrown p1 p2 = some (o_r, o_t_thrown)) : Met l yX10_isRow wvX10_isRow ({ frames := 1, cells := 0, slots := 0, locals := 21 } : Room) (va_Pc [.ref q_t, .int p1, .int p2] (pre_ D ct sz (W_36 ct q_t q_t_readings q_t_many q_t_joined q_t_finals q_t_when q_t_mean q_t_left q_t_ends q_t_measures q_t_pointTime q_t_point q_t_pointEnd q_t_first q_t_length q_t_up q_t_down q_t_height q_t_tape q_t_index q_t_newIndex q_t_trainFrom q_t_trainTo q_t_published t_thrown t_end t_points t_pieces t_lowUp t_lowDown t_highUp t_highDown t_taped t_size t_at t_fault t_place t_clauses t_limit t_near t_shareOne t_shareOf t_window t_storm t_indexMany t_newLimit t_newNear t_newOne t_newOf t_newWindow t_newStorm t_newMany t_began t_trains t_publishings))) (va_Qi (fun r (_ : Unit) => r = o_r) (fun _ t => va_P D vwCl (W_36 ct q_t q_t_readings q_t_many q_t_joined q_t_finals q_t_when q_t_mean q_t_left q_t_ends q_t_measures q_t_pointTime q_t_point q_t_pointEnd q_t_first q_t_length q_t_up q_t_down q_t_height q_t_tape q_t_index q_t_newIndex q_t_trainFrom q_t_trainTo q_t_published o_t_thrown t_end t_points t_pieces t_lowUp t_lowDown t_highUp t_highDown t_taped t_size t_at t_fault t_place t_clauses t_limit t_near t_shareOne t_shareOf t_window t_storm t_indexMany t_newLimit t_newNear t_newOne t_newOf t_newWindow t_newStorm t_newMany t_began t_trains t_publishings) t.heap) (va_A (W_36 ct q_t q_t_readings q_t_many q_t_joined q_t_finals q_t_when q_t_mean q_t_left q_t_ends q_t_measures q_t_pointTime q_t_point q_t_pointEnd q_t_first q_t_length q_t_up q_t_down q_t_height q_t_tape q_t_index q_t_newIndex q_t_trainFrom q_t_trainTo q_t_published t_thrown t_end t_points t_pieces t_lowUp t_lowDown t_highUp t_highDown t_taped t_size t_at t_fault t_place t_clauses t_limit t_near t_shareOne t_shareOf t_window t_storm t_indexMany t_newLimit t_newNear t_newOne t_newOf t_newWindow t_newStorm t_newMany t_began t_trains t_publishings) sz)) 0 0 (va_A (W_36 ct q_t q_t_readings q_t_many q_t_joined q_t_finals q_t_when q_t_mean q_t_left q_t_ends q_t_measures q_t_pointTime q_t_point q_t_pointEnd q_t_first q_t_length q_t_up q_t_down q_t_height q_t_tape q_t_index q_t_newIndex q_t_trainFrom q_t_trainTo q_t_published t_thrown t_end t_points t_pieces t_lowUp t_lowDown t_highUp t_highDown t_taped t_size t_at t_fault t_place t_clauses t_limit t_near t_shareOne t_shareOf t_window t_storm t_indexMany t_newLimit t_newNear t_newOne t_newOf t_newWindow t_newStorm t_newMany t_began t_trains t_publishings) sz) := by
  refine Met.ofW (cc := cX10_isRow) (maxL := 3) (ret := (some .boolean)) (by decide) rfl ?_
  intro p e s m args below meth c s₁ B hml hv
  obtain ⟨rfl, hsz, hP, hE, hD0⟩ := hv
  have hx := B.exec
  have hb := B.bytes
  have hr := B.returns
  have hts := atoms_spec (ws := wvX10_isRow) B.pre
  have hown : s.vm.findClass RX10 = some m.cls := findClass_of_methodNamed B.named
  have hlocks := B.notSynchronized
  subst hsz
  have hD := hD0.self (sz := s.heap.size)
  generalize hAe : va_A (W_36 ct q_t q_t_readings q_t_many q_t_joined q_t_finals q_t_when q_t_mean q_t_left q_t_ends q_t_measures q_t_pointTime q_t_point q_t_pointEnd q_t_first q_t_length q_t_up q_t_down q_t_height q_t_tape q_t_index q_t_newIndex q_t_trainFrom q_t_trainTo q_t_published t_thrown t_end t_points t_pieces t_lowUp t_lowDown t_highUp t_highDown t_taped t_size t_at t_fault t_place t_clauses t_limit t_near t_shareOne t_shareOf t_window t_storm t_indexMany t_newLimit t_newNear t_newOne t_newOf t_newWindow t_newStorm t_newMany t_began t_trains t_publishings) s.heap.size = A at hD ⊢
  have hA : ∀ q : Nat, s.heap.size ≤ q → A q := fun q h => by rw [← hAe]; exact Or.inr h
  have hl := lv_entry ([.ref q_t, .int p1, .int p2]) (n := 3) (Nat.le_of_ble_eq_true rfl)
  rw [lg_entry_eq]
  generalize (lg_sl ([.ref q_t, .int p1, .int p2]) ++ List.replicate (3 - (lg_sl ([.ref q_t, .int p1, .int p2])).length) Slot.unset).toArray = ls at hl ⊢
  have hl : lv_has ls 3 [(0, .ref q_t), (1, .int p1), (2, .int p2)] := hl
  have C0 : Cx RX10 cX10_isRow 3 (some .boolean) wvX10_isRow D ct A p s m ([.ref q_t, .int p1, .int p2]).toArray meth c := ⟨hx, hb, hml, hown, hts, hr, hlocks, hE, hA⟩
  have hS : ∀ H : Heap, s.heap = H → va_S A s.heap H [] := fun H h => h ▸ va_S.rf
  generalize hH : s.heap = H at hP ⊢
  have hS := hS H hH
  unfold FX10_isRow at hF
  refine lv_aload_n hx hb dX10_isRow_0 rfl (lv_at hl 0 rfl) ?_
  refine lv_iload_n hx hb dX10_isRow_1 rfl (lv_at hl 1 rfl) ?_
  refine lv_if_lt (tgt := 18) hx hb dX10_isRow_2 (by decide) (fun c1 => ?_) (fun c1 => ?_)
  · have hF := ifT c1 hF
    refine lv_iconst (v := 1) hx hb dX10_isRow_18 (by decide) ?_
    refine lv_goto (tgt := 23) hx hb dX10_isRow_19 (by decide) ?_
    refine va_put (D := D) (ci := 10) (v := .int 1) (ty := .int) (C := RX10) (T := TX10) (N := 54) hx hb hts i_X10_isRow_X10 tyX10 tyX10_ok nmX10 hown hE.1 hP hD hS 0 rfl rfl 0 (by decide) (hts (.fieldLink RX10 114 "NeedleHouseModel" "thrown" "I") (List.mem_cons_of_mem _ (List.mem_of_getElem? (i := 45) rfl))) (fun _ h9 => h9) rfl (by decide +kernel) rfl rfl (Nat.le_of_ble_eq_true rfl) dX10_isRow_23 (fun H locs hP hD hS => ?_)
    have hP : va_P D vwCl (W_36 ct q_t q_t_readings q_t_many q_t_joined q_t_finals q_t_when q_t_mean q_t_left q_t_ends q_t_measures q_t_pointTime q_t_point q_t_pointEnd q_t_first q_t_length q_t_up q_t_down q_t_height q_t_tape q_t_index q_t_newIndex q_t_trainFrom q_t_trainTo q_t_published 1 t_end t_points t_pieces t_lowUp t_lowDown t_highUp t_highDown t_taped t_size t_at t_fault t_place t_clauses t_limit t_near t_shareOne t_shareOf t_window t_storm t_indexMany t_newLimit t_newNear t_newOne t_newOf t_newWindow t_newStorm t_newMany t_began t_trains t_publishings) H := hP
    have hD : va_D A (W_36 ct q_t q_t_readings q_t_many q_t_joined q_t_finals q_t_when q_t_mean q_t_left q_t_ends q_t_measures q_t_pointTime q_t_point q_t_pointEnd q_t_first q_t_length q_t_up q_t_down q_t_height q_t_tape q_t_index q_t_newIndex q_t_trainFrom q_t_trainTo q_t_published 1 t_end t_points t_pieces t_lowUp t_lowDown t_highUp t_highDown t_taped t_size t_at t_fault t_place t_clauses t_limit t_near t_shareOne t_shareOf t_window t_storm t_indexMany t_newLimit t_newNear t_newOne t_newOf t_newWindow t_newStorm t_newMany t_began t_trains t_publishings) := hD
    refine lv_aload_n hx hb dX10_isRow_26 rfl (lv_at hl 0 rfl) ?_
    refine va_get (D := D) (ci := 10) (v := .int 1) (C := RX10) (T := TX10) (N := 54) hx hb hts i_X10_isRow_X10 hown hE.1 hP 0 rfl rfl 0 (by decide) (hts (.fieldLink RX10 114 "NeedleHouseModel" "thrown" "I") (List.mem_cons_of_mem _ (List.mem_of_getElem? (i := 45) rfl))) (fun _ h9 => h9) rfl dX10_isRow_27 ?_
    refine lv_if_ne (tgt := 37) hx hb dX10_isRow_30 (by decide) (fun c2 => ?_) (fun c2 => ?_)
    · refine lv_iconst (v := 0) hx hb dX10_isRow_37 (by decide) ?_
      obtain ⟨rfl, rfl⟩ := in2 hF
      exact W.zret hx hb hr rfl (fun t ht hW => ⟨⟨_, (), rfl, rfl, vaP_at ht hP⟩, hS.F ht⟩) hS.2.2 dX10_isRow_38
    · exact absurd c2 (by decide)
  · have hF := ifF c1 hF
    refine lv_iload_n hx hb dX10_isRow_5 rfl (lv_at hl 1 rfl) ?_
    refine lv_iconst (v := 2) hx hb dX10_isRow_6 (by decide) ?_
    refine lv_icmp_ge (tgt := 18) hx hb dX10_isRow_7 (by decide) (fun c3 => ?_) (fun c3 => ?_)
    · have hF := ifT c3 hF
      refine lv_iconst (v := 1) hx hb dX10_isRow_18 (by decide) ?_
      refine lv_goto (tgt := 23) hx hb dX10_isRow_19 (by decide) ?_
      refine va_put (D := D) (ci := 10) (v := .int 1) (ty := .int) (C := RX10) (T := TX10) (N := 54) hx hb hts i_X10_isRow_X10 tyX10 tyX10_ok nmX10 hown hE.1 hP hD hS 0 rfl rfl 0 (by decide) (hts (.fieldLink RX10 114 "NeedleHouseModel" "thrown" "I") (List.mem_cons_of_mem _ (List.mem_of_getElem? (i := 45) rfl))) (fun _ h9 => h9) rfl (by decide +kernel) rfl rfl (Nat.le_of_ble_eq_true rfl) dX10_isRow_23 (fun H locs hP hD hS => ?_)
      have hP : va_P D vwCl (W_36 ct q_t q_t_readings q_t_many q_t_joined q_t_finals q_t_when q_t_mean q_t_left q_t_ends q_t_measures q_t_pointTime q_t_point q_t_pointEnd q_t_first q_t_length q_t_up q_t_down q_t_height q_t_tape q_t_index q_t_newIndex q_t_trainFrom q_t_trainTo q_t_published 1 t_end t_points t_pieces t_lowUp t_lowDown t_highUp t_highDown t_taped t_size t_at t_fault t_place t_clauses t_limit t_near t_shareOne t_shareOf t_window t_storm t_indexMany t_newLimit t_newNear t_newOne t_newOf t_newWindow t_newStorm t_newMany t_began t_trains t_publishings) H := hP
      have hD : va_D A (W_36 ct q_t q_t_readings q_t_many q_t_joined q_t_finals q_t_when q_t_mean q_t_left q_t_ends q_t_measures q_t_pointTime q_t_point q_t_pointEnd q_t_first q_t_length q_t_up q_t_down q_t_height q_t_tape q_t_index q_t_newIndex q_t_trainFrom q_t_trainTo q_t_published 1 t_end t_points t_pieces t_lowUp t_lowDown t_highUp t_highDown t_taped t_size t_at t_fault t_place t_clauses t_limit t_near t_shareOne t_shareOf t_window t_storm t_indexMany t_newLimit t_newNear t_newOne t_newOf t_newWindow t_newStorm t_newMany t_began t_trains t_publishings) := hD
      refine lv_aload_n hx hb dX10_isRow_26 rfl (lv_at hl 0 rfl) ?_
      refine va_get (D := D) (ci := 10) (v := .int 1) (C := RX10) (T := TX10) (N := 54) hx hb hts i_X10_isRow_X10 hown hE.1 hP 0 rfl rfl 0 (by decide) (hts (.fieldLink RX10 114 "NeedleHouseModel" "thrown" "I") (List.mem_cons_of_mem _ (List.mem_of_getElem? (i := 45) rfl))) (fun _ h9 => h9) rfl dX10_isRow_27 ?_
      refine lv_if_ne (tgt := 37) hx hb dX10_isRow_30 (by decide) (fun c4 => ?_) (fun c4 => ?_)
      · refine lv_iconst (v := 0) hx hb dX10_isRow_37 (by decide) ?_
        obtain ⟨rfl, rfl⟩ := in2 hF
        exact W.zret hx hb hr rfl (fun t ht hW => ⟨⟨_, (), rfl, rfl, vaP_at ht hP⟩, hS.F ht⟩) hS.2.2 dX10_isRow_38
      · exact absurd c4 (by decide)
    · have hF := ifF c3 hF
      refine lv_aload_n hx hb dX10_isRow_10 rfl (lv_at hl 0 rfl) ?_
      refine lv_iload_n hx hb dX10_isRow_11 rfl (lv_at hl 2 rfl) ?_
      obtain ⟨r5, h6, hF⟩ := ob1_ex hF
      refine xiR (va_runV (As := [.int p2]) (rest := [.ref q_t]) ⟨hx, hb, hml, hown, hts⟩ (met_X10_isTrace l D ct q_t q_t_readings q_t_many q_t_joined q_t_finals q_t_when q_t_mean q_t_left q_t_ends q_t_measures q_t_pointTime q_t_point q_t_pointEnd q_t_first q_t_length q_t_up q_t_down q_t_height q_t_tape q_t_index q_t_newIndex q_t_trainFrom q_t_trainTo q_t_published H.size t_thrown t_end t_points t_pieces t_lowUp t_lowDown t_highUp t_highDown t_taped t_size t_at t_fault t_place t_clauses t_limit t_near t_shareOne t_shareOf t_window t_storm t_indexMany t_newLimit t_newNear t_newOne t_newOf t_newWindow t_newStorm t_newMany t_began t_trains t_publishings p2 n r5 h6) (cwV 1 hts (gqV CW10_good (List.mem_of_getElem? (i := 49) rfl) (List.mem_of_getElem? (i := 50) rfl) (List.mem_of_getElem? (i := 51) rfl) (List.mem_of_getElem? (i := 42) rfl) (gself CW10_good (List.mem_of_getElem? (i := 47) rfl))) rfl rfl rfl (by decide +kernel) ⟨Nat.le_of_ble_eq_true rfl, Nat.le_of_ble_eq_true rfl⟩) ⟨blind_, va_recv hE.1 hP (ci := 10) (q0 := 0) rfl rfl, mkpre_ hE hP hD⟩ rfl rfl hl.1 rfl (lv_room (Nat.le_of_ble_eq_true rfl)) dX10_isRow_12 ⟨Nat.le_of_ble_eq_true rfl, Nat.le_of_ble_eq_true rfl⟩) hP hD hS hA [0] rfl (fun H locs hP hD hS => ?_)
      refine lv_if_ne (tgt := 22) hx hb dX10_isRow_15 (by decide) (fun c7 => ?_) (fun c7 => ?_)
      · have hF := ifF c7 hF
        refine lv_iconst (v := 0) hx hb dX10_isRow_22 (by decide) ?_
        refine va_put (D := D) (ci := 10) (v := .int 0) (ty := .int) (C := RX10) (T := TX10) (N := 54) hx hb hts i_X10_isRow_X10 tyX10 tyX10_ok nmX10 hown hE.1 hP hD hS 0 rfl rfl 0 (by decide) (hts (.fieldLink RX10 114 "NeedleHouseModel" "thrown" "I") (List.mem_cons_of_mem _ (List.mem_of_getElem? (i := 45) rfl))) (fun _ h9 => h9) rfl (by decide +kernel) rfl rfl (Nat.le_of_ble_eq_true rfl) dX10_isRow_23 (fun H locs hP hD hS => ?_)
        have hP : va_P D vwCl (W_36 ct q_t q_t_readings q_t_many q_t_joined q_t_finals q_t_when q_t_mean q_t_left q_t_ends q_t_measures q_t_pointTime q_t_point q_t_pointEnd q_t_first q_t_length q_t_up q_t_down q_t_height q_t_tape q_t_index q_t_newIndex q_t_trainFrom q_t_trainTo q_t_published 0 t_end t_points t_pieces t_lowUp t_lowDown t_highUp t_highDown t_taped t_size t_at t_fault t_place t_clauses t_limit t_near t_shareOne t_shareOf t_window t_storm t_indexMany t_newLimit t_newNear t_newOne t_newOf t_newWindow t_newStorm t_newMany t_began t_trains t_publishings) H := hP
        have hD : va_D A (W_36 ct q_t q_t_readings q_t_many q_t_joined q_t_finals q_t_when q_t_mean q_t_left q_t_ends q_t_measures q_t_pointTime q_t_point q_t_pointEnd q_t_first q_t_length q_t_up q_t_down q_t_height q_t_tape q_t_index q_t_newIndex q_t_trainFrom q_t_trainTo q_t_published 0 t_end t_points t_pieces t_lowUp t_lowDown t_highUp t_highDown t_taped t_size t_at t_fault t_place t_clauses t_limit t_near t_shareOne t_shareOf t_window t_storm t_indexMany t_newLimit t_newNear t_newOne t_newOf t_newWindow t_newStorm t_newMany t_began t_trains t_publishings) := hD
        refine lv_aload_n hx hb dX10_isRow_26 rfl (lv_at hl 0 rfl) ?_
        refine va_get (D := D) (ci := 10) (v := .int 0) (C := RX10) (T := TX10) (N := 54) hx hb hts i_X10_isRow_X10 hown hE.1 hP 0 rfl rfl 0 (by decide) (hts (.fieldLink RX10 114 "NeedleHouseModel" "thrown" "I") (List.mem_cons_of_mem _ (List.mem_of_getElem? (i := 45) rfl))) (fun _ h9 => h9) rfl dX10_isRow_27 ?_
        refine lv_if_ne (tgt := 37) hx hb dX10_isRow_30 (by decide) (fun c8 => ?_) (fun c8 => ?_)
        · exact absurd c8 (by decide)
        · refine lv_iconst (v := 1) hx hb dX10_isRow_33 (by decide) ?_
          refine lv_goto (tgt := 38) hx hb dX10_isRow_34 (by decide) ?_
          obtain ⟨rfl, rfl⟩ := in2 hF
          exact W.zret hx hb hr rfl (fun t ht hW => ⟨⟨_, (), rfl, rfl, vaP_at ht hP⟩, hS.F ht⟩) hS.2.2 dX10_isRow_38
      · have hF := ifT c7 hF
        refine lv_iconst (v := 1) hx hb dX10_isRow_18 (by decide) ?_
        refine lv_goto (tgt := 23) hx hb dX10_isRow_19 (by decide) ?_
        refine va_put (D := D) (ci := 10) (v := .int 1) (ty := .int) (C := RX10) (T := TX10) (N := 54) hx hb hts i_X10_isRow_X10 tyX10 tyX10_ok nmX10 hown hE.1 hP hD hS 0 rfl rfl 0 (by decide) (hts (.fieldLink RX10 114 "NeedleHouseModel" "thrown" "I") (List.mem_cons_of_mem _ (List.mem_of_getElem? (i := 45) rfl))) (fun _ h9 => h9) rfl (by decide +kernel) rfl rfl (Nat.le_of_ble_eq_true rfl) dX10_isRow_23 (fun H locs hP hD hS => ?_)
        have hP : va_P D vwCl (W_36 ct q_t q_t_readings q_t_many q_t_joined q_t_finals q_t_when q_t_mean q_t_left q_t_ends q_t_measures q_t_pointTime q_t_point q_t_pointEnd q_t_first q_t_length q_t_up q_t_down q_t_height q_t_tape q_t_index q_t_newIndex q_t_trainFrom q_t_trainTo q_t_published 1 t_end t_points t_pieces t_lowUp t_lowDown t_highUp t_highDown t_taped t_size t_at t_fault t_place t_clauses t_limit t_near t_shareOne t_shareOf t_window t_storm t_indexMany t_newLimit t_newNear t_newOne t_newOf t_newWindow t_newStorm t_newMany t_began t_trains t_publishings) H := hP
        have hD : va_D A (W_36 ct q_t q_t_readings q_t_many q_t_joined q_t_finals q_t_when q_t_mean q_t_left q_t_ends q_t_measures q_t_pointTime q_t_point q_t_pointEnd q_t_first q_t_length q_t_up q_t_down q_t_height q_t_tape q_t_index q_t_newIndex q_t_trainFrom q_t_trainTo q_t_published 1 t_end t_points t_pieces t_lowUp t_lowDown t_highUp t_highDown t_taped t_size t_at t_fault t_place t_clauses t_limit t_near t_shareOne t_shareOf t_window t_storm t_indexMany t_newLimit t_newNear t_newOne t_newOf t_newWindow t_newStorm t_newMany t_began t_trains t_publishings) := hD
        refine lv_aload_n hx hb dX10_isRow_26 rfl (lv_at hl 0 rfl) ?_
        refine va_get (D := D) (ci := 10) (v := .int 1) (C := RX10) (T := TX10) (N := 54) hx hb hts i_X10_isRow_X10 hown hE.1 hP 0 rfl rfl 0 (by decide) (hts (.fieldLink RX10 114 "NeedleHouseModel" "thrown" "I") (List.mem_cons_of_mem _ (List.mem_of_getElem? (i := 45) rfl))) (fun _ h9 => h9) rfl dX10_isRow_27 ?_
        refine lv_if_ne (tgt := 37) hx hb dX10_isRow_30 (by decide) (fun c9 => ?_) (fun c9 => ?_)
        · refine lv_iconst (v := 0) hx hb dX10_isRow_37 (by decide) ?_
          obtain ⟨rfl, rfl⟩ := in2 hF
          exact W.zret hx hb hr rfl (fun t ht hW => ⟨⟨_, (), rfl, rfl, vaP_at ht hP⟩, hS.F ht⟩) hS.2.2 dX10_isRow_38
        · exact absurd c9 (by decide)
/-! NeedleHouseModel.rowOf(II)I -/
set_option maxHeartbeats 4000000 in
set_option maxRecDepth 100000 in
theorem met_X10_rowOf (l : Launch) (D : va_G) (ct : Nat → ClassId) (sz : Nat) (p1 : Int32) (p2 : Int32) (n : Nat) (o_r : Int32) (hF : FX10_rowOf n p1 p2 = some (o_r)) : Met l yX10_rowOf wvX10_rowOf ({ frames := 0, cells := 0, slots := 0, locals := 0 } : Room) (va_Pc [.int p1, .int p2] (pre_ D ct sz [])) (va_Qi (fun r (_ : Unit) => r = o_r) (fun _ t => va_P D vwCl [] t.heap) (va_A [] sz)) 0 0 (va_A [] sz) := by
  refine Met.ofW (cc := cX10_rowOf) (maxL := 2) (ret := (some .int)) (by decide) rfl ?_
  intro p e s m args below meth c s₁ B hml hv
  obtain ⟨rfl, hsz, hP, hE, hD0⟩ := hv
  have hx := B.exec
  have hb := B.bytes
  have hr := B.returns
  have hts := atoms_spec (ws := wvX10_rowOf) B.pre
  have hown : s.vm.findClass RX10 = some m.cls := findClass_of_methodNamed B.named
  have hlocks := B.notSynchronized
  subst hsz
  have hD := hD0.self (sz := s.heap.size)
  generalize hAe : va_A [] s.heap.size = A at hD ⊢
  have hA : ∀ q : Nat, s.heap.size ≤ q → A q := fun q h => by rw [← hAe]; exact Or.inr h
  have hl := lv_entry ([.int p1, .int p2]) (n := 2) (Nat.le_of_ble_eq_true rfl)
  rw [lg_entry_eq]
  generalize (lg_sl ([.int p1, .int p2]) ++ List.replicate (2 - (lg_sl ([.int p1, .int p2])).length) Slot.unset).toArray = ls at hl ⊢
  have hl : lv_has ls 2 [(0, .int p1), (1, .int p2)] := hl
  have C0 : Cx RX10 cX10_rowOf 2 (some .int) wvX10_rowOf D ct A p s m ([.int p1, .int p2]).toArray meth c := ⟨hx, hb, hml, hown, hts, hr, hlocks, hE, hA⟩
  have hS : ∀ H : Heap, s.heap = H → va_S A s.heap H [] := fun H h => h ▸ va_S.rf
  generalize hH : s.heap = H at hP ⊢
  have hS := hS H hH
  unfold FX10_rowOf at hF
  refine lv_iconst (v := 3) hx hb dX10_rowOf_0 (by decide) ?_
  refine lv_iload_n hx hb dX10_rowOf_1 rfl (lv_at hl 0 rfl) ?_
  refine lv_imul hx hb dX10_rowOf_2 ?_
  refine lv_iload_n hx hb dX10_rowOf_3 rfl (lv_at hl 1 rfl) ?_
  refine lv_iadd hx hb dX10_rowOf_4 ?_
  obtain rfl := Option.some.inj hF
  exact W.iret hx hb hr (fun t ht hW => ⟨⟨_, (), rfl, rfl, vaP_at ht hP⟩, hS.F ht⟩) hS.2.2 dX10_rowOf_5
def W_37 (ct : Nat → ClassId) (a0 a1 a2 a3 a4 a5 a6 a7 a8 a9 a10 a11 a12 a13 a14 a15 a16 a17 a18 a19 a20 a21 a22 a23 : Nat) (v0 : Int32) (v1 : Int32) (v2 : Int32) (v3 : Int32) (v4 : Int64) (v5 : Int64) (v6 : Int64) (v7 : Int64) (v8 : Int32) (v9 : Int32) (v10 : Int32) (v11 : Int32) (v12 : Int32) (v13 : Int32) (v14 : Int32) (v15 : Int32) (v16 : Int32) (v17 : Int32) (v18 : Int32) (v19 : Int32) (v20 : Int32) (v21 : Int32) (v22 : Int32) (v23 : Int32) (v24 : Int32) (v25 : Int32) (v26 : Int32) (v27 : Int32) (v28 : Int32) (v29 : Int32) (v30 : Int32) (v31 : Nat → Int32) (v32 : Nat → Int32) : va_W := [(a0, .inr (10, [.int v0, .ref a1, .ref a2, .ref a3, .ref a4, .ref a5, .ref a6, .ref a7, .ref a8, .ref a9, .int v1, .ref a10, .ref a11, .ref a12, .int v2, .ref a13, .ref a14, .ref a15, .ref a16, .ref a17, .int v3, .long v4, .long v5, .long v6, .long v7, .ref a18, .int v8, .int v9, .int v10, .int v11, .int v12, .int v13, .int v14, .int v15, .int v16, .int v17, .int v18, .int v19, .int v20, .ref a19, .int v21, .int v22, .int v23, .int v24, .int v25, .int v26, .int v27, .ref a20, .int v28, .ref a21, .ref a22, .int v29, .ref a23, .int v30])), (a1, .inl (ct 0, 1800, .inl v31)), (a2, .inl (ct 0, 6, .inl v32))]
/-! NeedleHouseModel.read(III)I -/
theorem i_X10_read_X10 : ∀ w ∈ wsX100, w ∈ wvX10_read := fun w h => List.mem_cons_of_mem _ (iCW10_X10 w h)
set_option maxHeartbeats 4000000 in
set_option maxRecDepth 100000 in
theorem jX10_read_29 {p : Program} {l : Launch} {e : Env} {s : State} {m : MethodId} {args : Array Value} {below : List Frame} {meth : Method} {c : Code} {D : va_G} {ct : Nat → ClassId} {A : Nat → Prop} {q_t q_t_readings q_t_many q_t_joined q_t_finals q_t_when q_t_mean q_t_left q_t_ends q_t_measures q_t_pointTime q_t_point q_t_pointEnd q_t_first q_t_length q_t_up q_t_down q_t_height q_t_tape q_t_index q_t_newIndex q_t_trainFrom q_t_trainTo q_t_published : Nat} {t_end : Int32} {t_points : Int32} {t_pieces : Int32} {t_lowUp : Int64} {t_lowDown : Int64} {t_highUp : Int64} {t_highDown : Int64} {t_taped : Int32} {t_size : Int32} {t_at : Int32} {t_fault : Int32} {t_place : Int32} {t_clauses : Int32} {t_limit : Int32} {t_near : Int32} {t_shareOne : Int32} {t_shareOf : Int32} {t_window : Int32} {t_storm : Int32} {t_indexMany : Int32} {t_newLimit : Int32} {t_newNear : Int32} {t_newOne : Int32} {t_newOf : Int32} {t_newWindow : Int32} {t_newStorm : Int32} {t_newMany : Int32} {t_began : Int32} {t_trains : Int32} {t_publishings : Int32} {o_r : Int32} {o_t_thrown : Int32} {o_t_readings : Nat → Int32} {o_t_many : Nat → Int32} (C0 : Cx RX10 cX10_read 5 (some .int) wvX10_read D ct A p s m args meth c) (n : Nat) (t_thrown : Int32) (t_readings : Nat → Int32) (t_many : Nat → Int32) (x_1 : Int32) (x_2 : Int32) (x_3 : Int32) (s_0 : Int32) (H : Heap) (locs : List Loc) (ls : Array Slot) : JX10_read_29 n t_thrown t_readings t_many x_1 x_2 x_3 s_0 = some (o_r, o_t_thrown, o_t_readings, o_t_many) → va_P D vwCl (W_37 ct q_t q_t_readings q_t_many q_t_joined q_t_finals q_t_when q_t_mean q_t_left q_t_ends q_t_measures q_t_pointTime q_t_point q_t_pointEnd q_t_first q_t_length q_t_up q_t_down q_t_height q_t_tape q_t_index q_t_newIndex q_t_trainFrom q_t_trainTo q_t_published t_thrown t_end t_points t_pieces t_lowUp t_lowDown t_highUp t_highDown t_taped t_size t_at t_fault t_place t_clauses t_limit t_near t_shareOne t_shareOf t_window t_storm t_indexMany t_newLimit t_newNear t_newOne t_newOf t_newWindow t_newStorm t_newMany t_began t_trains t_publishings t_readings t_many) H → va_D A (W_37 ct q_t q_t_readings q_t_many q_t_joined q_t_finals q_t_when q_t_mean q_t_left q_t_ends q_t_measures q_t_pointTime q_t_point q_t_pointEnd q_t_first q_t_length q_t_up q_t_down q_t_height q_t_tape q_t_index q_t_newIndex q_t_trainFrom q_t_trainTo q_t_published t_thrown t_end t_points t_pieces t_lowUp t_lowDown t_highUp t_highDown t_taped t_size t_at t_fault t_place t_clauses t_limit t_near t_shareOne t_shareOf t_window t_storm t_indexMany t_newLimit t_newNear t_newOne t_newOf t_newWindow t_newStorm t_newMany t_began t_trains t_publishings t_readings t_many) → va_S A s.heap H locs → lv_has ls 5 [(0, .ref q_t), (1, .int x_1), (2, .int x_2), (3, .int x_3)] → W p l e ({ frames := 2, cells := 0, slots := 0, locals := 43 } : Room) s m args below meth c H locs 0 0 (MQ below (va_Qi (fun r (_ : Unit) => r = o_r) (fun _ t => va_P D vwCl (W_37 ct q_t q_t_readings q_t_many q_t_joined q_t_finals q_t_when q_t_mean q_t_left q_t_ends q_t_measures q_t_pointTime q_t_point q_t_pointEnd q_t_first q_t_length q_t_up q_t_down q_t_height q_t_tape q_t_index q_t_newIndex q_t_trainFrom q_t_trainTo q_t_published o_t_thrown t_end t_points t_pieces t_lowUp t_lowDown t_highUp t_highDown t_taped t_size t_at t_fault t_place t_clauses t_limit t_near t_shareOne t_shareOf t_window t_storm t_indexMany t_newLimit t_newNear t_newOne t_newOf t_newWindow t_newStorm t_newMany t_began t_trains t_publishings o_t_readings o_t_many) t.heap) A) args s 0 0 A) (F0 m 29 ls [.int s_0, .ref q_t]) := by
  intro hF hP hD hS hl
  obtain ⟨hx, hb, hml, hown, hts, hr, hlocks, hE, hA⟩ := id C0
  unfold JX10_read_29 at hF
  refine lv_iconst (v := 2) hx hb dX10_read_29 (by decide) ?_
  obtain ⟨r7, v8, h9, hF⟩ := ob2_ex hF
  refine xiM (ws1 := (W_37 ct q_t q_t_readings q_t_many q_t_joined q_t_finals q_t_when q_t_mean q_t_left q_t_ends q_t_measures q_t_pointTime q_t_point q_t_pointEnd q_t_first q_t_length q_t_up q_t_down q_t_height q_t_tape q_t_index q_t_newIndex q_t_trainFrom q_t_trainTo q_t_published v8 t_end t_points t_pieces t_lowUp t_lowDown t_highUp t_highDown t_taped t_size t_at t_fault t_place t_clauses t_limit t_near t_shareOne t_shareOf t_window t_storm t_indexMany t_newLimit t_newNear t_newOne t_newOf t_newWindow t_newStorm t_newMany t_began t_trains t_publishings t_readings t_many)) (va_runV (As := [.int s_0, .int 2]) (rest := []) ⟨hx, hb, hml, hown, hts⟩ (met_X10_bad l D ct q_t q_t_readings q_t_many q_t_joined q_t_finals q_t_when q_t_mean q_t_left q_t_ends q_t_measures q_t_pointTime q_t_point q_t_pointEnd q_t_first q_t_length q_t_up q_t_down q_t_height q_t_tape q_t_index q_t_newIndex q_t_trainFrom q_t_trainTo q_t_published H.size t_thrown t_end t_points t_pieces t_lowUp t_lowDown t_highUp t_highDown t_taped t_size t_at t_fault t_place t_clauses t_limit t_near t_shareOne t_shareOf t_window t_storm t_indexMany t_newLimit t_newNear t_newOne t_newOf t_newWindow t_newStorm t_newMany t_began t_trains t_publishings s_0 2 n r7 v8 h9) (cwV 2 hts (gqV CW10_good (List.mem_of_getElem? (i := 57) rfl) (List.mem_of_getElem? (i := 58) rfl) (List.mem_of_getElem? (i := 59) rfl) (List.mem_of_getElem? (i := 42) rfl) (gself CW10_good (List.mem_of_getElem? (i := 46) rfl))) rfl rfl rfl (by decide +kernel) ⟨Nat.le_of_ble_eq_true rfl, Nat.le_of_ble_eq_true rfl⟩) ⟨blind_, va_recv hE.1 hP (ci := 10) (q0 := 0) rfl rfl, mkpre_ hE (hP.sub [0] rfl) (hD.sub [0] (by decide) rfl)⟩ rfl rfl hl.1 rfl (lv_room (Nat.le_of_ble_eq_true rfl)) dX10_read_30 ⟨Nat.le_of_ble_eq_true rfl, Nat.le_of_ble_eq_true rfl⟩) hP hD hS hA [0] [1, 2] 3 rfl rfl rfl rfl (by decide) rfl (fun H locs hP hD hS => ?_)
  refine lv_if_eq (tgt := 38) hx hb dX10_read_33 (by decide) (fun c10 => ?_) (fun c10 => ?_)
  · have hF := ifT c10 hF
    refine lv_iload_n hx hb dX10_read_38 rfl (lv_at hl 1 rfl) ?_
    refine lv_iload_n hx hb dX10_read_39 rfl (lv_at hl 2 rfl) ?_
    obtain ⟨r11, h12, hF⟩ := ob1_ex hF
    refine xiR (va_runS (As := [.int x_1, .int x_2]) (rest := []) ⟨hx, hb, hml, hown, hts⟩ (met_X10_rowOf l D ct H.size x_1 x_2 n r11 h12) (va_cwS 2 hts (gqS CW10_good (List.mem_of_getElem? (i := 60) rfl) (List.mem_of_getElem? (i := 61) rfl) (List.mem_of_getElem? (i := 42) rfl) (gself CW10_good (List.mem_of_getElem? (i := 52) rfl))) rfl rfl rfl (by decide +kernel) ⟨Nat.le_of_ble_eq_true rfl, Nat.le_of_ble_eq_true rfl⟩) ⟨blind_, mkpre_ hE (hP.sub [] rfl) (hD.sub [] (by decide) rfl)⟩ rfl rfl hl.1 rfl (lv_room (Nat.le_of_ble_eq_true rfl)) dX10_read_40 ⟨Nat.le_of_ble_eq_true rfl, Nat.le_of_ble_eq_true rfl⟩) hP hD hS hA [] rfl (fun H locs hP hD hS => ?_)
    refine lv_istore (lv' := [(4, .int r11), (0, .ref q_t), (1, .int x_1), (2, .int x_2), (3, .int x_3)]) hx hb dX10_read_43 hl (by decide) rfl (fun ls hl => ?_)
    refine lv_aload_n hx hb dX10_read_45 rfl (lv_at hl 1 rfl) ?_
    refine va_get (D := D) (ci := 10) (v := .ref q_t_many) (C := RX10) (T := TX10) (N := 54) hx hb hts i_X10_read_X10 hown hE.1 hP 0 rfl rfl 2 (by decide) (hts (.fieldLink RX10 13 "NeedleHouseModel" "many" "[I") (List.mem_cons_of_mem _ (List.mem_of_getElem? (i := 6) rfl))) (fun _ h9 => h9) rfl dX10_read_46 ?_
    refine lv_iload hx hb dX10_read_49 (lv_at hl 0 rfl) ?_
    obtain ⟨h13, hF⟩ := gd_ex hF
    refine va_iald hx hb hE.1 hP 2 0 rfl rfl h13 dX10_read_51 ?_
    refine lv_sipush (v := 300) hx hb dX10_read_52 (by decide) ?_
    refine lv_icmp_ne (tgt := 60) hx hb dX10_read_55 (by decide) (fun c14 => ?_) (fun c14 => ?_)
    · have hF := ifF c14 hF
      refine lv_aload_n hx hb dX10_read_60 rfl (lv_at hl 1 rfl) ?_
      refine va_get (D := D) (ci := 10) (v := .ref q_t_readings) (C := RX10) (T := TX10) (N := 54) hx hb hts i_X10_read_X10 hown hE.1 hP 0 rfl rfl 1 (by decide) (hts (.fieldLink RX10 9 "NeedleHouseModel" "readings" "[I") (List.mem_cons_of_mem _ (List.mem_of_getElem? (i := 5) rfl))) (fun _ h9 => h9) rfl dX10_read_61 ?_
      refine lv_sipush (v := 300) hx hb dX10_read_64 (by decide) ?_
      refine lv_iload hx hb dX10_read_67 (lv_at hl 0 rfl) ?_
      refine lv_imul hx hb dX10_read_69 ?_
      refine lv_aload_n hx hb dX10_read_70 rfl (lv_at hl 1 rfl) ?_
      refine va_get (D := D) (ci := 10) (v := .ref q_t_many) (C := RX10) (T := TX10) (N := 54) hx hb hts i_X10_read_X10 hown hE.1 hP 0 rfl rfl 2 (by decide) (hts (.fieldLink RX10 13 "NeedleHouseModel" "many" "[I") (List.mem_cons_of_mem _ (List.mem_of_getElem? (i := 6) rfl))) (fun _ h9 => h9) rfl dX10_read_71 ?_
      refine lv_iload hx hb dX10_read_74 (lv_at hl 0 rfl) ?_
      obtain ⟨h15, hF⟩ := gd_ex hF
      refine va_iald hx hb hE.1 hP 2 0 rfl rfl h15 dX10_read_76 ?_
      refine lv_iadd hx hb dX10_read_77 ?_
      refine lv_iload_n hx hb dX10_read_78 rfl (lv_at hl 4 rfl) ?_
      obtain ⟨h16, hF⟩ := gd_ex hF
      obtain ⟨f17, ef17, hF⟩ := bn_ex hF
      refine va_iast hx hb hE.1 hP hD hS 1 0 rfl rfl h16 dX10_read_79 (fun H locs hP hD hS => ?_)
      have hP : va_P D vwCl (W_37 ct q_t q_t_readings q_t_many q_t_joined q_t_finals q_t_when q_t_mean q_t_left q_t_ends q_t_measures q_t_pointTime q_t_point q_t_pointEnd q_t_first q_t_length q_t_up q_t_down q_t_height q_t_tape q_t_index q_t_newIndex q_t_trainFrom q_t_trainTo q_t_published v8 t_end t_points t_pieces t_lowUp t_lowDown t_highUp t_highDown t_taped t_size t_at t_fault t_place t_clauses t_limit t_near t_shareOne t_shareOf t_window t_storm t_indexMany t_newLimit t_newNear t_newOne t_newOf t_newWindow t_newStorm t_newMany t_began t_trains t_publishings f17 t_many) H := by rw [ef17]; exact hP
      have hD : va_D A (W_37 ct q_t q_t_readings q_t_many q_t_joined q_t_finals q_t_when q_t_mean q_t_left q_t_ends q_t_measures q_t_pointTime q_t_point q_t_pointEnd q_t_first q_t_length q_t_up q_t_down q_t_height q_t_tape q_t_index q_t_newIndex q_t_trainFrom q_t_trainTo q_t_published v8 t_end t_points t_pieces t_lowUp t_lowDown t_highUp t_highDown t_taped t_size t_at t_fault t_place t_clauses t_limit t_near t_shareOne t_shareOf t_window t_storm t_indexMany t_newLimit t_newNear t_newOne t_newOf t_newWindow t_newStorm t_newMany t_began t_trains t_publishings f17 t_many) := by rw [ef17]; exact hD
      refine lv_aload_n hx hb dX10_read_80 rfl (lv_at hl 1 rfl) ?_
      refine va_get (D := D) (ci := 10) (v := .ref q_t_many) (C := RX10) (T := TX10) (N := 54) hx hb hts i_X10_read_X10 hown hE.1 hP 0 rfl rfl 2 (by decide) (hts (.fieldLink RX10 13 "NeedleHouseModel" "many" "[I") (List.mem_cons_of_mem _ (List.mem_of_getElem? (i := 6) rfl))) (fun _ h9 => h9) rfl dX10_read_81 ?_
      refine lv_iload hx hb dX10_read_84 (lv_at hl 0 rfl) ?_
      refine lv_dup2_11 hx hb dX10_read_86 rfl rfl ?_
      obtain ⟨h18, hF⟩ := gd_ex hF
      refine va_iald hx hb hE.1 hP 2 0 rfl rfl h18 dX10_read_87 ?_
      refine lv_iconst (v := 1) hx hb dX10_read_88 (by decide) ?_
      refine lv_iadd hx hb dX10_read_89 ?_
      obtain ⟨h19, hF⟩ := gd_ex hF
      obtain ⟨f20, ef20, hF⟩ := bn_ex hF
      refine va_iast hx hb hE.1 hP hD hS 2 0 rfl rfl h19 dX10_read_90 (fun H locs hP hD hS => ?_)
      have hP : va_P D vwCl (W_37 ct q_t q_t_readings q_t_many q_t_joined q_t_finals q_t_when q_t_mean q_t_left q_t_ends q_t_measures q_t_pointTime q_t_point q_t_pointEnd q_t_first q_t_length q_t_up q_t_down q_t_height q_t_tape q_t_index q_t_newIndex q_t_trainFrom q_t_trainTo q_t_published v8 t_end t_points t_pieces t_lowUp t_lowDown t_highUp t_highDown t_taped t_size t_at t_fault t_place t_clauses t_limit t_near t_shareOne t_shareOf t_window t_storm t_indexMany t_newLimit t_newNear t_newOne t_newOf t_newWindow t_newStorm t_newMany t_began t_trains t_publishings f17 f20) H := by rw [ef20]; exact hP
      have hD : va_D A (W_37 ct q_t q_t_readings q_t_many q_t_joined q_t_finals q_t_when q_t_mean q_t_left q_t_ends q_t_measures q_t_pointTime q_t_point q_t_pointEnd q_t_first q_t_length q_t_up q_t_down q_t_height q_t_tape q_t_index q_t_newIndex q_t_trainFrom q_t_trainTo q_t_published v8 t_end t_points t_pieces t_lowUp t_lowDown t_highUp t_highDown t_taped t_size t_at t_fault t_place t_clauses t_limit t_near t_shareOne t_shareOf t_window t_storm t_indexMany t_newLimit t_newNear t_newOne t_newOf t_newWindow t_newStorm t_newMany t_began t_trains t_publishings f17 f20) := by rw [ef20]; exact hD
      refine lv_aload_n hx hb dX10_read_91 rfl (lv_at hl 1 rfl) ?_
      refine va_get (D := D) (ci := 10) (v := .ref q_t_many) (C := RX10) (T := TX10) (N := 54) hx hb hts i_X10_read_X10 hown hE.1 hP 0 rfl rfl 2 (by decide) (hts (.fieldLink RX10 13 "NeedleHouseModel" "many" "[I") (List.mem_cons_of_mem _ (List.mem_of_getElem? (i := 6) rfl))) (fun _ h9 => h9) rfl dX10_read_92 ?_
      refine lv_iload hx hb dX10_read_95 (lv_at hl 0 rfl) ?_
      obtain ⟨h21, hF⟩ := gd_ex hF
      refine va_iald hx hb hE.1 hP 2 0 rfl rfl h21 dX10_read_97 ?_
      obtain ⟨rfl, rfl, rfl, rfl⟩ := in4 hF
      exact W.iret hx hb hr (fun t ht hW => ⟨⟨_, (), rfl, rfl, vaP_at ht hP⟩, hS.F ht⟩) hS.2.2 dX10_read_98
    · have hF := ifT c14 hF
      refine lv_iconst (v := (-1)) hx hb dX10_read_58 (by decide) ?_
      obtain ⟨rfl, rfl, rfl, rfl⟩ := in4 hF
      exact W.iret hx hb hr (fun t ht hW => ⟨⟨_, (), rfl, rfl, vaP_at ht hP⟩, hS.F ht⟩) hS.2.2 dX10_read_59
  · have hF := ifF c10 hF
    refine lv_iconst (v := 0) hx hb dX10_read_36 (by decide) ?_
    obtain ⟨rfl, rfl, rfl, rfl⟩ := in4 hF
    exact W.iret hx hb hr (fun t ht hW => ⟨⟨_, (), rfl, rfl, vaP_at ht hP⟩, hS.F ht⟩) hS.2.2 dX10_read_37
set_option maxHeartbeats 4000000 in
set_option maxRecDepth 100000 in
theorem jX10_read_24 {p : Program} {l : Launch} {e : Env} {s : State} {m : MethodId} {args : Array Value} {below : List Frame} {meth : Method} {c : Code} {D : va_G} {ct : Nat → ClassId} {A : Nat → Prop} {q_t q_t_readings q_t_many q_t_joined q_t_finals q_t_when q_t_mean q_t_left q_t_ends q_t_measures q_t_pointTime q_t_point q_t_pointEnd q_t_first q_t_length q_t_up q_t_down q_t_height q_t_tape q_t_index q_t_newIndex q_t_trainFrom q_t_trainTo q_t_published : Nat} {t_end : Int32} {t_points : Int32} {t_pieces : Int32} {t_lowUp : Int64} {t_lowDown : Int64} {t_highUp : Int64} {t_highDown : Int64} {t_taped : Int32} {t_size : Int32} {t_at : Int32} {t_fault : Int32} {t_place : Int32} {t_clauses : Int32} {t_limit : Int32} {t_near : Int32} {t_shareOne : Int32} {t_shareOf : Int32} {t_window : Int32} {t_storm : Int32} {t_indexMany : Int32} {t_newLimit : Int32} {t_newNear : Int32} {t_newOne : Int32} {t_newOf : Int32} {t_newWindow : Int32} {t_newStorm : Int32} {t_newMany : Int32} {t_began : Int32} {t_trains : Int32} {t_publishings : Int32} {o_r : Int32} {o_t_thrown : Int32} {o_t_readings : Nat → Int32} {o_t_many : Nat → Int32} (C0 : Cx RX10 cX10_read 5 (some .int) wvX10_read D ct A p s m args meth c) (n : Nat) (t_thrown : Int32) (t_readings : Nat → Int32) (t_many : Nat → Int32) (x_1 : Int32) (x_2 : Int32) (x_3 : Int32) (H : Heap) (locs : List Loc) (ls : Array Slot) : JX10_read_24 n t_thrown t_readings t_many x_1 x_2 x_3 = some (o_r, o_t_thrown, o_t_readings, o_t_many) → va_P D vwCl (W_37 ct q_t q_t_readings q_t_many q_t_joined q_t_finals q_t_when q_t_mean q_t_left q_t_ends q_t_measures q_t_pointTime q_t_point q_t_pointEnd q_t_first q_t_length q_t_up q_t_down q_t_height q_t_tape q_t_index q_t_newIndex q_t_trainFrom q_t_trainTo q_t_published t_thrown t_end t_points t_pieces t_lowUp t_lowDown t_highUp t_highDown t_taped t_size t_at t_fault t_place t_clauses t_limit t_near t_shareOne t_shareOf t_window t_storm t_indexMany t_newLimit t_newNear t_newOne t_newOf t_newWindow t_newStorm t_newMany t_began t_trains t_publishings t_readings t_many) H → va_D A (W_37 ct q_t q_t_readings q_t_many q_t_joined q_t_finals q_t_when q_t_mean q_t_left q_t_ends q_t_measures q_t_pointTime q_t_point q_t_pointEnd q_t_first q_t_length q_t_up q_t_down q_t_height q_t_tape q_t_index q_t_newIndex q_t_trainFrom q_t_trainTo q_t_published t_thrown t_end t_points t_pieces t_lowUp t_lowDown t_highUp t_highDown t_taped t_size t_at t_fault t_place t_clauses t_limit t_near t_shareOne t_shareOf t_window t_storm t_indexMany t_newLimit t_newNear t_newOne t_newOf t_newWindow t_newStorm t_newMany t_began t_trains t_publishings t_readings t_many) → va_S A s.heap H locs → lv_has ls 5 [(0, .ref q_t), (1, .int x_1), (2, .int x_2), (3, .int x_3)] → W p l e ({ frames := 2, cells := 0, slots := 0, locals := 43 } : Room) s m args below meth c H locs 0 0 (MQ below (va_Qi (fun r (_ : Unit) => r = o_r) (fun _ t => va_P D vwCl (W_37 ct q_t q_t_readings q_t_many q_t_joined q_t_finals q_t_when q_t_mean q_t_left q_t_ends q_t_measures q_t_pointTime q_t_point q_t_pointEnd q_t_first q_t_length q_t_up q_t_down q_t_height q_t_tape q_t_index q_t_newIndex q_t_trainFrom q_t_trainTo q_t_published o_t_thrown t_end t_points t_pieces t_lowUp t_lowDown t_highUp t_highDown t_taped t_size t_at t_fault t_place t_clauses t_limit t_near t_shareOne t_shareOf t_window t_storm t_indexMany t_newLimit t_newNear t_newOne t_newOf t_newWindow t_newStorm t_newMany t_began t_trains t_publishings o_t_readings o_t_many) t.heap) A) args s 0 0 A) (F0 m 24 ls [.ref q_t]) := by
  intro hF hP hD hS hl
  obtain ⟨hx, hb, hml, hown, hts, hr, hlocks, hE, hA⟩ := id C0
  unfold JX10_read_24 at hF
  refine lv_iconst (v := 1) hx hb dX10_read_24 (by decide) ?_
  refine lv_goto (tgt := 29) hx hb dX10_read_25 (by decide) ?_
  exact jX10_read_29 C0 n t_thrown t_readings t_many x_1 x_2 x_3 1 _ _ _ hF hP hD hS (lv_sub hl [0, 1, 2, 3] rfl)
set_option maxHeartbeats 4000000 in
set_option maxRecDepth 100000 in
theorem met_X10_read (l : Launch) (D : va_G) (ct : Nat → ClassId) (q_t : Nat) (q_t_readings : Nat) (q_t_many : Nat) (q_t_joined : Nat) (q_t_finals : Nat) (q_t_when : Nat) (q_t_mean : Nat) (q_t_left : Nat) (q_t_ends : Nat) (q_t_measures : Nat) (q_t_pointTime : Nat) (q_t_point : Nat) (q_t_pointEnd : Nat) (q_t_first : Nat) (q_t_length : Nat) (q_t_up : Nat) (q_t_down : Nat) (q_t_height : Nat) (q_t_tape : Nat) (q_t_index : Nat) (q_t_newIndex : Nat) (q_t_trainFrom : Nat) (q_t_trainTo : Nat) (q_t_published : Nat) (sz : Nat) (t_thrown : Int32) (t_end : Int32) (t_points : Int32) (t_pieces : Int32) (t_lowUp : Int64) (t_lowDown : Int64) (t_highUp : Int64) (t_highDown : Int64) (t_taped : Int32) (t_size : Int32) (t_at : Int32) (t_fault : Int32) (t_place : Int32) (t_clauses : Int32) (t_limit : Int32) (t_near : Int32) (t_shareOne : Int32) (t_shareOf : Int32) (t_window : Int32) (t_storm : Int32) (t_indexMany : Int32) (t_newLimit : Int32) (t_newNear : Int32) (t_newOne : Int32) (t_newOf : Int32) (t_newWindow : Int32) (t_newStorm : Int32) (t_newMany : Int32) (t_began : Int32) (t_trains : Int32) (t_publishings : Int32) (t_readings : Nat → Int32) (t_many : Nat → Int32) (p1 : Int32) (p2 : Int32) (p3 : Int32) (n : Nat) (o_r : Int32) (o_t_thrown : Int32) (o_t_readings : Nat → Int32) (o_t_many : Nat → Int32) (hF : FX10_read n t_thrown t_readings t_many p1 p2 p3 = some (o_r, o_t_thrown, o_t_readings, o_t_many)) : Met l yX10_read wvX10_read ({ frames := 2, cells := 0, slots := 0, locals := 43 } : Room) (va_Pc [.ref q_t, .int p1, .int p2, .int p3] (pre_ D ct sz (W_37 ct q_t q_t_readings q_t_many q_t_joined q_t_finals q_t_when q_t_mean q_t_left q_t_ends q_t_measures q_t_pointTime q_t_point q_t_pointEnd q_t_first q_t_length q_t_up q_t_down q_t_height q_t_tape q_t_index q_t_newIndex q_t_trainFrom q_t_trainTo q_t_published t_thrown t_end t_points t_pieces t_lowUp t_lowDown t_highUp t_highDown t_taped t_size t_at t_fault t_place t_clauses t_limit t_near t_shareOne t_shareOf t_window t_storm t_indexMany t_newLimit t_newNear t_newOne t_newOf t_newWindow t_newStorm t_newMany t_began t_trains t_publishings t_readings t_many))) (va_Qi (fun r (_ : Unit) => r = o_r) (fun _ t => va_P D vwCl (W_37 ct q_t q_t_readings q_t_many q_t_joined q_t_finals q_t_when q_t_mean q_t_left q_t_ends q_t_measures q_t_pointTime q_t_point q_t_pointEnd q_t_first q_t_length q_t_up q_t_down q_t_height q_t_tape q_t_index q_t_newIndex q_t_trainFrom q_t_trainTo q_t_published o_t_thrown t_end t_points t_pieces t_lowUp t_lowDown t_highUp t_highDown t_taped t_size t_at t_fault t_place t_clauses t_limit t_near t_shareOne t_shareOf t_window t_storm t_indexMany t_newLimit t_newNear t_newOne t_newOf t_newWindow t_newStorm t_newMany t_began t_trains t_publishings o_t_readings o_t_many) t.heap) (va_A (W_37 ct q_t q_t_readings q_t_many q_t_joined q_t_finals q_t_when q_t_mean q_t_left q_t_ends q_t_measures q_t_pointTime q_t_point q_t_pointEnd q_t_first q_t_length q_t_up q_t_down q_t_height q_t_tape q_t_index q_t_newIndex q_t_trainFrom q_t_trainTo q_t_published t_thrown t_end t_points t_pieces t_lowUp t_lowDown t_highUp t_highDown t_taped t_size t_at t_fault t_place t_clauses t_limit t_near t_shareOne t_shareOf t_window t_storm t_indexMany t_newLimit t_newNear t_newOne t_newOf t_newWindow t_newStorm t_newMany t_began t_trains t_publishings t_readings t_many) sz)) 0 0 (va_A (W_37 ct q_t q_t_readings q_t_many q_t_joined q_t_finals q_t_when q_t_mean q_t_left q_t_ends q_t_measures q_t_pointTime q_t_point q_t_pointEnd q_t_first q_t_length q_t_up q_t_down q_t_height q_t_tape q_t_index q_t_newIndex q_t_trainFrom q_t_trainTo q_t_published t_thrown t_end t_points t_pieces t_lowUp t_lowDown t_highUp t_highDown t_taped t_size t_at t_fault t_place t_clauses t_limit t_near t_shareOne t_shareOf t_window t_storm t_indexMany t_newLimit t_newNear t_newOne t_newOf t_newWindow t_newStorm t_newMany t_began t_trains t_publishings t_readings t_many) sz) := by
  refine Met.ofW (cc := cX10_read) (maxL := 5) (ret := (some .int)) (by decide) rfl ?_
  intro p e s m args below meth c s₁ B hml hv
  obtain ⟨rfl, hsz, hP, hE, hD0⟩ := hv
  have hx := B.exec
  have hb := B.bytes
  have hr := B.returns
  have hts := atoms_spec (ws := wvX10_read) B.pre
  have hown : s.vm.findClass RX10 = some m.cls := findClass_of_methodNamed B.named
  have hlocks := B.notSynchronized
  subst hsz
  have hD := hD0.self (sz := s.heap.size)
  generalize hAe : va_A (W_37 ct q_t q_t_readings q_t_many q_t_joined q_t_finals q_t_when q_t_mean q_t_left q_t_ends q_t_measures q_t_pointTime q_t_point q_t_pointEnd q_t_first q_t_length q_t_up q_t_down q_t_height q_t_tape q_t_index q_t_newIndex q_t_trainFrom q_t_trainTo q_t_published t_thrown t_end t_points t_pieces t_lowUp t_lowDown t_highUp t_highDown t_taped t_size t_at t_fault t_place t_clauses t_limit t_near t_shareOne t_shareOf t_window t_storm t_indexMany t_newLimit t_newNear t_newOne t_newOf t_newWindow t_newStorm t_newMany t_began t_trains t_publishings t_readings t_many) s.heap.size = A at hD ⊢
  have hA : ∀ q : Nat, s.heap.size ≤ q → A q := fun q h => by rw [← hAe]; exact Or.inr h
  have hl := lv_entry ([.ref q_t, .int p1, .int p2, .int p3]) (n := 5) (Nat.le_of_ble_eq_true rfl)
  rw [lg_entry_eq]
  generalize (lg_sl ([.ref q_t, .int p1, .int p2, .int p3]) ++ List.replicate (5 - (lg_sl ([.ref q_t, .int p1, .int p2, .int p3])).length) Slot.unset).toArray = ls at hl ⊢
  have hl : lv_has ls 5 [(0, .ref q_t), (1, .int p1), (2, .int p2), (3, .int p3)] := hl
  have C0 : Cx RX10 cX10_read 5 (some .int) wvX10_read D ct A p s m ([.ref q_t, .int p1, .int p2, .int p3]).toArray meth c := ⟨hx, hb, hml, hown, hts, hr, hlocks, hE, hA⟩
  have hS : ∀ H : Heap, s.heap = H → va_S A s.heap H [] := fun H h => h ▸ va_S.rf
  generalize hH : s.heap = H at hP ⊢
  have hS := hS H hH
  unfold FX10_read at hF
  refine lv_aload_n hx hb dX10_read_0 rfl (lv_at hl 0 rfl) ?_
  refine lv_iload_n hx hb dX10_read_1 rfl (lv_at hl 1 rfl) ?_
  refine lv_iload_n hx hb dX10_read_2 rfl (lv_at hl 2 rfl) ?_
  obtain ⟨r1, v2, h3, hF⟩ := ob2_ex hF
  refine xiM (ws1 := (W_37 ct q_t q_t_readings q_t_many q_t_joined q_t_finals q_t_when q_t_mean q_t_left q_t_ends q_t_measures q_t_pointTime q_t_point q_t_pointEnd q_t_first q_t_length q_t_up q_t_down q_t_height q_t_tape q_t_index q_t_newIndex q_t_trainFrom q_t_trainTo q_t_published v2 t_end t_points t_pieces t_lowUp t_lowDown t_highUp t_highDown t_taped t_size t_at t_fault t_place t_clauses t_limit t_near t_shareOne t_shareOf t_window t_storm t_indexMany t_newLimit t_newNear t_newOne t_newOf t_newWindow t_newStorm t_newMany t_began t_trains t_publishings t_readings t_many)) (va_runV (As := [.int p1, .int p2]) (rest := []) ⟨hx, hb, hml, hown, hts⟩ (met_X10_isRow l D ct q_t q_t_readings q_t_many q_t_joined q_t_finals q_t_when q_t_mean q_t_left q_t_ends q_t_measures q_t_pointTime q_t_point q_t_pointEnd q_t_first q_t_length q_t_up q_t_down q_t_height q_t_tape q_t_index q_t_newIndex q_t_trainFrom q_t_trainTo q_t_published H.size t_thrown t_end t_points t_pieces t_lowUp t_lowDown t_highUp t_highDown t_taped t_size t_at t_fault t_place t_clauses t_limit t_near t_shareOne t_shareOf t_window t_storm t_indexMany t_newLimit t_newNear t_newOne t_newOf t_newWindow t_newStorm t_newMany t_began t_trains t_publishings p1 p2 n r1 v2 h3) (cwV 2 hts (gqV CW10_good (List.mem_of_getElem? (i := 54) rfl) (List.mem_of_getElem? (i := 55) rfl) (List.mem_of_getElem? (i := 56) rfl) (List.mem_of_getElem? (i := 42) rfl) (gself CW10_good (List.mem_of_getElem? (i := 48) rfl))) rfl rfl rfl (by decide +kernel) ⟨Nat.le_of_ble_eq_true rfl, Nat.le_of_ble_eq_true rfl⟩) ⟨blind_, va_recv hE.1 hP (ci := 10) (q0 := 0) rfl rfl, mkpre_ hE (hP.sub [0] rfl) (hD.sub [0] (by decide) rfl)⟩ rfl rfl hl.1 rfl (lv_room (Nat.le_of_ble_eq_true rfl)) dX10_read_3 ⟨Nat.le_of_ble_eq_true rfl, Nat.le_of_ble_eq_true rfl⟩) hP hD hS hA [0] [1, 2] 3 rfl rfl rfl rfl (by decide) rfl (fun H locs hP hD hS => ?_)
  refine lv_if_eq (tgt := 36) hx hb dX10_read_6 (by decide) (fun c4 => ?_) (fun c4 => ?_)
  · have hF := ifT c4 hF
    refine lv_iconst (v := 0) hx hb dX10_read_36 (by decide) ?_
    obtain ⟨rfl, rfl, rfl, rfl⟩ := in4 hF
    exact W.iret hx hb hr (fun t ht hW => ⟨⟨_, (), rfl, rfl, vaP_at ht hP⟩, hS.F ht⟩) hS.2.2 dX10_read_37
  · have hF := ifF c4 hF
    refine lv_aload_n hx hb dX10_read_9 rfl (lv_at hl 0 rfl) ?_
    refine lv_iload_n hx hb dX10_read_10 rfl (lv_at hl 3 rfl) ?_
    refine lv_sipush (v := (-30000)) hx hb dX10_read_11 (by decide) ?_
    refine lv_icmp_lt (tgt := 24) hx hb dX10_read_14 (by decide) (fun c5 => ?_) (fun c5 => ?_)
    · have hF := ifT c5 hF
      exact jX10_read_24 C0 n v2 t_readings t_many p1 p2 p3 _ _ _ hF hP hD hS (lv_sub hl [0, 1, 2, 3] rfl)
    · have hF := ifF c5 hF
      refine lv_iload_n hx hb dX10_read_17 rfl (lv_at hl 3 rfl) ?_
      refine lv_sipush (v := 30000) hx hb dX10_read_18 (by decide) ?_
      refine lv_icmp_le (tgt := 28) hx hb dX10_read_21 (by decide) (fun c6 => ?_) (fun c6 => ?_)
      · have hF := ifT c6 hF
        refine lv_iconst (v := 0) hx hb dX10_read_28 (by decide) ?_
        exact jX10_read_29 C0 n v2 t_readings t_many p1 p2 p3 0 _ _ _ hF hP hD hS (lv_sub hl [0, 1, 2, 3] rfl)
      · have hF := ifF c6 hF
        exact jX10_read_24 C0 n v2 t_readings t_many p1 p2 p3 _ _ _ hF hP hD hS (lv_sub hl [0, 1, 2, 3] rfl)
/-! NeedleHouseModel.lost(III)I -/
theorem i_X10_lost_X10 : ∀ w ∈ wsX100, w ∈ wvX10_lost := fun w h => List.mem_cons_of_mem _ (iCW10_X10 w h)
set_option maxHeartbeats 4000000 in
set_option maxRecDepth 100000 in
theorem jX10_lost_63 {p : Program} {l : Launch} {e : Env} {s : State} {m : MethodId} {args : Array Value} {below : List Frame} {meth : Method} {c : Code} {D : va_G} {ct : Nat → ClassId} {A : Nat → Prop} {q_t q_t_readings q_t_many q_t_joined q_t_finals q_t_when q_t_mean q_t_left q_t_ends q_t_measures q_t_pointTime q_t_point q_t_pointEnd q_t_first q_t_length q_t_up q_t_down q_t_height q_t_tape q_t_index q_t_newIndex q_t_trainFrom q_t_trainTo q_t_published : Nat} {t_end : Int32} {t_points : Int32} {t_pieces : Int32} {t_lowUp : Int64} {t_lowDown : Int64} {t_highUp : Int64} {t_highDown : Int64} {t_taped : Int32} {t_size : Int32} {t_at : Int32} {t_fault : Int32} {t_place : Int32} {t_clauses : Int32} {t_limit : Int32} {t_near : Int32} {t_shareOne : Int32} {t_shareOf : Int32} {t_window : Int32} {t_storm : Int32} {t_indexMany : Int32} {t_newLimit : Int32} {t_newNear : Int32} {t_newOne : Int32} {t_newOf : Int32} {t_newWindow : Int32} {t_newStorm : Int32} {t_newMany : Int32} {t_began : Int32} {t_trains : Int32} {t_publishings : Int32} {o_r : Int32} {o_t_thrown : Int32} {o_t_readings : Nat → Int32} {o_t_many : Nat → Int32} (C0 : Cx RX10 cX10_lost 6 (some .int) wvX10_lost D ct A p s m args meth c) (k63 : Int32 → (Nat → Int32) → (Nat → Int32) → Int32 → Int32 → Int32 → Option (Int32 × Int32 × (Nat → Int32) × (Nat → Int32))) (hk63 : ∀ (t_thrown : Int32) (t_readings : Nat → Int32) (t_many : Nat → Int32) (x_3 : Int32) (x_4 : Int32) (x_5 : Int32) (H : Heap) (locs : List Loc) (ls : Array Slot), k63 t_thrown t_readings t_many x_3 x_4 x_5 = some (o_r, o_t_thrown, o_t_readings, o_t_many) → va_P D vwCl (W_37 ct q_t q_t_readings q_t_many q_t_joined q_t_finals q_t_when q_t_mean q_t_left q_t_ends q_t_measures q_t_pointTime q_t_point q_t_pointEnd q_t_first q_t_length q_t_up q_t_down q_t_height q_t_tape q_t_index q_t_newIndex q_t_trainFrom q_t_trainTo q_t_published t_thrown t_end t_points t_pieces t_lowUp t_lowDown t_highUp t_highDown t_taped t_size t_at t_fault t_place t_clauses t_limit t_near t_shareOne t_shareOf t_window t_storm t_indexMany t_newLimit t_newNear t_newOne t_newOf t_newWindow t_newStorm t_newMany t_began t_trains t_publishings t_readings t_many) H → va_D A (W_37 ct q_t q_t_readings q_t_many q_t_joined q_t_finals q_t_when q_t_mean q_t_left q_t_ends q_t_measures q_t_pointTime q_t_point q_t_pointEnd q_t_first q_t_length q_t_up q_t_down q_t_height q_t_tape q_t_index q_t_newIndex q_t_trainFrom q_t_trainTo q_t_published t_thrown t_end t_points t_pieces t_lowUp t_lowDown t_highUp t_highDown t_taped t_size t_at t_fault t_place t_clauses t_limit t_near t_shareOne t_shareOf t_window t_storm t_indexMany t_newLimit t_newNear t_newOne t_newOf t_newWindow t_newStorm t_newMany t_began t_trains t_publishings t_readings t_many) → va_S A s.heap H locs → lv_has ls 6 [(0, .ref q_t), (3, .int x_3), (4, .int x_4), (5, .int x_5)] → W p l e ({ frames := 2, cells := 0, slots := 0, locals := 43 } : Room) s m args below meth c H locs 0 0 (MQ below (va_Qi (fun r (_ : Unit) => r = o_r) (fun _ t => va_P D vwCl (W_37 ct q_t q_t_readings q_t_many q_t_joined q_t_finals q_t_when q_t_mean q_t_left q_t_ends q_t_measures q_t_pointTime q_t_point q_t_pointEnd q_t_first q_t_length q_t_up q_t_down q_t_height q_t_tape q_t_index q_t_newIndex q_t_trainFrom q_t_trainTo q_t_published o_t_thrown t_end t_points t_pieces t_lowUp t_lowDown t_highUp t_highDown t_taped t_size t_at t_fault t_place t_clauses t_limit t_near t_shareOne t_shareOf t_window t_storm t_indexMany t_newLimit t_newNear t_newOne t_newOf t_newWindow t_newStorm t_newMany t_began t_trains t_publishings o_t_readings o_t_many) t.heap) A) args s 0 0 A) (F0 m 63 ls [])) (n : Nat) (t_thrown : Int32) (t_readings : Nat → Int32) (t_many : Nat → Int32) (x_3 : Int32) (x_4 : Int32) (x_5 : Int32) (H : Heap) (locs : List Loc) (ls : Array Slot) : JX10_lost_63 k63 n t_thrown t_readings t_many x_3 x_4 x_5 = some (o_r, o_t_thrown, o_t_readings, o_t_many) → va_P D vwCl (W_37 ct q_t q_t_readings q_t_many q_t_joined q_t_finals q_t_when q_t_mean q_t_left q_t_ends q_t_measures q_t_pointTime q_t_point q_t_pointEnd q_t_first q_t_length q_t_up q_t_down q_t_height q_t_tape q_t_index q_t_newIndex q_t_trainFrom q_t_trainTo q_t_published t_thrown t_end t_points t_pieces t_lowUp t_lowDown t_highUp t_highDown t_taped t_size t_at t_fault t_place t_clauses t_limit t_near t_shareOne t_shareOf t_window t_storm t_indexMany t_newLimit t_newNear t_newOne t_newOf t_newWindow t_newStorm t_newMany t_began t_trains t_publishings t_readings t_many) H → va_D A (W_37 ct q_t q_t_readings q_t_many q_t_joined q_t_finals q_t_when q_t_mean q_t_left q_t_ends q_t_measures q_t_pointTime q_t_point q_t_pointEnd q_t_first q_t_length q_t_up q_t_down q_t_height q_t_tape q_t_index q_t_newIndex q_t_trainFrom q_t_trainTo q_t_published t_thrown t_end t_points t_pieces t_lowUp t_lowDown t_highUp t_highDown t_taped t_size t_at t_fault t_place t_clauses t_limit t_near t_shareOne t_shareOf t_window t_storm t_indexMany t_newLimit t_newNear t_newOne t_newOf t_newWindow t_newStorm t_newMany t_began t_trains t_publishings t_readings t_many) → va_S A s.heap H locs → lv_has ls 6 [(0, .ref q_t), (3, .int x_3), (4, .int x_4), (5, .int x_5)] → W p l e ({ frames := 2, cells := 0, slots := 0, locals := 43 } : Room) s m args below meth c H locs 0 0 (MQ below (va_Qi (fun r (_ : Unit) => r = o_r) (fun _ t => va_P D vwCl (W_37 ct q_t q_t_readings q_t_many q_t_joined q_t_finals q_t_when q_t_mean q_t_left q_t_ends q_t_measures q_t_pointTime q_t_point q_t_pointEnd q_t_first q_t_length q_t_up q_t_down q_t_height q_t_tape q_t_index q_t_newIndex q_t_trainFrom q_t_trainTo q_t_published o_t_thrown t_end t_points t_pieces t_lowUp t_lowDown t_highUp t_highDown t_taped t_size t_at t_fault t_place t_clauses t_limit t_near t_shareOne t_shareOf t_window t_storm t_indexMany t_newLimit t_newNear t_newOne t_newOf t_newWindow t_newStorm t_newMany t_began t_trains t_publishings o_t_readings o_t_many) t.heap) A) args s 0 0 A) (F0 m 63 ls []) := by
  intro hF hP hD hS hl
  obtain ⟨hx, hb, hml, hown, hts, hr, hlocks, hE, hA⟩ := id C0
  unfold JX10_lost_63 at hF
  refine lv_iload hx hb dX10_lost_63 (lv_at hl 3 rfl) ?_
  refine lv_iload_n hx hb dX10_lost_65 rfl (lv_at hl 1 rfl) ?_
  refine lv_icmp_ge (tgt := 107) hx hb dX10_lost_66 (by decide) (fun c15 => ?_) (fun c15 => ?_)
  · have hF := ifT c15 hF
    refine lv_aload_n hx hb dX10_lost_107 rfl (lv_at hl 0 rfl) ?_
    refine va_get (D := D) (ci := 10) (v := .ref q_t_many) (C := RX10) (T := TX10) (N := 54) hx hb hts i_X10_lost_X10 hown hE.1 hP 0 rfl rfl 2 (by decide) (hts (.fieldLink RX10 13 "NeedleHouseModel" "many" "[I") (List.mem_cons_of_mem _ (List.mem_of_getElem? (i := 6) rfl))) (fun _ h9 => h9) rfl dX10_lost_108 ?_
    refine lv_iload hx hb dX10_lost_111 (lv_at hl 2 rfl) ?_
    obtain ⟨h16, hF⟩ := gd_ex hF
    refine va_iald hx hb hE.1 hP 2 0 rfl rfl h16 dX10_lost_113 ?_
    obtain ⟨rfl, rfl, rfl, rfl⟩ := in4 hF
    exact W.iret hx hb hr (fun t ht hW => ⟨⟨_, (), rfl, rfl, vaP_at ht hP⟩, hS.F ht⟩) hS.2.2 dX10_lost_114
  · have hF := ifF c15 hF
    refine lv_aload_n hx hb dX10_lost_69 rfl (lv_at hl 0 rfl) ?_
    refine va_get (D := D) (ci := 10) (v := .ref q_t_readings) (C := RX10) (T := TX10) (N := 54) hx hb hts i_X10_lost_X10 hown hE.1 hP 0 rfl rfl 1 (by decide) (hts (.fieldLink RX10 9 "NeedleHouseModel" "readings" "[I") (List.mem_cons_of_mem _ (List.mem_of_getElem? (i := 5) rfl))) (fun _ h9 => h9) rfl dX10_lost_70 ?_
    refine lv_sipush (v := 300) hx hb dX10_lost_73 (by decide) ?_
    refine lv_iload hx hb dX10_lost_76 (lv_at hl 2 rfl) ?_
    refine lv_imul hx hb dX10_lost_78 ?_
    refine lv_aload_n hx hb dX10_lost_79 rfl (lv_at hl 0 rfl) ?_
    refine va_get (D := D) (ci := 10) (v := .ref q_t_many) (C := RX10) (T := TX10) (N := 54) hx hb hts i_X10_lost_X10 hown hE.1 hP 0 rfl rfl 2 (by decide) (hts (.fieldLink RX10 13 "NeedleHouseModel" "many" "[I") (List.mem_cons_of_mem _ (List.mem_of_getElem? (i := 6) rfl))) (fun _ h9 => h9) rfl dX10_lost_80 ?_
    refine lv_iload hx hb dX10_lost_83 (lv_at hl 2 rfl) ?_
    obtain ⟨h17, hF⟩ := gd_ex hF
    refine va_iald hx hb hE.1 hP 2 0 rfl rfl h17 dX10_lost_85 ?_
    refine lv_iadd hx hb dX10_lost_86 ?_
    refine lv_ldc hx hb hown (hts (.constant RX10 113 (-2000000000)) (List.mem_cons_of_mem _ (List.mem_of_getElem? (i := 39) rfl))) dX10_lost_87 ?_
    obtain ⟨h18, hF⟩ := gd_ex hF
    obtain ⟨f19, ef19, hF⟩ := bn_ex hF
    refine va_iast hx hb hE.1 hP hD hS 1 0 rfl rfl h18 dX10_lost_89 (fun H locs hP hD hS => ?_)
    have hP : va_P D vwCl (W_37 ct q_t q_t_readings q_t_many q_t_joined q_t_finals q_t_when q_t_mean q_t_left q_t_ends q_t_measures q_t_pointTime q_t_point q_t_pointEnd q_t_first q_t_length q_t_up q_t_down q_t_height q_t_tape q_t_index q_t_newIndex q_t_trainFrom q_t_trainTo q_t_published t_thrown t_end t_points t_pieces t_lowUp t_lowDown t_highUp t_highDown t_taped t_size t_at t_fault t_place t_clauses t_limit t_near t_shareOne t_shareOf t_window t_storm t_indexMany t_newLimit t_newNear t_newOne t_newOf t_newWindow t_newStorm t_newMany t_began t_trains t_publishings f19 t_many) H := by rw [ef19]; exact hP
    have hD : va_D A (W_37 ct q_t q_t_readings q_t_many q_t_joined q_t_finals q_t_when q_t_mean q_t_left q_t_ends q_t_measures q_t_pointTime q_t_point q_t_pointEnd q_t_first q_t_length q_t_up q_t_down q_t_height q_t_tape q_t_index q_t_newIndex q_t_trainFrom q_t_trainTo q_t_published t_thrown t_end t_points t_pieces t_lowUp t_lowDown t_highUp t_highDown t_taped t_size t_at t_fault t_place t_clauses t_limit t_near t_shareOne t_shareOf t_window t_storm t_indexMany t_newLimit t_newNear t_newOne t_newOf t_newWindow t_newStorm t_newMany t_began t_trains t_publishings f19 t_many) := by rw [ef19]; exact hD
    refine lv_aload_n hx hb dX10_lost_90 rfl (lv_at hl 0 rfl) ?_
    refine va_get (D := D) (ci := 10) (v := .ref q_t_many) (C := RX10) (T := TX10) (N := 54) hx hb hts i_X10_lost_X10 hown hE.1 hP 0 rfl rfl 2 (by decide) (hts (.fieldLink RX10 13 "NeedleHouseModel" "many" "[I") (List.mem_cons_of_mem _ (List.mem_of_getElem? (i := 6) rfl))) (fun _ h9 => h9) rfl dX10_lost_91 ?_
    refine lv_iload hx hb dX10_lost_94 (lv_at hl 2 rfl) ?_
    refine lv_dup2_11 hx hb dX10_lost_96 rfl rfl ?_
    obtain ⟨h20, hF⟩ := gd_ex hF
    refine va_iald hx hb hE.1 hP 2 0 rfl rfl h20 dX10_lost_97 ?_
    refine lv_iconst (v := 1) hx hb dX10_lost_98 (by decide) ?_
    refine lv_iadd hx hb dX10_lost_99 ?_
    obtain ⟨h21, hF⟩ := gd_ex hF
    obtain ⟨f22, ef22, hF⟩ := bn_ex hF
    refine va_iast hx hb hE.1 hP hD hS 2 0 rfl rfl h21 dX10_lost_100 (fun H locs hP hD hS => ?_)
    have hP : va_P D vwCl (W_37 ct q_t q_t_readings q_t_many q_t_joined q_t_finals q_t_when q_t_mean q_t_left q_t_ends q_t_measures q_t_pointTime q_t_point q_t_pointEnd q_t_first q_t_length q_t_up q_t_down q_t_height q_t_tape q_t_index q_t_newIndex q_t_trainFrom q_t_trainTo q_t_published t_thrown t_end t_points t_pieces t_lowUp t_lowDown t_highUp t_highDown t_taped t_size t_at t_fault t_place t_clauses t_limit t_near t_shareOne t_shareOf t_window t_storm t_indexMany t_newLimit t_newNear t_newOne t_newOf t_newWindow t_newStorm t_newMany t_began t_trains t_publishings f19 f22) H := by rw [ef22]; exact hP
    have hD : va_D A (W_37 ct q_t q_t_readings q_t_many q_t_joined q_t_finals q_t_when q_t_mean q_t_left q_t_ends q_t_measures q_t_pointTime q_t_point q_t_pointEnd q_t_first q_t_length q_t_up q_t_down q_t_height q_t_tape q_t_index q_t_newIndex q_t_trainFrom q_t_trainTo q_t_published t_thrown t_end t_points t_pieces t_lowUp t_lowDown t_highUp t_highDown t_taped t_size t_at t_fault t_place t_clauses t_limit t_near t_shareOne t_shareOf t_window t_storm t_indexMany t_newLimit t_newNear t_newOne t_newOf t_newWindow t_newStorm t_newMany t_began t_trains t_publishings f19 f22) := by rw [ef22]; exact hD
    obtain ⟨x23, ex23⟩ : ∃ y : Int32, y = x_5 + 1 := ⟨_, rfl⟩
    refine lv_iinc (v := x23) (lv' := [(5, .int x23), (0, .ref q_t), (3, .int x_3), (4, .int x_4)]) hx hb dX10_lost_101 hl (k := 3) rfl (by rw [ex23]; rfl) (by decide) rfl (fun ls hl => ?_)
    have hF := bn_as ex23 hF
    refine lv_goto (tgt := 63) hx hb dX10_lost_104 (by decide) ?_
    exact hk63 t_thrown f19 f22 x_3 x_4 x23 _ _ _ hF hP hD hS (lv_sub hl [1, 2, 3, 0] rfl)
theorem lX10_lost_63 {p : Program} {l : Launch} {e : Env} {s : State} {m : MethodId} {args : Array Value} {below : List Frame} {meth : Method} {c : Code} {D : va_G} {ct : Nat → ClassId} {A : Nat → Prop} {q_t q_t_readings q_t_many q_t_joined q_t_finals q_t_when q_t_mean q_t_left q_t_ends q_t_measures q_t_pointTime q_t_point q_t_pointEnd q_t_first q_t_length q_t_up q_t_down q_t_height q_t_tape q_t_index q_t_newIndex q_t_trainFrom q_t_trainTo q_t_published : Nat} {t_end : Int32} {t_points : Int32} {t_pieces : Int32} {t_lowUp : Int64} {t_lowDown : Int64} {t_highUp : Int64} {t_highDown : Int64} {t_taped : Int32} {t_size : Int32} {t_at : Int32} {t_fault : Int32} {t_place : Int32} {t_clauses : Int32} {t_limit : Int32} {t_near : Int32} {t_shareOne : Int32} {t_shareOf : Int32} {t_window : Int32} {t_storm : Int32} {t_indexMany : Int32} {t_newLimit : Int32} {t_newNear : Int32} {t_newOne : Int32} {t_newOf : Int32} {t_newWindow : Int32} {t_newStorm : Int32} {t_newMany : Int32} {t_began : Int32} {t_trains : Int32} {t_publishings : Int32} {o_r : Int32} {o_t_thrown : Int32} {o_t_readings : Nat → Int32} {o_t_many : Nat → Int32} (C0 : Cx RX10 cX10_lost 6 (some .int) wvX10_lost D ct A p s m args meth c) : ∀ (n : Nat) (t_thrown : Int32) (t_readings : Nat → Int32) (t_many : Nat → Int32) (x_3 : Int32) (x_4 : Int32) (x_5 : Int32) (H : Heap) (locs : List Loc) (ls : Array Slot), LX10_lost_63 n t_thrown t_readings t_many x_3 x_4 x_5 = some (o_r, o_t_thrown, o_t_readings, o_t_many) → va_P D vwCl (W_37 ct q_t q_t_readings q_t_many q_t_joined q_t_finals q_t_when q_t_mean q_t_left q_t_ends q_t_measures q_t_pointTime q_t_point q_t_pointEnd q_t_first q_t_length q_t_up q_t_down q_t_height q_t_tape q_t_index q_t_newIndex q_t_trainFrom q_t_trainTo q_t_published t_thrown t_end t_points t_pieces t_lowUp t_lowDown t_highUp t_highDown t_taped t_size t_at t_fault t_place t_clauses t_limit t_near t_shareOne t_shareOf t_window t_storm t_indexMany t_newLimit t_newNear t_newOne t_newOf t_newWindow t_newStorm t_newMany t_began t_trains t_publishings t_readings t_many) H → va_D A (W_37 ct q_t q_t_readings q_t_many q_t_joined q_t_finals q_t_when q_t_mean q_t_left q_t_ends q_t_measures q_t_pointTime q_t_point q_t_pointEnd q_t_first q_t_length q_t_up q_t_down q_t_height q_t_tape q_t_index q_t_newIndex q_t_trainFrom q_t_trainTo q_t_published t_thrown t_end t_points t_pieces t_lowUp t_lowDown t_highUp t_highDown t_taped t_size t_at t_fault t_place t_clauses t_limit t_near t_shareOne t_shareOf t_window t_storm t_indexMany t_newLimit t_newNear t_newOne t_newOf t_newWindow t_newStorm t_newMany t_began t_trains t_publishings t_readings t_many) → va_S A s.heap H locs → lv_has ls 6 [(0, .ref q_t), (3, .int x_3), (4, .int x_4), (5, .int x_5)] → W p l e ({ frames := 2, cells := 0, slots := 0, locals := 43 } : Room) s m args below meth c H locs 0 0 (MQ below (va_Qi (fun r (_ : Unit) => r = o_r) (fun _ t => va_P D vwCl (W_37 ct q_t q_t_readings q_t_many q_t_joined q_t_finals q_t_when q_t_mean q_t_left q_t_ends q_t_measures q_t_pointTime q_t_point q_t_pointEnd q_t_first q_t_length q_t_up q_t_down q_t_height q_t_tape q_t_index q_t_newIndex q_t_trainFrom q_t_trainTo q_t_published o_t_thrown t_end t_points t_pieces t_lowUp t_lowDown t_highUp t_highDown t_taped t_size t_at t_fault t_place t_clauses t_limit t_near t_shareOne t_shareOf t_window t_storm t_indexMany t_newLimit t_newNear t_newOne t_newOf t_newWindow t_newStorm t_newMany t_began t_trains t_publishings o_t_readings o_t_many) t.heap) A) args s 0 0 A) (F0 m 63 ls []) := by
  intro n
  induction n with
  | zero => intro t_thrown t_readings t_many x_3 x_4 x_5 H locs ls hF; exact nomatch (show (none : Option (Int32 × Int32 × (Nat → Int32) × (Nat → Int32))) = _ from hF)
  | succ n ih => intro t_thrown t_readings t_many x_3 x_4 x_5 H locs ls hF; exact jX10_lost_63 C0 (LX10_lost_63 n) ih n t_thrown t_readings t_many x_3 x_4 x_5 H locs ls hF
set_option maxHeartbeats 4000000 in
set_option maxRecDepth 100000 in
theorem jX10_lost_27 {p : Program} {l : Launch} {e : Env} {s : State} {m : MethodId} {args : Array Value} {below : List Frame} {meth : Method} {c : Code} {D : va_G} {ct : Nat → ClassId} {A : Nat → Prop} {q_t q_t_readings q_t_many q_t_joined q_t_finals q_t_when q_t_mean q_t_left q_t_ends q_t_measures q_t_pointTime q_t_point q_t_pointEnd q_t_first q_t_length q_t_up q_t_down q_t_height q_t_tape q_t_index q_t_newIndex q_t_trainFrom q_t_trainTo q_t_published : Nat} {t_end : Int32} {t_points : Int32} {t_pieces : Int32} {t_lowUp : Int64} {t_lowDown : Int64} {t_highUp : Int64} {t_highDown : Int64} {t_taped : Int32} {t_size : Int32} {t_at : Int32} {t_fault : Int32} {t_place : Int32} {t_clauses : Int32} {t_limit : Int32} {t_near : Int32} {t_shareOne : Int32} {t_shareOf : Int32} {t_window : Int32} {t_storm : Int32} {t_indexMany : Int32} {t_newLimit : Int32} {t_newNear : Int32} {t_newOne : Int32} {t_newOf : Int32} {t_newWindow : Int32} {t_newStorm : Int32} {t_newMany : Int32} {t_began : Int32} {t_trains : Int32} {t_publishings : Int32} {o_r : Int32} {o_t_thrown : Int32} {o_t_readings : Nat → Int32} {o_t_many : Nat → Int32} (C0 : Cx RX10 cX10_lost 6 (some .int) wvX10_lost D ct A p s m args meth c) (n : Nat) (t_thrown : Int32) (t_readings : Nat → Int32) (t_many : Nat → Int32) (x_1 : Int32) (x_2 : Int32) (x_3 : Int32) (s_0 : Int32) (H : Heap) (locs : List Loc) (ls : Array Slot) : JX10_lost_27 n t_thrown t_readings t_many x_1 x_2 x_3 s_0 = some (o_r, o_t_thrown, o_t_readings, o_t_many) → va_P D vwCl (W_37 ct q_t q_t_readings q_t_many q_t_joined q_t_finals q_t_when q_t_mean q_t_left q_t_ends q_t_measures q_t_pointTime q_t_point q_t_pointEnd q_t_first q_t_length q_t_up q_t_down q_t_height q_t_tape q_t_index q_t_newIndex q_t_trainFrom q_t_trainTo q_t_published t_thrown t_end t_points t_pieces t_lowUp t_lowDown t_highUp t_highDown t_taped t_size t_at t_fault t_place t_clauses t_limit t_near t_shareOne t_shareOf t_window t_storm t_indexMany t_newLimit t_newNear t_newOne t_newOf t_newWindow t_newStorm t_newMany t_began t_trains t_publishings t_readings t_many) H → va_D A (W_37 ct q_t q_t_readings q_t_many q_t_joined q_t_finals q_t_when q_t_mean q_t_left q_t_ends q_t_measures q_t_pointTime q_t_point q_t_pointEnd q_t_first q_t_length q_t_up q_t_down q_t_height q_t_tape q_t_index q_t_newIndex q_t_trainFrom q_t_trainTo q_t_published t_thrown t_end t_points t_pieces t_lowUp t_lowDown t_highUp t_highDown t_taped t_size t_at t_fault t_place t_clauses t_limit t_near t_shareOne t_shareOf t_window t_storm t_indexMany t_newLimit t_newNear t_newOne t_newOf t_newWindow t_newStorm t_newMany t_began t_trains t_publishings t_readings t_many) → va_S A s.heap H locs → lv_has ls 6 [(0, .ref q_t), (1, .int x_1), (2, .int x_2), (3, .int x_3)] → W p l e ({ frames := 2, cells := 0, slots := 0, locals := 43 } : Room) s m args below meth c H locs 0 0 (MQ below (va_Qi (fun r (_ : Unit) => r = o_r) (fun _ t => va_P D vwCl (W_37 ct q_t q_t_readings q_t_many q_t_joined q_t_finals q_t_when q_t_mean q_t_left q_t_ends q_t_measures q_t_pointTime q_t_point q_t_pointEnd q_t_first q_t_length q_t_up q_t_down q_t_height q_t_tape q_t_index q_t_newIndex q_t_trainFrom q_t_trainTo q_t_published o_t_thrown t_end t_points t_pieces t_lowUp t_lowDown t_highUp t_highDown t_taped t_size t_at t_fault t_place t_clauses t_limit t_near t_shareOne t_shareOf t_window t_storm t_indexMany t_newLimit t_newNear t_newOne t_newOf t_newWindow t_newStorm t_newMany t_began t_trains t_publishings o_t_readings o_t_many) t.heap) A) args s 0 0 A) (F0 m 27 ls [.int s_0, .ref q_t]) := by
  intro hF hP hD hS hl
  obtain ⟨hx, hb, hml, hown, hts, hr, hlocks, hE, hA⟩ := id C0
  unfold JX10_lost_27 at hF
  refine lv_iconst (v := 2) hx hb dX10_lost_27 (by decide) ?_
  obtain ⟨r7, v8, h9, hF⟩ := ob2_ex hF
  refine xiM (ws1 := (W_37 ct q_t q_t_readings q_t_many q_t_joined q_t_finals q_t_when q_t_mean q_t_left q_t_ends q_t_measures q_t_pointTime q_t_point q_t_pointEnd q_t_first q_t_length q_t_up q_t_down q_t_height q_t_tape q_t_index q_t_newIndex q_t_trainFrom q_t_trainTo q_t_published v8 t_end t_points t_pieces t_lowUp t_lowDown t_highUp t_highDown t_taped t_size t_at t_fault t_place t_clauses t_limit t_near t_shareOne t_shareOf t_window t_storm t_indexMany t_newLimit t_newNear t_newOne t_newOf t_newWindow t_newStorm t_newMany t_began t_trains t_publishings t_readings t_many)) (va_runV (As := [.int s_0, .int 2]) (rest := []) ⟨hx, hb, hml, hown, hts⟩ (met_X10_bad l D ct q_t q_t_readings q_t_many q_t_joined q_t_finals q_t_when q_t_mean q_t_left q_t_ends q_t_measures q_t_pointTime q_t_point q_t_pointEnd q_t_first q_t_length q_t_up q_t_down q_t_height q_t_tape q_t_index q_t_newIndex q_t_trainFrom q_t_trainTo q_t_published H.size t_thrown t_end t_points t_pieces t_lowUp t_lowDown t_highUp t_highDown t_taped t_size t_at t_fault t_place t_clauses t_limit t_near t_shareOne t_shareOf t_window t_storm t_indexMany t_newLimit t_newNear t_newOne t_newOf t_newWindow t_newStorm t_newMany t_began t_trains t_publishings s_0 2 n r7 v8 h9) (cwV 2 hts (gqV CW10_good (List.mem_of_getElem? (i := 57) rfl) (List.mem_of_getElem? (i := 58) rfl) (List.mem_of_getElem? (i := 59) rfl) (List.mem_of_getElem? (i := 42) rfl) (gself CW10_good (List.mem_of_getElem? (i := 46) rfl))) rfl rfl rfl (by decide +kernel) ⟨Nat.le_of_ble_eq_true rfl, Nat.le_of_ble_eq_true rfl⟩) ⟨blind_, va_recv hE.1 hP (ci := 10) (q0 := 0) rfl rfl, mkpre_ hE (hP.sub [0] rfl) (hD.sub [0] (by decide) rfl)⟩ rfl rfl hl.1 rfl (lv_room (Nat.le_of_ble_eq_true rfl)) dX10_lost_28 ⟨Nat.le_of_ble_eq_true rfl, Nat.le_of_ble_eq_true rfl⟩) hP hD hS hA [0] [1, 2] 3 rfl rfl rfl rfl (by decide) rfl (fun H locs hP hD hS => ?_)
  refine lv_if_eq (tgt := 36) hx hb dX10_lost_31 (by decide) (fun c10 => ?_) (fun c10 => ?_)
  · have hF := ifT c10 hF
    refine lv_iload_n hx hb dX10_lost_36 rfl (lv_at hl 1 rfl) ?_
    refine lv_iload_n hx hb dX10_lost_37 rfl (lv_at hl 2 rfl) ?_
    obtain ⟨r11, h12, hF⟩ := ob1_ex hF
    refine xiR (va_runS (As := [.int x_1, .int x_2]) (rest := []) ⟨hx, hb, hml, hown, hts⟩ (met_X10_rowOf l D ct H.size x_1 x_2 n r11 h12) (va_cwS 2 hts (gqS CW10_good (List.mem_of_getElem? (i := 60) rfl) (List.mem_of_getElem? (i := 61) rfl) (List.mem_of_getElem? (i := 42) rfl) (gself CW10_good (List.mem_of_getElem? (i := 52) rfl))) rfl rfl rfl (by decide +kernel) ⟨Nat.le_of_ble_eq_true rfl, Nat.le_of_ble_eq_true rfl⟩) ⟨blind_, mkpre_ hE (hP.sub [] rfl) (hD.sub [] (by decide) rfl)⟩ rfl rfl hl.1 rfl (lv_room (Nat.le_of_ble_eq_true rfl)) dX10_lost_38 ⟨Nat.le_of_ble_eq_true rfl, Nat.le_of_ble_eq_true rfl⟩) hP hD hS hA [] rfl (fun H locs hP hD hS => ?_)
    refine lv_istore (lv' := [(4, .int r11), (0, .ref q_t), (1, .int x_1), (2, .int x_2), (3, .int x_3)]) hx hb dX10_lost_41 hl (by decide) rfl (fun ls hl => ?_)
    refine lv_aload_n hx hb dX10_lost_43 rfl (lv_at hl 1 rfl) ?_
    refine va_get (D := D) (ci := 10) (v := .ref q_t_many) (C := RX10) (T := TX10) (N := 54) hx hb hts i_X10_lost_X10 hown hE.1 hP 0 rfl rfl 2 (by decide) (hts (.fieldLink RX10 13 "NeedleHouseModel" "many" "[I") (List.mem_cons_of_mem _ (List.mem_of_getElem? (i := 6) rfl))) (fun _ h9 => h9) rfl dX10_lost_44 ?_
    refine lv_iload hx hb dX10_lost_47 (lv_at hl 0 rfl) ?_
    obtain ⟨h13, hF⟩ := gd_ex hF
    refine va_iald hx hb hE.1 hP 2 0 rfl rfl h13 dX10_lost_49 ?_
    refine lv_iload_n hx hb dX10_lost_50 rfl (lv_at hl 4 rfl) ?_
    refine lv_iadd hx hb dX10_lost_51 ?_
    refine lv_sipush (v := 300) hx hb dX10_lost_52 (by decide) ?_
    refine lv_icmp_le (tgt := 60) hx hb dX10_lost_55 (by decide) (fun c14 => ?_) (fun c14 => ?_)
    · have hF := ifT c14 hF
      refine lv_iconst (v := 0) hx hb dX10_lost_60 (by decide) ?_
      refine lv_istore (lv' := [(5, .int 0), (4, .int r11), (0, .ref q_t), (1, .int x_1), (2, .int x_2), (3, .int x_3)]) hx hb dX10_lost_61 hl (by decide) rfl (fun ls hl => ?_)
      exact lX10_lost_63 C0 n v8 t_readings t_many x_3 r11 0 _ _ _ hF hP hD hS (lv_sub hl [2, 5, 1, 0] rfl)
    · have hF := ifF c14 hF
      refine lv_iconst (v := (-1)) hx hb dX10_lost_58 (by decide) ?_
      obtain ⟨rfl, rfl, rfl, rfl⟩ := in4 hF
      exact W.iret hx hb hr (fun t ht hW => ⟨⟨_, (), rfl, rfl, vaP_at ht hP⟩, hS.F ht⟩) hS.2.2 dX10_lost_59
  · have hF := ifF c10 hF
    refine lv_iconst (v := 0) hx hb dX10_lost_34 (by decide) ?_
    obtain ⟨rfl, rfl, rfl, rfl⟩ := in4 hF
    exact W.iret hx hb hr (fun t ht hW => ⟨⟨_, (), rfl, rfl, vaP_at ht hP⟩, hS.F ht⟩) hS.2.2 dX10_lost_35
set_option maxHeartbeats 4000000 in
set_option maxRecDepth 100000 in
theorem jX10_lost_22 {p : Program} {l : Launch} {e : Env} {s : State} {m : MethodId} {args : Array Value} {below : List Frame} {meth : Method} {c : Code} {D : va_G} {ct : Nat → ClassId} {A : Nat → Prop} {q_t q_t_readings q_t_many q_t_joined q_t_finals q_t_when q_t_mean q_t_left q_t_ends q_t_measures q_t_pointTime q_t_point q_t_pointEnd q_t_first q_t_length q_t_up q_t_down q_t_height q_t_tape q_t_index q_t_newIndex q_t_trainFrom q_t_trainTo q_t_published : Nat} {t_end : Int32} {t_points : Int32} {t_pieces : Int32} {t_lowUp : Int64} {t_lowDown : Int64} {t_highUp : Int64} {t_highDown : Int64} {t_taped : Int32} {t_size : Int32} {t_at : Int32} {t_fault : Int32} {t_place : Int32} {t_clauses : Int32} {t_limit : Int32} {t_near : Int32} {t_shareOne : Int32} {t_shareOf : Int32} {t_window : Int32} {t_storm : Int32} {t_indexMany : Int32} {t_newLimit : Int32} {t_newNear : Int32} {t_newOne : Int32} {t_newOf : Int32} {t_newWindow : Int32} {t_newStorm : Int32} {t_newMany : Int32} {t_began : Int32} {t_trains : Int32} {t_publishings : Int32} {o_r : Int32} {o_t_thrown : Int32} {o_t_readings : Nat → Int32} {o_t_many : Nat → Int32} (C0 : Cx RX10 cX10_lost 6 (some .int) wvX10_lost D ct A p s m args meth c) (n : Nat) (t_thrown : Int32) (t_readings : Nat → Int32) (t_many : Nat → Int32) (x_1 : Int32) (x_2 : Int32) (x_3 : Int32) (H : Heap) (locs : List Loc) (ls : Array Slot) : JX10_lost_22 n t_thrown t_readings t_many x_1 x_2 x_3 = some (o_r, o_t_thrown, o_t_readings, o_t_many) → va_P D vwCl (W_37 ct q_t q_t_readings q_t_many q_t_joined q_t_finals q_t_when q_t_mean q_t_left q_t_ends q_t_measures q_t_pointTime q_t_point q_t_pointEnd q_t_first q_t_length q_t_up q_t_down q_t_height q_t_tape q_t_index q_t_newIndex q_t_trainFrom q_t_trainTo q_t_published t_thrown t_end t_points t_pieces t_lowUp t_lowDown t_highUp t_highDown t_taped t_size t_at t_fault t_place t_clauses t_limit t_near t_shareOne t_shareOf t_window t_storm t_indexMany t_newLimit t_newNear t_newOne t_newOf t_newWindow t_newStorm t_newMany t_began t_trains t_publishings t_readings t_many) H → va_D A (W_37 ct q_t q_t_readings q_t_many q_t_joined q_t_finals q_t_when q_t_mean q_t_left q_t_ends q_t_measures q_t_pointTime q_t_point q_t_pointEnd q_t_first q_t_length q_t_up q_t_down q_t_height q_t_tape q_t_index q_t_newIndex q_t_trainFrom q_t_trainTo q_t_published t_thrown t_end t_points t_pieces t_lowUp t_lowDown t_highUp t_highDown t_taped t_size t_at t_fault t_place t_clauses t_limit t_near t_shareOne t_shareOf t_window t_storm t_indexMany t_newLimit t_newNear t_newOne t_newOf t_newWindow t_newStorm t_newMany t_began t_trains t_publishings t_readings t_many) → va_S A s.heap H locs → lv_has ls 6 [(0, .ref q_t), (1, .int x_1), (2, .int x_2), (3, .int x_3)] → W p l e ({ frames := 2, cells := 0, slots := 0, locals := 43 } : Room) s m args below meth c H locs 0 0 (MQ below (va_Qi (fun r (_ : Unit) => r = o_r) (fun _ t => va_P D vwCl (W_37 ct q_t q_t_readings q_t_many q_t_joined q_t_finals q_t_when q_t_mean q_t_left q_t_ends q_t_measures q_t_pointTime q_t_point q_t_pointEnd q_t_first q_t_length q_t_up q_t_down q_t_height q_t_tape q_t_index q_t_newIndex q_t_trainFrom q_t_trainTo q_t_published o_t_thrown t_end t_points t_pieces t_lowUp t_lowDown t_highUp t_highDown t_taped t_size t_at t_fault t_place t_clauses t_limit t_near t_shareOne t_shareOf t_window t_storm t_indexMany t_newLimit t_newNear t_newOne t_newOf t_newWindow t_newStorm t_newMany t_began t_trains t_publishings o_t_readings o_t_many) t.heap) A) args s 0 0 A) (F0 m 22 ls [.ref q_t]) := by
  intro hF hP hD hS hl
  obtain ⟨hx, hb, hml, hown, hts, hr, hlocks, hE, hA⟩ := id C0
  unfold JX10_lost_22 at hF
  refine lv_iconst (v := 1) hx hb dX10_lost_22 (by decide) ?_
  refine lv_goto (tgt := 27) hx hb dX10_lost_23 (by decide) ?_
  exact jX10_lost_27 C0 n t_thrown t_readings t_many x_1 x_2 x_3 1 _ _ _ hF hP hD hS (lv_sub hl [0, 1, 2, 3] rfl)
set_option maxHeartbeats 4000000 in
set_option maxRecDepth 100000 in
theorem met_X10_lost (l : Launch) (D : va_G) (ct : Nat → ClassId) (q_t : Nat) (q_t_readings : Nat) (q_t_many : Nat) (q_t_joined : Nat) (q_t_finals : Nat) (q_t_when : Nat) (q_t_mean : Nat) (q_t_left : Nat) (q_t_ends : Nat) (q_t_measures : Nat) (q_t_pointTime : Nat) (q_t_point : Nat) (q_t_pointEnd : Nat) (q_t_first : Nat) (q_t_length : Nat) (q_t_up : Nat) (q_t_down : Nat) (q_t_height : Nat) (q_t_tape : Nat) (q_t_index : Nat) (q_t_newIndex : Nat) (q_t_trainFrom : Nat) (q_t_trainTo : Nat) (q_t_published : Nat) (sz : Nat) (t_thrown : Int32) (t_end : Int32) (t_points : Int32) (t_pieces : Int32) (t_lowUp : Int64) (t_lowDown : Int64) (t_highUp : Int64) (t_highDown : Int64) (t_taped : Int32) (t_size : Int32) (t_at : Int32) (t_fault : Int32) (t_place : Int32) (t_clauses : Int32) (t_limit : Int32) (t_near : Int32) (t_shareOne : Int32) (t_shareOf : Int32) (t_window : Int32) (t_storm : Int32) (t_indexMany : Int32) (t_newLimit : Int32) (t_newNear : Int32) (t_newOne : Int32) (t_newOf : Int32) (t_newWindow : Int32) (t_newStorm : Int32) (t_newMany : Int32) (t_began : Int32) (t_trains : Int32) (t_publishings : Int32) (t_readings : Nat → Int32) (t_many : Nat → Int32) (p1 : Int32) (p2 : Int32) (p3 : Int32) (n : Nat) (o_r : Int32) (o_t_thrown : Int32) (o_t_readings : Nat → Int32) (o_t_many : Nat → Int32) (hF : FX10_lost n t_thrown t_readings t_many p1 p2 p3 = some (o_r, o_t_thrown, o_t_readings, o_t_many)) : Met l yX10_lost wvX10_lost ({ frames := 2, cells := 0, slots := 0, locals := 43 } : Room) (va_Pc [.ref q_t, .int p1, .int p2, .int p3] (pre_ D ct sz (W_37 ct q_t q_t_readings q_t_many q_t_joined q_t_finals q_t_when q_t_mean q_t_left q_t_ends q_t_measures q_t_pointTime q_t_point q_t_pointEnd q_t_first q_t_length q_t_up q_t_down q_t_height q_t_tape q_t_index q_t_newIndex q_t_trainFrom q_t_trainTo q_t_published t_thrown t_end t_points t_pieces t_lowUp t_lowDown t_highUp t_highDown t_taped t_size t_at t_fault t_place t_clauses t_limit t_near t_shareOne t_shareOf t_window t_storm t_indexMany t_newLimit t_newNear t_newOne t_newOf t_newWindow t_newStorm t_newMany t_began t_trains t_publishings t_readings t_many))) (va_Qi (fun r (_ : Unit) => r = o_r) (fun _ t => va_P D vwCl (W_37 ct q_t q_t_readings q_t_many q_t_joined q_t_finals q_t_when q_t_mean q_t_left q_t_ends q_t_measures q_t_pointTime q_t_point q_t_pointEnd q_t_first q_t_length q_t_up q_t_down q_t_height q_t_tape q_t_index q_t_newIndex q_t_trainFrom q_t_trainTo q_t_published o_t_thrown t_end t_points t_pieces t_lowUp t_lowDown t_highUp t_highDown t_taped t_size t_at t_fault t_place t_clauses t_limit t_near t_shareOne t_shareOf t_window t_storm t_indexMany t_newLimit t_newNear t_newOne t_newOf t_newWindow t_newStorm t_newMany t_began t_trains t_publishings o_t_readings o_t_many) t.heap) (va_A (W_37 ct q_t q_t_readings q_t_many q_t_joined q_t_finals q_t_when q_t_mean q_t_left q_t_ends q_t_measures q_t_pointTime q_t_point q_t_pointEnd q_t_first q_t_length q_t_up q_t_down q_t_height q_t_tape q_t_index q_t_newIndex q_t_trainFrom q_t_trainTo q_t_published t_thrown t_end t_points t_pieces t_lowUp t_lowDown t_highUp t_highDown t_taped t_size t_at t_fault t_place t_clauses t_limit t_near t_shareOne t_shareOf t_window t_storm t_indexMany t_newLimit t_newNear t_newOne t_newOf t_newWindow t_newStorm t_newMany t_began t_trains t_publishings t_readings t_many) sz)) 0 0 (va_A (W_37 ct q_t q_t_readings q_t_many q_t_joined q_t_finals q_t_when q_t_mean q_t_left q_t_ends q_t_measures q_t_pointTime q_t_point q_t_pointEnd q_t_first q_t_length q_t_up q_t_down q_t_height q_t_tape q_t_index q_t_newIndex q_t_trainFrom q_t_trainTo q_t_published t_thrown t_end t_points t_pieces t_lowUp t_lowDown t_highUp t_highDown t_taped t_size t_at t_fault t_place t_clauses t_limit t_near t_shareOne t_shareOf t_window t_storm t_indexMany t_newLimit t_newNear t_newOne t_newOf t_newWindow t_newStorm t_newMany t_began t_trains t_publishings t_readings t_many) sz) := by
  refine Met.ofW (cc := cX10_lost) (maxL := 6) (ret := (some .int)) (by decide) rfl ?_
  intro p e s m args below meth c s₁ B hml hv
  obtain ⟨rfl, hsz, hP, hE, hD0⟩ := hv
  have hx := B.exec
  have hb := B.bytes
  have hr := B.returns
  have hts := atoms_spec (ws := wvX10_lost) B.pre
  have hown : s.vm.findClass RX10 = some m.cls := findClass_of_methodNamed B.named
  have hlocks := B.notSynchronized
  subst hsz
  have hD := hD0.self (sz := s.heap.size)
  generalize hAe : va_A (W_37 ct q_t q_t_readings q_t_many q_t_joined q_t_finals q_t_when q_t_mean q_t_left q_t_ends q_t_measures q_t_pointTime q_t_point q_t_pointEnd q_t_first q_t_length q_t_up q_t_down q_t_height q_t_tape q_t_index q_t_newIndex q_t_trainFrom q_t_trainTo q_t_published t_thrown t_end t_points t_pieces t_lowUp t_lowDown t_highUp t_highDown t_taped t_size t_at t_fault t_place t_clauses t_limit t_near t_shareOne t_shareOf t_window t_storm t_indexMany t_newLimit t_newNear t_newOne t_newOf t_newWindow t_newStorm t_newMany t_began t_trains t_publishings t_readings t_many) s.heap.size = A at hD ⊢
  have hA : ∀ q : Nat, s.heap.size ≤ q → A q := fun q h => by rw [← hAe]; exact Or.inr h
  have hl := lv_entry ([.ref q_t, .int p1, .int p2, .int p3]) (n := 6) (Nat.le_of_ble_eq_true rfl)
  rw [lg_entry_eq]
  generalize (lg_sl ([.ref q_t, .int p1, .int p2, .int p3]) ++ List.replicate (6 - (lg_sl ([.ref q_t, .int p1, .int p2, .int p3])).length) Slot.unset).toArray = ls at hl ⊢
  have hl : lv_has ls 6 [(0, .ref q_t), (1, .int p1), (2, .int p2), (3, .int p3)] := hl
  have C0 : Cx RX10 cX10_lost 6 (some .int) wvX10_lost D ct A p s m ([.ref q_t, .int p1, .int p2, .int p3]).toArray meth c := ⟨hx, hb, hml, hown, hts, hr, hlocks, hE, hA⟩
  have hS : ∀ H : Heap, s.heap = H → va_S A s.heap H [] := fun H h => h ▸ va_S.rf
  generalize hH : s.heap = H at hP ⊢
  have hS := hS H hH
  unfold FX10_lost at hF
  refine lv_aload_n hx hb dX10_lost_0 rfl (lv_at hl 0 rfl) ?_
  refine lv_iload_n hx hb dX10_lost_1 rfl (lv_at hl 1 rfl) ?_
  refine lv_iload_n hx hb dX10_lost_2 rfl (lv_at hl 2 rfl) ?_
  obtain ⟨r1, v2, h3, hF⟩ := ob2_ex hF
  refine xiM (ws1 := (W_37 ct q_t q_t_readings q_t_many q_t_joined q_t_finals q_t_when q_t_mean q_t_left q_t_ends q_t_measures q_t_pointTime q_t_point q_t_pointEnd q_t_first q_t_length q_t_up q_t_down q_t_height q_t_tape q_t_index q_t_newIndex q_t_trainFrom q_t_trainTo q_t_published v2 t_end t_points t_pieces t_lowUp t_lowDown t_highUp t_highDown t_taped t_size t_at t_fault t_place t_clauses t_limit t_near t_shareOne t_shareOf t_window t_storm t_indexMany t_newLimit t_newNear t_newOne t_newOf t_newWindow t_newStorm t_newMany t_began t_trains t_publishings t_readings t_many)) (va_runV (As := [.int p1, .int p2]) (rest := []) ⟨hx, hb, hml, hown, hts⟩ (met_X10_isRow l D ct q_t q_t_readings q_t_many q_t_joined q_t_finals q_t_when q_t_mean q_t_left q_t_ends q_t_measures q_t_pointTime q_t_point q_t_pointEnd q_t_first q_t_length q_t_up q_t_down q_t_height q_t_tape q_t_index q_t_newIndex q_t_trainFrom q_t_trainTo q_t_published H.size t_thrown t_end t_points t_pieces t_lowUp t_lowDown t_highUp t_highDown t_taped t_size t_at t_fault t_place t_clauses t_limit t_near t_shareOne t_shareOf t_window t_storm t_indexMany t_newLimit t_newNear t_newOne t_newOf t_newWindow t_newStorm t_newMany t_began t_trains t_publishings p1 p2 n r1 v2 h3) (cwV 2 hts (gqV CW10_good (List.mem_of_getElem? (i := 54) rfl) (List.mem_of_getElem? (i := 55) rfl) (List.mem_of_getElem? (i := 56) rfl) (List.mem_of_getElem? (i := 42) rfl) (gself CW10_good (List.mem_of_getElem? (i := 48) rfl))) rfl rfl rfl (by decide +kernel) ⟨Nat.le_of_ble_eq_true rfl, Nat.le_of_ble_eq_true rfl⟩) ⟨blind_, va_recv hE.1 hP (ci := 10) (q0 := 0) rfl rfl, mkpre_ hE (hP.sub [0] rfl) (hD.sub [0] (by decide) rfl)⟩ rfl rfl hl.1 rfl (lv_room (Nat.le_of_ble_eq_true rfl)) dX10_lost_3 ⟨Nat.le_of_ble_eq_true rfl, Nat.le_of_ble_eq_true rfl⟩) hP hD hS hA [0] [1, 2] 3 rfl rfl rfl rfl (by decide) rfl (fun H locs hP hD hS => ?_)
  refine lv_if_eq (tgt := 34) hx hb dX10_lost_6 (by decide) (fun c4 => ?_) (fun c4 => ?_)
  · have hF := ifT c4 hF
    refine lv_iconst (v := 0) hx hb dX10_lost_34 (by decide) ?_
    obtain ⟨rfl, rfl, rfl, rfl⟩ := in4 hF
    exact W.iret hx hb hr (fun t ht hW => ⟨⟨_, (), rfl, rfl, vaP_at ht hP⟩, hS.F ht⟩) hS.2.2 dX10_lost_35
  · have hF := ifF c4 hF
    refine lv_aload_n hx hb dX10_lost_9 rfl (lv_at hl 0 rfl) ?_
    refine lv_iload_n hx hb dX10_lost_10 rfl (lv_at hl 3 rfl) ?_
    refine lv_iconst (v := 1) hx hb dX10_lost_11 (by decide) ?_
    refine lv_icmp_lt (tgt := 22) hx hb dX10_lost_12 (by decide) (fun c5 => ?_) (fun c5 => ?_)
    · have hF := ifT c5 hF
      exact jX10_lost_22 C0 n v2 t_readings t_many p1 p2 p3 _ _ _ hF hP hD hS (lv_sub hl [0, 1, 2, 3] rfl)
    · have hF := ifF c5 hF
      refine lv_iload_n hx hb dX10_lost_15 rfl (lv_at hl 3 rfl) ?_
      refine lv_sipush (v := 300) hx hb dX10_lost_16 (by decide) ?_
      refine lv_icmp_le (tgt := 26) hx hb dX10_lost_19 (by decide) (fun c6 => ?_) (fun c6 => ?_)
      · have hF := ifT c6 hF
        refine lv_iconst (v := 0) hx hb dX10_lost_26 (by decide) ?_
        exact jX10_lost_27 C0 n v2 t_readings t_many p1 p2 p3 0 _ _ _ hF hP hD hS (lv_sub hl [0, 1, 2, 3] rfl)
      · have hF := ifF c6 hF
        exact jX10_lost_22 C0 n v2 t_readings t_many p1 p2 p3 _ _ _ hF hP hD hS (lv_sub hl [0, 1, 2, 3] rfl)
/-! NeedleHouseModel.reading(III)I -/
theorem i_X10_reading_X10 : ∀ w ∈ wsX100, w ∈ wvX10_reading := fun w h => List.mem_cons_of_mem _ (iCW10_X10 w h)
set_option maxHeartbeats 4000000 in
set_option maxRecDepth 100000 in
theorem met_X10_reading (l : Launch) (D : va_G) (ct : Nat → ClassId) (q_t : Nat) (q_t_readings : Nat) (q_t_many : Nat) (q_t_joined : Nat) (q_t_finals : Nat) (q_t_when : Nat) (q_t_mean : Nat) (q_t_left : Nat) (q_t_ends : Nat) (q_t_measures : Nat) (q_t_pointTime : Nat) (q_t_point : Nat) (q_t_pointEnd : Nat) (q_t_first : Nat) (q_t_length : Nat) (q_t_up : Nat) (q_t_down : Nat) (q_t_height : Nat) (q_t_tape : Nat) (q_t_index : Nat) (q_t_newIndex : Nat) (q_t_trainFrom : Nat) (q_t_trainTo : Nat) (q_t_published : Nat) (sz : Nat) (t_thrown : Int32) (t_end : Int32) (t_points : Int32) (t_pieces : Int32) (t_lowUp : Int64) (t_lowDown : Int64) (t_highUp : Int64) (t_highDown : Int64) (t_taped : Int32) (t_size : Int32) (t_at : Int32) (t_fault : Int32) (t_place : Int32) (t_clauses : Int32) (t_limit : Int32) (t_near : Int32) (t_shareOne : Int32) (t_shareOf : Int32) (t_window : Int32) (t_storm : Int32) (t_indexMany : Int32) (t_newLimit : Int32) (t_newNear : Int32) (t_newOne : Int32) (t_newOf : Int32) (t_newWindow : Int32) (t_newStorm : Int32) (t_newMany : Int32) (t_began : Int32) (t_trains : Int32) (t_publishings : Int32) (t_readings : Nat → Int32) (t_many : Nat → Int32) (p1 : Int32) (p2 : Int32) (p3 : Int32) (n : Nat) (o_r : Int32) (hF : FX10_reading n t_readings t_many p1 p2 p3 = some (o_r)) : Met l yX10_reading wvX10_reading ({ frames := 1, cells := 0, slots := 0, locals := 21 } : Room) (va_Pc [.ref q_t, .int p1, .int p2, .int p3] (pre_ D ct sz (W_37 ct q_t q_t_readings q_t_many q_t_joined q_t_finals q_t_when q_t_mean q_t_left q_t_ends q_t_measures q_t_pointTime q_t_point q_t_pointEnd q_t_first q_t_length q_t_up q_t_down q_t_height q_t_tape q_t_index q_t_newIndex q_t_trainFrom q_t_trainTo q_t_published t_thrown t_end t_points t_pieces t_lowUp t_lowDown t_highUp t_highDown t_taped t_size t_at t_fault t_place t_clauses t_limit t_near t_shareOne t_shareOf t_window t_storm t_indexMany t_newLimit t_newNear t_newOne t_newOf t_newWindow t_newStorm t_newMany t_began t_trains t_publishings t_readings t_many))) (va_Qi (fun r (_ : Unit) => r = o_r) (fun _ t => va_P D vwCl (W_37 ct q_t q_t_readings q_t_many q_t_joined q_t_finals q_t_when q_t_mean q_t_left q_t_ends q_t_measures q_t_pointTime q_t_point q_t_pointEnd q_t_first q_t_length q_t_up q_t_down q_t_height q_t_tape q_t_index q_t_newIndex q_t_trainFrom q_t_trainTo q_t_published t_thrown t_end t_points t_pieces t_lowUp t_lowDown t_highUp t_highDown t_taped t_size t_at t_fault t_place t_clauses t_limit t_near t_shareOne t_shareOf t_window t_storm t_indexMany t_newLimit t_newNear t_newOne t_newOf t_newWindow t_newStorm t_newMany t_began t_trains t_publishings t_readings t_many) t.heap) (va_A (W_37 ct q_t q_t_readings q_t_many q_t_joined q_t_finals q_t_when q_t_mean q_t_left q_t_ends q_t_measures q_t_pointTime q_t_point q_t_pointEnd q_t_first q_t_length q_t_up q_t_down q_t_height q_t_tape q_t_index q_t_newIndex q_t_trainFrom q_t_trainTo q_t_published t_thrown t_end t_points t_pieces t_lowUp t_lowDown t_highUp t_highDown t_taped t_size t_at t_fault t_place t_clauses t_limit t_near t_shareOne t_shareOf t_window t_storm t_indexMany t_newLimit t_newNear t_newOne t_newOf t_newWindow t_newStorm t_newMany t_began t_trains t_publishings t_readings t_many) sz)) 0 0 (va_A (W_37 ct q_t q_t_readings q_t_many q_t_joined q_t_finals q_t_when q_t_mean q_t_left q_t_ends q_t_measures q_t_pointTime q_t_point q_t_pointEnd q_t_first q_t_length q_t_up q_t_down q_t_height q_t_tape q_t_index q_t_newIndex q_t_trainFrom q_t_trainTo q_t_published t_thrown t_end t_points t_pieces t_lowUp t_lowDown t_highUp t_highDown t_taped t_size t_at t_fault t_place t_clauses t_limit t_near t_shareOne t_shareOf t_window t_storm t_indexMany t_newLimit t_newNear t_newOne t_newOf t_newWindow t_newStorm t_newMany t_began t_trains t_publishings t_readings t_many) sz) := by
  refine Met.ofW (cc := cX10_reading) (maxL := 5) (ret := (some .int)) (by decide) rfl ?_
  intro p e s m args below meth c s₁ B hml hv
  obtain ⟨rfl, hsz, hP, hE, hD0⟩ := hv
  have hx := B.exec
  have hb := B.bytes
  have hr := B.returns
  have hts := atoms_spec (ws := wvX10_reading) B.pre
  have hown : s.vm.findClass RX10 = some m.cls := findClass_of_methodNamed B.named
  have hlocks := B.notSynchronized
  subst hsz
  have hD := hD0.self (sz := s.heap.size)
  generalize hAe : va_A (W_37 ct q_t q_t_readings q_t_many q_t_joined q_t_finals q_t_when q_t_mean q_t_left q_t_ends q_t_measures q_t_pointTime q_t_point q_t_pointEnd q_t_first q_t_length q_t_up q_t_down q_t_height q_t_tape q_t_index q_t_newIndex q_t_trainFrom q_t_trainTo q_t_published t_thrown t_end t_points t_pieces t_lowUp t_lowDown t_highUp t_highDown t_taped t_size t_at t_fault t_place t_clauses t_limit t_near t_shareOne t_shareOf t_window t_storm t_indexMany t_newLimit t_newNear t_newOne t_newOf t_newWindow t_newStorm t_newMany t_began t_trains t_publishings t_readings t_many) s.heap.size = A at hD ⊢
  have hA : ∀ q : Nat, s.heap.size ≤ q → A q := fun q h => by rw [← hAe]; exact Or.inr h
  have hl := lv_entry ([.ref q_t, .int p1, .int p2, .int p3]) (n := 5) (Nat.le_of_ble_eq_true rfl)
  rw [lg_entry_eq]
  generalize (lg_sl ([.ref q_t, .int p1, .int p2, .int p3]) ++ List.replicate (5 - (lg_sl ([.ref q_t, .int p1, .int p2, .int p3])).length) Slot.unset).toArray = ls at hl ⊢
  have hl : lv_has ls 5 [(0, .ref q_t), (1, .int p1), (2, .int p2), (3, .int p3)] := hl
  have C0 : Cx RX10 cX10_reading 5 (some .int) wvX10_reading D ct A p s m ([.ref q_t, .int p1, .int p2, .int p3]).toArray meth c := ⟨hx, hb, hml, hown, hts, hr, hlocks, hE, hA⟩
  have hS : ∀ H : Heap, s.heap = H → va_S A s.heap H [] := fun H h => h ▸ va_S.rf
  generalize hH : s.heap = H at hP ⊢
  have hS := hS H hH
  unfold FX10_reading at hF
  refine lv_iload_n hx hb dX10_reading_0 rfl (lv_at hl 1 rfl) ?_
  refine lv_iload_n hx hb dX10_reading_1 rfl (lv_at hl 2 rfl) ?_
  obtain ⟨r1, h2, hF⟩ := ob1_ex hF
  refine xiR (va_runS (As := [.int p1, .int p2]) (rest := []) ⟨hx, hb, hml, hown, hts⟩ (met_X10_rowOf l D ct H.size p1 p2 n r1 h2) (va_cwS 2 hts (gqS CW10_good (List.mem_of_getElem? (i := 60) rfl) (List.mem_of_getElem? (i := 61) rfl) (List.mem_of_getElem? (i := 42) rfl) (gself CW10_good (List.mem_of_getElem? (i := 52) rfl))) rfl rfl rfl (by decide +kernel) ⟨Nat.le_of_ble_eq_true rfl, Nat.le_of_ble_eq_true rfl⟩) ⟨blind_, mkpre_ hE (hP.sub [] rfl) (hD.sub [] (by decide) rfl)⟩ rfl rfl hl.1 rfl (lv_room (Nat.le_of_ble_eq_true rfl)) dX10_reading_2 ⟨Nat.le_of_ble_eq_true rfl, Nat.le_of_ble_eq_true rfl⟩) hP hD hS hA [] rfl (fun H locs hP hD hS => ?_)
  refine lv_istore (lv' := [(4, .int r1), (0, .ref q_t), (1, .int p1), (2, .int p2), (3, .int p3)]) hx hb dX10_reading_5 hl (by decide) rfl (fun ls hl => ?_)
  refine lv_iload_n hx hb dX10_reading_7 rfl (lv_at hl 4 rfl) ?_
  refine lv_if_lt (tgt := 38) hx hb dX10_reading_8 (by decide) (fun c3 => ?_) (fun c3 => ?_)
  · have hF := ifT c3 hF
    refine lv_ldc hx hb hown (hts (.constant RX10 113 (-2000000000)) (List.mem_cons_of_mem _ (List.mem_of_getElem? (i := 39) rfl))) dX10_reading_38 ?_
    obtain rfl := Option.some.inj hF
    exact W.iret hx hb hr (fun t ht hW => ⟨⟨_, (), rfl, rfl, vaP_at ht hP⟩, hS.F ht⟩) hS.2.2 dX10_reading_40
  · have hF := ifF c3 hF
    refine lv_iload_n hx hb dX10_reading_11 rfl (lv_at hl 4 rfl) ?_
    refine lv_aload_n hx hb dX10_reading_12 rfl (lv_at hl 1 rfl) ?_
    refine va_get (D := D) (ci := 10) (v := .ref q_t_many) (C := RX10) (T := TX10) (N := 54) hx hb hts i_X10_reading_X10 hown hE.1 hP 0 rfl rfl 2 (by decide) (hts (.fieldLink RX10 13 "NeedleHouseModel" "many" "[I") (List.mem_cons_of_mem _ (List.mem_of_getElem? (i := 6) rfl))) (fun _ h9 => h9) rfl dX10_reading_13 ?_
    refine lv_iload hx hb dX10_reading_16 (lv_at hl 0 rfl) ?_
    obtain ⟨h4, hF⟩ := gd_ex hF
    refine va_iald hx hb hE.1 hP 2 0 rfl rfl h4 dX10_reading_18 ?_
    refine lv_icmp_ge (tgt := 38) hx hb dX10_reading_19 (by decide) (fun c5 => ?_) (fun c5 => ?_)
    · have hF := ifT c5 hF
      refine lv_ldc hx hb hown (hts (.constant RX10 113 (-2000000000)) (List.mem_cons_of_mem _ (List.mem_of_getElem? (i := 39) rfl))) dX10_reading_38 ?_
      obtain rfl := Option.some.inj hF
      exact W.iret hx hb hr (fun t ht hW => ⟨⟨_, (), rfl, rfl, vaP_at ht hP⟩, hS.F ht⟩) hS.2.2 dX10_reading_40
    · have hF := ifF c5 hF
      refine lv_aload_n hx hb dX10_reading_22 rfl (lv_at hl 1 rfl) ?_
      refine va_get (D := D) (ci := 10) (v := .ref q_t_readings) (C := RX10) (T := TX10) (N := 54) hx hb hts i_X10_reading_X10 hown hE.1 hP 0 rfl rfl 1 (by decide) (hts (.fieldLink RX10 9 "NeedleHouseModel" "readings" "[I") (List.mem_cons_of_mem _ (List.mem_of_getElem? (i := 5) rfl))) (fun _ h9 => h9) rfl dX10_reading_23 ?_
      refine lv_sipush (v := 300) hx hb dX10_reading_26 (by decide) ?_
      refine lv_iload hx hb dX10_reading_29 (lv_at hl 0 rfl) ?_
      refine lv_imul hx hb dX10_reading_31 ?_
      refine lv_iload_n hx hb dX10_reading_32 rfl (lv_at hl 4 rfl) ?_
      refine lv_iadd hx hb dX10_reading_33 ?_
      obtain ⟨h6, hF⟩ := gd_ex hF
      refine va_iald hx hb hE.1 hP 1 0 rfl rfl h6 dX10_reading_34 ?_
      refine lv_goto (tgt := 40) hx hb dX10_reading_35 (by decide) ?_
      obtain rfl := Option.some.inj hF
      exact W.iret hx hb hr (fun t ht hW => ⟨⟨_, (), rfl, rfl, vaP_at ht hP⟩, hS.F ht⟩) hS.2.2 dX10_reading_40
/-! NeedleHouseModel.at(III)I -/
set_option maxHeartbeats 4000000 in
set_option maxRecDepth 100000 in
theorem met_X10_at (l : Launch) (D : va_G) (ct : Nat → ClassId) (q_t : Nat) (q_t_readings : Nat) (q_t_many : Nat) (q_t_joined : Nat) (q_t_finals : Nat) (q_t_when : Nat) (q_t_mean : Nat) (q_t_left : Nat) (q_t_ends : Nat) (q_t_measures : Nat) (q_t_pointTime : Nat) (q_t_point : Nat) (q_t_pointEnd : Nat) (q_t_first : Nat) (q_t_length : Nat) (q_t_up : Nat) (q_t_down : Nat) (q_t_height : Nat) (q_t_tape : Nat) (q_t_index : Nat) (q_t_newIndex : Nat) (q_t_trainFrom : Nat) (q_t_trainTo : Nat) (q_t_published : Nat) (sz : Nat) (t_thrown : Int32) (t_end : Int32) (t_points : Int32) (t_pieces : Int32) (t_lowUp : Int64) (t_lowDown : Int64) (t_highUp : Int64) (t_highDown : Int64) (t_taped : Int32) (t_size : Int32) (t_at : Int32) (t_fault : Int32) (t_place : Int32) (t_clauses : Int32) (t_limit : Int32) (t_near : Int32) (t_shareOne : Int32) (t_shareOf : Int32) (t_window : Int32) (t_storm : Int32) (t_indexMany : Int32) (t_newLimit : Int32) (t_newNear : Int32) (t_newOne : Int32) (t_newOf : Int32) (t_newWindow : Int32) (t_newStorm : Int32) (t_newMany : Int32) (t_began : Int32) (t_trains : Int32) (t_publishings : Int32) (t_readings : Nat → Int32) (t_many : Nat → Int32) (p1 : Int32) (p2 : Int32) (p3 : Int32) (n : Nat) (o_r : Int32) (o_t_thrown : Int32) (hF : FX10_at n t_thrown t_readings t_many p1 p2 p3 = some (o_r, o_t_thrown)) : Met l yX10_at wvX10_at ({ frames := 2, cells := 0, slots := 0, locals := 45 } : Room) (va_Pc [.ref q_t, .int p1, .int p2, .int p3] (pre_ D ct sz (W_37 ct q_t q_t_readings q_t_many q_t_joined q_t_finals q_t_when q_t_mean q_t_left q_t_ends q_t_measures q_t_pointTime q_t_point q_t_pointEnd q_t_first q_t_length q_t_up q_t_down q_t_height q_t_tape q_t_index q_t_newIndex q_t_trainFrom q_t_trainTo q_t_published t_thrown t_end t_points t_pieces t_lowUp t_lowDown t_highUp t_highDown t_taped t_size t_at t_fault t_place t_clauses t_limit t_near t_shareOne t_shareOf t_window t_storm t_indexMany t_newLimit t_newNear t_newOne t_newOf t_newWindow t_newStorm t_newMany t_began t_trains t_publishings t_readings t_many))) (va_Qi (fun r (_ : Unit) => r = o_r) (fun _ t => va_P D vwCl (W_37 ct q_t q_t_readings q_t_many q_t_joined q_t_finals q_t_when q_t_mean q_t_left q_t_ends q_t_measures q_t_pointTime q_t_point q_t_pointEnd q_t_first q_t_length q_t_up q_t_down q_t_height q_t_tape q_t_index q_t_newIndex q_t_trainFrom q_t_trainTo q_t_published o_t_thrown t_end t_points t_pieces t_lowUp t_lowDown t_highUp t_highDown t_taped t_size t_at t_fault t_place t_clauses t_limit t_near t_shareOne t_shareOf t_window t_storm t_indexMany t_newLimit t_newNear t_newOne t_newOf t_newWindow t_newStorm t_newMany t_began t_trains t_publishings t_readings t_many) t.heap) (va_A (W_37 ct q_t q_t_readings q_t_many q_t_joined q_t_finals q_t_when q_t_mean q_t_left q_t_ends q_t_measures q_t_pointTime q_t_point q_t_pointEnd q_t_first q_t_length q_t_up q_t_down q_t_height q_t_tape q_t_index q_t_newIndex q_t_trainFrom q_t_trainTo q_t_published t_thrown t_end t_points t_pieces t_lowUp t_lowDown t_highUp t_highDown t_taped t_size t_at t_fault t_place t_clauses t_limit t_near t_shareOne t_shareOf t_window t_storm t_indexMany t_newLimit t_newNear t_newOne t_newOf t_newWindow t_newStorm t_newMany t_began t_trains t_publishings t_readings t_many) sz)) 0 0 (va_A (W_37 ct q_t q_t_readings q_t_many q_t_joined q_t_finals q_t_when q_t_mean q_t_left q_t_ends q_t_measures q_t_pointTime q_t_point q_t_pointEnd q_t_first q_t_length q_t_up q_t_down q_t_height q_t_tape q_t_index q_t_newIndex q_t_trainFrom q_t_trainTo q_t_published t_thrown t_end t_points t_pieces t_lowUp t_lowDown t_highUp t_highDown t_taped t_size t_at t_fault t_place t_clauses t_limit t_near t_shareOne t_shareOf t_window t_storm t_indexMany t_newLimit t_newNear t_newOne t_newOf t_newWindow t_newStorm t_newMany t_began t_trains t_publishings t_readings t_many) sz) := by
  refine Met.ofW (cc := cX10_at) (maxL := 4) (ret := (some .int)) (by decide) rfl ?_
  intro p e s m args below meth c s₁ B hml hv
  obtain ⟨rfl, hsz, hP, hE, hD0⟩ := hv
  have hx := B.exec
  have hb := B.bytes
  have hr := B.returns
  have hts := atoms_spec (ws := wvX10_at) B.pre
  have hown : s.vm.findClass RX10 = some m.cls := findClass_of_methodNamed B.named
  have hlocks := B.notSynchronized
  subst hsz
  have hD := hD0.self (sz := s.heap.size)
  generalize hAe : va_A (W_37 ct q_t q_t_readings q_t_many q_t_joined q_t_finals q_t_when q_t_mean q_t_left q_t_ends q_t_measures q_t_pointTime q_t_point q_t_pointEnd q_t_first q_t_length q_t_up q_t_down q_t_height q_t_tape q_t_index q_t_newIndex q_t_trainFrom q_t_trainTo q_t_published t_thrown t_end t_points t_pieces t_lowUp t_lowDown t_highUp t_highDown t_taped t_size t_at t_fault t_place t_clauses t_limit t_near t_shareOne t_shareOf t_window t_storm t_indexMany t_newLimit t_newNear t_newOne t_newOf t_newWindow t_newStorm t_newMany t_began t_trains t_publishings t_readings t_many) s.heap.size = A at hD ⊢
  have hA : ∀ q : Nat, s.heap.size ≤ q → A q := fun q h => by rw [← hAe]; exact Or.inr h
  have hl := lv_entry ([.ref q_t, .int p1, .int p2, .int p3]) (n := 4) (Nat.le_of_ble_eq_true rfl)
  rw [lg_entry_eq]
  generalize (lg_sl ([.ref q_t, .int p1, .int p2, .int p3]) ++ List.replicate (4 - (lg_sl ([.ref q_t, .int p1, .int p2, .int p3])).length) Slot.unset).toArray = ls at hl ⊢
  have hl : lv_has ls 4 [(0, .ref q_t), (1, .int p1), (2, .int p2), (3, .int p3)] := hl
  have C0 : Cx RX10 cX10_at 4 (some .int) wvX10_at D ct A p s m ([.ref q_t, .int p1, .int p2, .int p3]).toArray meth c := ⟨hx, hb, hml, hown, hts, hr, hlocks, hE, hA⟩
  have hS : ∀ H : Heap, s.heap = H → va_S A s.heap H [] := fun H h => h ▸ va_S.rf
  generalize hH : s.heap = H at hP ⊢
  have hS := hS H hH
  unfold FX10_at at hF
  refine lv_aload_n hx hb dX10_at_0 rfl (lv_at hl 0 rfl) ?_
  refine lv_iload_n hx hb dX10_at_1 rfl (lv_at hl 1 rfl) ?_
  refine lv_iload_n hx hb dX10_at_2 rfl (lv_at hl 2 rfl) ?_
  obtain ⟨r1, v2, h3, hF⟩ := ob2_ex hF
  refine xiM (ws1 := (W_37 ct q_t q_t_readings q_t_many q_t_joined q_t_finals q_t_when q_t_mean q_t_left q_t_ends q_t_measures q_t_pointTime q_t_point q_t_pointEnd q_t_first q_t_length q_t_up q_t_down q_t_height q_t_tape q_t_index q_t_newIndex q_t_trainFrom q_t_trainTo q_t_published v2 t_end t_points t_pieces t_lowUp t_lowDown t_highUp t_highDown t_taped t_size t_at t_fault t_place t_clauses t_limit t_near t_shareOne t_shareOf t_window t_storm t_indexMany t_newLimit t_newNear t_newOne t_newOf t_newWindow t_newStorm t_newMany t_began t_trains t_publishings t_readings t_many)) (va_runV (As := [.int p1, .int p2]) (rest := []) ⟨hx, hb, hml, hown, hts⟩ (met_X10_isRow l D ct q_t q_t_readings q_t_many q_t_joined q_t_finals q_t_when q_t_mean q_t_left q_t_ends q_t_measures q_t_pointTime q_t_point q_t_pointEnd q_t_first q_t_length q_t_up q_t_down q_t_height q_t_tape q_t_index q_t_newIndex q_t_trainFrom q_t_trainTo q_t_published H.size t_thrown t_end t_points t_pieces t_lowUp t_lowDown t_highUp t_highDown t_taped t_size t_at t_fault t_place t_clauses t_limit t_near t_shareOne t_shareOf t_window t_storm t_indexMany t_newLimit t_newNear t_newOne t_newOf t_newWindow t_newStorm t_newMany t_began t_trains t_publishings p1 p2 n r1 v2 h3) (cwV 2 hts (gqV CW10_good (List.mem_of_getElem? (i := 54) rfl) (List.mem_of_getElem? (i := 55) rfl) (List.mem_of_getElem? (i := 56) rfl) (List.mem_of_getElem? (i := 42) rfl) (gself CW10_good (List.mem_of_getElem? (i := 48) rfl))) rfl rfl rfl (by decide +kernel) ⟨Nat.le_of_ble_eq_true rfl, Nat.le_of_ble_eq_true rfl⟩) ⟨blind_, va_recv hE.1 hP (ci := 10) (q0 := 0) rfl rfl, mkpre_ hE (hP.sub [0] rfl) (hD.sub [0] (by decide) rfl)⟩ rfl rfl hl.1 rfl (lv_room (Nat.le_of_ble_eq_true rfl)) dX10_at_3 ⟨Nat.le_of_ble_eq_true rfl, Nat.le_of_ble_eq_true rfl⟩) hP hD hS hA [0] [1, 2] 3 rfl rfl rfl rfl (by decide) rfl (fun H locs hP hD hS => ?_)
  refine lv_if_eq (tgt := 19) hx hb dX10_at_6 (by decide) (fun c4 => ?_) (fun c4 => ?_)
  · have hF := ifT c4 hF
    refine lv_iconst (v := 0) hx hb dX10_at_19 (by decide) ?_
    obtain ⟨rfl, rfl⟩ := in2 hF
    exact W.iret hx hb hr (fun t ht hW => ⟨⟨_, (), rfl, rfl, vaP_at ht hP⟩, hS.F ht⟩) hS.2.2 dX10_at_20
  · have hF := ifF c4 hF
    refine lv_aload_n hx hb dX10_at_9 rfl (lv_at hl 0 rfl) ?_
    refine lv_iload_n hx hb dX10_at_10 rfl (lv_at hl 1 rfl) ?_
    refine lv_iload_n hx hb dX10_at_11 rfl (lv_at hl 2 rfl) ?_
    refine lv_iload_n hx hb dX10_at_12 rfl (lv_at hl 3 rfl) ?_
    obtain ⟨r5, h6, hF⟩ := ob1_ex hF
    refine xiR (va_runV (As := [.int p1, .int p2, .int p3]) (rest := []) ⟨hx, hb, hml, hown, hts⟩ (met_X10_reading l D ct q_t q_t_readings q_t_many q_t_joined q_t_finals q_t_when q_t_mean q_t_left q_t_ends q_t_measures q_t_pointTime q_t_point q_t_pointEnd q_t_first q_t_length q_t_up q_t_down q_t_height q_t_tape q_t_index q_t_newIndex q_t_trainFrom q_t_trainTo q_t_published H.size v2 t_end t_points t_pieces t_lowUp t_lowDown t_highUp t_highDown t_taped t_size t_at t_fault t_place t_clauses t_limit t_near t_shareOne t_shareOf t_window t_storm t_indexMany t_newLimit t_newNear t_newOne t_newOf t_newWindow t_newStorm t_newMany t_began t_trains t_publishings t_readings t_many p1 p2 p3 n r5 h6) (cwV 3 hts (gqV CW10_good (List.mem_of_getElem? (i := 65) rfl) (List.mem_of_getElem? (i := 66) rfl) (List.mem_of_getElem? (i := 67) rfl) (List.mem_of_getElem? (i := 42) rfl) (gself CW10_good (List.mem_of_getElem? (i := 63) rfl))) rfl rfl rfl (by decide +kernel) ⟨Nat.le_of_ble_eq_true rfl, Nat.le_of_ble_eq_true rfl⟩) ⟨blind_, va_recv hE.1 hP (ci := 10) (q0 := 0) rfl rfl, mkpre_ hE hP hD⟩ rfl rfl hl.1 rfl (lv_room (Nat.le_of_ble_eq_true rfl)) dX10_at_13 ⟨Nat.le_of_ble_eq_true rfl, Nat.le_of_ble_eq_true rfl⟩) hP hD hS hA [0, 1, 2] rfl (fun H locs hP hD hS => ?_)
    refine lv_goto (tgt := 20) hx hb dX10_at_16 (by decide) ?_
    obtain ⟨rfl, rfl⟩ := in2 hF
    exact W.iret hx hb hr (fun t ht hW => ⟨⟨_, (), rfl, rfl, vaP_at ht hP⟩, hS.F ht⟩) hS.2.2 dX10_at_20
/-! NeedleHouseModel.shift(IIII)I -/
theorem i_X10_shift_X10 : ∀ w ∈ wsX100, w ∈ wvX10_shift := fun w h => List.mem_cons_of_mem _ (iCW10_X10 w h)
set_option maxHeartbeats 4000000 in
set_option maxRecDepth 100000 in
theorem jX10_shift_129 {p : Program} {l : Launch} {e : Env} {s : State} {m : MethodId} {args : Array Value} {below : List Frame} {meth : Method} {c : Code} {D : va_G} {ct : Nat → ClassId} {A : Nat → Prop} {q_t q_t_readings q_t_many q_t_joined q_t_finals q_t_when q_t_mean q_t_left q_t_ends q_t_measures q_t_pointTime q_t_point q_t_pointEnd q_t_first q_t_length q_t_up q_t_down q_t_height q_t_tape q_t_index q_t_newIndex q_t_trainFrom q_t_trainTo q_t_published : Nat} {t_end : Int32} {t_points : Int32} {t_pieces : Int32} {t_lowUp : Int64} {t_lowDown : Int64} {t_highUp : Int64} {t_highDown : Int64} {t_taped : Int32} {t_size : Int32} {t_at : Int32} {t_fault : Int32} {t_place : Int32} {t_clauses : Int32} {t_limit : Int32} {t_near : Int32} {t_shareOne : Int32} {t_shareOf : Int32} {t_window : Int32} {t_storm : Int32} {t_indexMany : Int32} {t_newLimit : Int32} {t_newNear : Int32} {t_newOne : Int32} {t_newOf : Int32} {t_newWindow : Int32} {t_newStorm : Int32} {t_newMany : Int32} {t_began : Int32} {t_trains : Int32} {t_publishings : Int32} {t_many : Nat → Int32} {o_r : Int32} {o_t_thrown : Int32} {o_t_readings : Nat → Int32} (C0 : Cx RX10 cX10_shift 9 (some .int) wvX10_shift D ct A p s m args meth c) (k129 : Int32 → (Nat → Int32) → (Nat → Int32) → Int32 → Int32 → Int32 → Int32 → Option (Int32 × Int32 × (Nat → Int32))) (hk129 : ∀ (t_thrown : Int32) (t_readings : Nat → Int32) (x_4 : Int32) (x_5 : Int32) (x_6 : Int32) (x_7 : Int32) (H : Heap) (locs : List Loc) (ls : Array Slot), k129 t_thrown t_readings t_many x_4 x_5 x_6 x_7 = some (o_r, o_t_thrown, o_t_readings) → va_P D vwCl (W_37 ct q_t q_t_readings q_t_many q_t_joined q_t_finals q_t_when q_t_mean q_t_left q_t_ends q_t_measures q_t_pointTime q_t_point q_t_pointEnd q_t_first q_t_length q_t_up q_t_down q_t_height q_t_tape q_t_index q_t_newIndex q_t_trainFrom q_t_trainTo q_t_published t_thrown t_end t_points t_pieces t_lowUp t_lowDown t_highUp t_highDown t_taped t_size t_at t_fault t_place t_clauses t_limit t_near t_shareOne t_shareOf t_window t_storm t_indexMany t_newLimit t_newNear t_newOne t_newOf t_newWindow t_newStorm t_newMany t_began t_trains t_publishings t_readings t_many) H → va_D A (W_37 ct q_t q_t_readings q_t_many q_t_joined q_t_finals q_t_when q_t_mean q_t_left q_t_ends q_t_measures q_t_pointTime q_t_point q_t_pointEnd q_t_first q_t_length q_t_up q_t_down q_t_height q_t_tape q_t_index q_t_newIndex q_t_trainFrom q_t_trainTo q_t_published t_thrown t_end t_points t_pieces t_lowUp t_lowDown t_highUp t_highDown t_taped t_size t_at t_fault t_place t_clauses t_limit t_near t_shareOne t_shareOf t_window t_storm t_indexMany t_newLimit t_newNear t_newOne t_newOf t_newWindow t_newStorm t_newMany t_began t_trains t_publishings t_readings t_many) → va_S A s.heap H locs → lv_has ls 9 [(0, .ref q_t), (4, .int x_4), (5, .int x_5), (6, .int x_6), (7, .int x_7)] → W p l e ({ frames := 2, cells := 0, slots := 0, locals := 43 } : Room) s m args below meth c H locs 0 0 (MQ below (va_Qi (fun r (_ : Unit) => r = o_r) (fun _ t => va_P D vwCl (W_37 ct q_t q_t_readings q_t_many q_t_joined q_t_finals q_t_when q_t_mean q_t_left q_t_ends q_t_measures q_t_pointTime q_t_point q_t_pointEnd q_t_first q_t_length q_t_up q_t_down q_t_height q_t_tape q_t_index q_t_newIndex q_t_trainFrom q_t_trainTo q_t_published o_t_thrown t_end t_points t_pieces t_lowUp t_lowDown t_highUp t_highDown t_taped t_size t_at t_fault t_place t_clauses t_limit t_near t_shareOne t_shareOf t_window t_storm t_indexMany t_newLimit t_newNear t_newOne t_newOf t_newWindow t_newStorm t_newMany t_began t_trains t_publishings o_t_readings t_many) t.heap) A) args s 0 0 A) (F0 m 129 ls [])) (n : Nat) (t_thrown : Int32) (t_readings : Nat → Int32) (x_4 : Int32) (x_5 : Int32) (x_6 : Int32) (x_7 : Int32) (H : Heap) (locs : List Loc) (ls : Array Slot) : JX10_shift_129 k129 n t_thrown t_readings t_many x_4 x_5 x_6 x_7 = some (o_r, o_t_thrown, o_t_readings) → va_P D vwCl (W_37 ct q_t q_t_readings q_t_many q_t_joined q_t_finals q_t_when q_t_mean q_t_left q_t_ends q_t_measures q_t_pointTime q_t_point q_t_pointEnd q_t_first q_t_length q_t_up q_t_down q_t_height q_t_tape q_t_index q_t_newIndex q_t_trainFrom q_t_trainTo q_t_published t_thrown t_end t_points t_pieces t_lowUp t_lowDown t_highUp t_highDown t_taped t_size t_at t_fault t_place t_clauses t_limit t_near t_shareOne t_shareOf t_window t_storm t_indexMany t_newLimit t_newNear t_newOne t_newOf t_newWindow t_newStorm t_newMany t_began t_trains t_publishings t_readings t_many) H → va_D A (W_37 ct q_t q_t_readings q_t_many q_t_joined q_t_finals q_t_when q_t_mean q_t_left q_t_ends q_t_measures q_t_pointTime q_t_point q_t_pointEnd q_t_first q_t_length q_t_up q_t_down q_t_height q_t_tape q_t_index q_t_newIndex q_t_trainFrom q_t_trainTo q_t_published t_thrown t_end t_points t_pieces t_lowUp t_lowDown t_highUp t_highDown t_taped t_size t_at t_fault t_place t_clauses t_limit t_near t_shareOne t_shareOf t_window t_storm t_indexMany t_newLimit t_newNear t_newOne t_newOf t_newWindow t_newStorm t_newMany t_began t_trains t_publishings t_readings t_many) → va_S A s.heap H locs → lv_has ls 9 [(0, .ref q_t), (4, .int x_4), (5, .int x_5), (6, .int x_6), (7, .int x_7)] → W p l e ({ frames := 2, cells := 0, slots := 0, locals := 43 } : Room) s m args below meth c H locs 0 0 (MQ below (va_Qi (fun r (_ : Unit) => r = o_r) (fun _ t => va_P D vwCl (W_37 ct q_t q_t_readings q_t_many q_t_joined q_t_finals q_t_when q_t_mean q_t_left q_t_ends q_t_measures q_t_pointTime q_t_point q_t_pointEnd q_t_first q_t_length q_t_up q_t_down q_t_height q_t_tape q_t_index q_t_newIndex q_t_trainFrom q_t_trainTo q_t_published o_t_thrown t_end t_points t_pieces t_lowUp t_lowDown t_highUp t_highDown t_taped t_size t_at t_fault t_place t_clauses t_limit t_near t_shareOne t_shareOf t_window t_storm t_indexMany t_newLimit t_newNear t_newOne t_newOf t_newWindow t_newStorm t_newMany t_began t_trains t_publishings o_t_readings t_many) t.heap) A) args s 0 0 A) (F0 m 129 ls []) := by
  intro hF hP hD hS hl
  obtain ⟨hx, hb, hml, hown, hts, hr, hlocks, hE, hA⟩ := id C0
  unfold JX10_shift_129 at hF
  refine lv_iload hx hb dX10_shift_129 (lv_at hl 4 rfl) ?_
  refine lv_aload_n hx hb dX10_shift_131 rfl (lv_at hl 0 rfl) ?_
  refine va_get (D := D) (ci := 10) (v := .ref q_t_many) (C := RX10) (T := TX10) (N := 54) hx hb hts i_X10_shift_X10 hown hE.1 hP 0 rfl rfl 2 (by decide) (hts (.fieldLink RX10 13 "NeedleHouseModel" "many" "[I") (List.mem_cons_of_mem _ (List.mem_of_getElem? (i := 6) rfl))) (fun _ h9 => h9) rfl dX10_shift_132 ?_
  refine lv_iload hx hb dX10_shift_135 (lv_at hl 2 rfl) ?_
  obtain ⟨h30, hF⟩ := gd_ex hF
  refine va_iald hx hb hE.1 hP 2 0 rfl rfl h30 dX10_shift_137 ?_
  refine lv_icmp_ge (tgt := 185) hx hb dX10_shift_138 (by decide) (fun c31 => ?_) (fun c31 => ?_)
  · have hF := ifT c31 hF
    refine lv_iload hx hb dX10_shift_185 (lv_at hl 3 rfl) ?_
    obtain ⟨rfl, rfl, rfl⟩ := in3 hF
    exact W.iret hx hb hr (fun t ht hW => ⟨⟨_, (), rfl, rfl, vaP_at ht hP⟩, hS.F ht⟩) hS.2.2 dX10_shift_187
  · have hF := ifF c31 hF
    refine lv_aload_n hx hb dX10_shift_141 rfl (lv_at hl 0 rfl) ?_
    refine va_get (D := D) (ci := 10) (v := .ref q_t_readings) (C := RX10) (T := TX10) (N := 54) hx hb hts i_X10_shift_X10 hown hE.1 hP 0 rfl rfl 1 (by decide) (hts (.fieldLink RX10 9 "NeedleHouseModel" "readings" "[I") (List.mem_cons_of_mem _ (List.mem_of_getElem? (i := 5) rfl))) (fun _ h9 => h9) rfl dX10_shift_142 ?_
    refine lv_sipush (v := 300) hx hb dX10_shift_145 (by decide) ?_
    refine lv_iload hx hb dX10_shift_148 (lv_at hl 2 rfl) ?_
    refine lv_imul hx hb dX10_shift_150 ?_
    refine lv_iload hx hb dX10_shift_151 (lv_at hl 4 rfl) ?_
    refine lv_iadd hx hb dX10_shift_153 ?_
    obtain ⟨h32, hF⟩ := gd_ex hF
    refine va_iald hx hb hE.1 hP 1 0 rfl rfl h32 dX10_shift_154 ?_
    refine lv_ldc hx hb hown (hts (.constant RX10 113 (-2000000000)) (List.mem_cons_of_mem _ (List.mem_of_getElem? (i := 39) rfl))) dX10_shift_155 ?_
    refine lv_icmp_eq (tgt := 179) hx hb dX10_shift_157 (by decide) (fun c33 => ?_) (fun c33 => ?_)
    · have hF := ifT c33 hF
      obtain ⟨x34, ex34⟩ : ∃ y : Int32, y = x_7 + 1 := ⟨_, rfl⟩
      refine lv_iinc (v := x34) (lv' := [(7, .int x34), (0, .ref q_t), (4, .int x_4), (5, .int x_5), (6, .int x_6)]) hx hb dX10_shift_179 hl (k := 4) rfl (by rw [ex34]; rfl) (by decide) rfl (fun ls hl => ?_)
      have hF := bn_as ex34 hF
      refine lv_goto (tgt := 129) hx hb dX10_shift_182 (by decide) ?_
      exact hk129 t_thrown t_readings x_4 x_5 x_6 x34 _ _ _ hF hP hD hS (lv_sub hl [1, 2, 3, 4, 0] rfl)
    · have hF := ifF c33 hF
      refine lv_aload_n hx hb dX10_shift_160 rfl (lv_at hl 0 rfl) ?_
      refine va_get (D := D) (ci := 10) (v := .ref q_t_readings) (C := RX10) (T := TX10) (N := 54) hx hb hts i_X10_shift_X10 hown hE.1 hP 0 rfl rfl 1 (by decide) (hts (.fieldLink RX10 9 "NeedleHouseModel" "readings" "[I") (List.mem_cons_of_mem _ (List.mem_of_getElem? (i := 5) rfl))) (fun _ h9 => h9) rfl dX10_shift_161 ?_
      refine lv_sipush (v := 300) hx hb dX10_shift_164 (by decide) ?_
      refine lv_iload hx hb dX10_shift_167 (lv_at hl 2 rfl) ?_
      refine lv_imul hx hb dX10_shift_169 ?_
      refine lv_iload hx hb dX10_shift_170 (lv_at hl 4 rfl) ?_
      refine lv_iadd hx hb dX10_shift_172 ?_
      refine lv_dup2_11 hx hb dX10_shift_173 rfl rfl ?_
      obtain ⟨h35, hF⟩ := gd_ex hF
      refine va_iald hx hb hE.1 hP 1 0 rfl rfl h35 dX10_shift_174 ?_
      refine lv_iload hx hb dX10_shift_175 (lv_at hl 1 rfl) ?_
      refine lv_iadd hx hb dX10_shift_177 ?_
      obtain ⟨h36, hF⟩ := gd_ex hF
      obtain ⟨f37, ef37, hF⟩ := bn_ex hF
      refine va_iast hx hb hE.1 hP hD hS 1 0 rfl rfl h36 dX10_shift_178 (fun H locs hP hD hS => ?_)
      have hP : va_P D vwCl (W_37 ct q_t q_t_readings q_t_many q_t_joined q_t_finals q_t_when q_t_mean q_t_left q_t_ends q_t_measures q_t_pointTime q_t_point q_t_pointEnd q_t_first q_t_length q_t_up q_t_down q_t_height q_t_tape q_t_index q_t_newIndex q_t_trainFrom q_t_trainTo q_t_published t_thrown t_end t_points t_pieces t_lowUp t_lowDown t_highUp t_highDown t_taped t_size t_at t_fault t_place t_clauses t_limit t_near t_shareOne t_shareOf t_window t_storm t_indexMany t_newLimit t_newNear t_newOne t_newOf t_newWindow t_newStorm t_newMany t_began t_trains t_publishings f37 t_many) H := by rw [ef37]; exact hP
      have hD : va_D A (W_37 ct q_t q_t_readings q_t_many q_t_joined q_t_finals q_t_when q_t_mean q_t_left q_t_ends q_t_measures q_t_pointTime q_t_point q_t_pointEnd q_t_first q_t_length q_t_up q_t_down q_t_height q_t_tape q_t_index q_t_newIndex q_t_trainFrom q_t_trainTo q_t_published t_thrown t_end t_points t_pieces t_lowUp t_lowDown t_highUp t_highDown t_taped t_size t_at t_fault t_place t_clauses t_limit t_near t_shareOne t_shareOf t_window t_storm t_indexMany t_newLimit t_newNear t_newOne t_newOf t_newWindow t_newStorm t_newMany t_began t_trains t_publishings f37 t_many) := by rw [ef37]; exact hD
      obtain ⟨x38, ex38⟩ : ∃ y : Int32, y = x_7 + 1 := ⟨_, rfl⟩
      refine lv_iinc (v := x38) (lv' := [(7, .int x38), (0, .ref q_t), (4, .int x_4), (5, .int x_5), (6, .int x_6)]) hx hb dX10_shift_179 hl (k := 4) rfl (by rw [ex38]; rfl) (by decide) rfl (fun ls hl => ?_)
      have hF := bn_as ex38 hF
      refine lv_goto (tgt := 129) hx hb dX10_shift_182 (by decide) ?_
      exact hk129 t_thrown f37 x_4 x_5 x_6 x38 _ _ _ hF hP hD hS (lv_sub hl [1, 2, 3, 4, 0] rfl)
theorem lX10_shift_129 {p : Program} {l : Launch} {e : Env} {s : State} {m : MethodId} {args : Array Value} {below : List Frame} {meth : Method} {c : Code} {D : va_G} {ct : Nat → ClassId} {A : Nat → Prop} {q_t q_t_readings q_t_many q_t_joined q_t_finals q_t_when q_t_mean q_t_left q_t_ends q_t_measures q_t_pointTime q_t_point q_t_pointEnd q_t_first q_t_length q_t_up q_t_down q_t_height q_t_tape q_t_index q_t_newIndex q_t_trainFrom q_t_trainTo q_t_published : Nat} {t_end : Int32} {t_points : Int32} {t_pieces : Int32} {t_lowUp : Int64} {t_lowDown : Int64} {t_highUp : Int64} {t_highDown : Int64} {t_taped : Int32} {t_size : Int32} {t_at : Int32} {t_fault : Int32} {t_place : Int32} {t_clauses : Int32} {t_limit : Int32} {t_near : Int32} {t_shareOne : Int32} {t_shareOf : Int32} {t_window : Int32} {t_storm : Int32} {t_indexMany : Int32} {t_newLimit : Int32} {t_newNear : Int32} {t_newOne : Int32} {t_newOf : Int32} {t_newWindow : Int32} {t_newStorm : Int32} {t_newMany : Int32} {t_began : Int32} {t_trains : Int32} {t_publishings : Int32} {t_many : Nat → Int32} {o_r : Int32} {o_t_thrown : Int32} {o_t_readings : Nat → Int32} (C0 : Cx RX10 cX10_shift 9 (some .int) wvX10_shift D ct A p s m args meth c) : ∀ (n : Nat) (t_thrown : Int32) (t_readings : Nat → Int32) (x_4 : Int32) (x_5 : Int32) (x_6 : Int32) (x_7 : Int32) (H : Heap) (locs : List Loc) (ls : Array Slot), LX10_shift_129 n t_thrown t_readings t_many x_4 x_5 x_6 x_7 = some (o_r, o_t_thrown, o_t_readings) → va_P D vwCl (W_37 ct q_t q_t_readings q_t_many q_t_joined q_t_finals q_t_when q_t_mean q_t_left q_t_ends q_t_measures q_t_pointTime q_t_point q_t_pointEnd q_t_first q_t_length q_t_up q_t_down q_t_height q_t_tape q_t_index q_t_newIndex q_t_trainFrom q_t_trainTo q_t_published t_thrown t_end t_points t_pieces t_lowUp t_lowDown t_highUp t_highDown t_taped t_size t_at t_fault t_place t_clauses t_limit t_near t_shareOne t_shareOf t_window t_storm t_indexMany t_newLimit t_newNear t_newOne t_newOf t_newWindow t_newStorm t_newMany t_began t_trains t_publishings t_readings t_many) H → va_D A (W_37 ct q_t q_t_readings q_t_many q_t_joined q_t_finals q_t_when q_t_mean q_t_left q_t_ends q_t_measures q_t_pointTime q_t_point q_t_pointEnd q_t_first q_t_length q_t_up q_t_down q_t_height q_t_tape q_t_index q_t_newIndex q_t_trainFrom q_t_trainTo q_t_published t_thrown t_end t_points t_pieces t_lowUp t_lowDown t_highUp t_highDown t_taped t_size t_at t_fault t_place t_clauses t_limit t_near t_shareOne t_shareOf t_window t_storm t_indexMany t_newLimit t_newNear t_newOne t_newOf t_newWindow t_newStorm t_newMany t_began t_trains t_publishings t_readings t_many) → va_S A s.heap H locs → lv_has ls 9 [(0, .ref q_t), (4, .int x_4), (5, .int x_5), (6, .int x_6), (7, .int x_7)] → W p l e ({ frames := 2, cells := 0, slots := 0, locals := 43 } : Room) s m args below meth c H locs 0 0 (MQ below (va_Qi (fun r (_ : Unit) => r = o_r) (fun _ t => va_P D vwCl (W_37 ct q_t q_t_readings q_t_many q_t_joined q_t_finals q_t_when q_t_mean q_t_left q_t_ends q_t_measures q_t_pointTime q_t_point q_t_pointEnd q_t_first q_t_length q_t_up q_t_down q_t_height q_t_tape q_t_index q_t_newIndex q_t_trainFrom q_t_trainTo q_t_published o_t_thrown t_end t_points t_pieces t_lowUp t_lowDown t_highUp t_highDown t_taped t_size t_at t_fault t_place t_clauses t_limit t_near t_shareOne t_shareOf t_window t_storm t_indexMany t_newLimit t_newNear t_newOne t_newOf t_newWindow t_newStorm t_newMany t_began t_trains t_publishings o_t_readings t_many) t.heap) A) args s 0 0 A) (F0 m 129 ls []) := by
  intro n
  induction n with
  | zero => intro t_thrown t_readings x_4 x_5 x_6 x_7 H locs ls hF; exact nomatch (show (none : Option (Int32 × Int32 × (Nat → Int32))) = _ from hF)
  | succ n ih => intro t_thrown t_readings x_4 x_5 x_6 x_7 H locs ls hF; exact jX10_shift_129 C0 (LX10_shift_129 n) ih n t_thrown t_readings x_4 x_5 x_6 x_7 H locs ls hF
set_option maxHeartbeats 4000000 in
set_option maxRecDepth 100000 in
theorem jX10_shift_55 {p : Program} {l : Launch} {e : Env} {s : State} {m : MethodId} {args : Array Value} {below : List Frame} {meth : Method} {c : Code} {D : va_G} {ct : Nat → ClassId} {A : Nat → Prop} {q_t q_t_readings q_t_many q_t_joined q_t_finals q_t_when q_t_mean q_t_left q_t_ends q_t_measures q_t_pointTime q_t_point q_t_pointEnd q_t_first q_t_length q_t_up q_t_down q_t_height q_t_tape q_t_index q_t_newIndex q_t_trainFrom q_t_trainTo q_t_published : Nat} {t_end : Int32} {t_points : Int32} {t_pieces : Int32} {t_lowUp : Int64} {t_lowDown : Int64} {t_highUp : Int64} {t_highDown : Int64} {t_taped : Int32} {t_size : Int32} {t_at : Int32} {t_fault : Int32} {t_place : Int32} {t_clauses : Int32} {t_limit : Int32} {t_near : Int32} {t_shareOne : Int32} {t_shareOf : Int32} {t_window : Int32} {t_storm : Int32} {t_indexMany : Int32} {t_newLimit : Int32} {t_newNear : Int32} {t_newOne : Int32} {t_newOf : Int32} {t_newWindow : Int32} {t_newStorm : Int32} {t_newMany : Int32} {t_began : Int32} {t_trains : Int32} {t_publishings : Int32} {t_many : Nat → Int32} {o_r : Int32} {o_t_thrown : Int32} {o_t_readings : Nat → Int32} (C0 : Cx RX10 cX10_shift 9 (some .int) wvX10_shift D ct A p s m args meth c) (k55 : Int32 → (Nat → Int32) → (Nat → Int32) → Int32 → Int32 → Int32 → Int32 → Int32 → Option (Int32 × Int32 × (Nat → Int32))) (hk55 : ∀ (t_thrown : Int32) (t_readings : Nat → Int32) (x_3 : Int32) (x_4 : Int32) (x_5 : Int32) (x_6 : Int32) (x_7 : Int32) (H : Heap) (locs : List Loc) (ls : Array Slot), k55 t_thrown t_readings t_many x_3 x_4 x_5 x_6 x_7 = some (o_r, o_t_thrown, o_t_readings) → va_P D vwCl (W_37 ct q_t q_t_readings q_t_many q_t_joined q_t_finals q_t_when q_t_mean q_t_left q_t_ends q_t_measures q_t_pointTime q_t_point q_t_pointEnd q_t_first q_t_length q_t_up q_t_down q_t_height q_t_tape q_t_index q_t_newIndex q_t_trainFrom q_t_trainTo q_t_published t_thrown t_end t_points t_pieces t_lowUp t_lowDown t_highUp t_highDown t_taped t_size t_at t_fault t_place t_clauses t_limit t_near t_shareOne t_shareOf t_window t_storm t_indexMany t_newLimit t_newNear t_newOne t_newOf t_newWindow t_newStorm t_newMany t_began t_trains t_publishings t_readings t_many) H → va_D A (W_37 ct q_t q_t_readings q_t_many q_t_joined q_t_finals q_t_when q_t_mean q_t_left q_t_ends q_t_measures q_t_pointTime q_t_point q_t_pointEnd q_t_first q_t_length q_t_up q_t_down q_t_height q_t_tape q_t_index q_t_newIndex q_t_trainFrom q_t_trainTo q_t_published t_thrown t_end t_points t_pieces t_lowUp t_lowDown t_highUp t_highDown t_taped t_size t_at t_fault t_place t_clauses t_limit t_near t_shareOne t_shareOf t_window t_storm t_indexMany t_newLimit t_newNear t_newOne t_newOf t_newWindow t_newStorm t_newMany t_began t_trains t_publishings t_readings t_many) → va_S A s.heap H locs → lv_has ls 9 [(0, .ref q_t), (3, .int x_3), (4, .int x_4), (5, .int x_5), (6, .int x_6), (7, .int x_7)] → W p l e ({ frames := 2, cells := 0, slots := 0, locals := 43 } : Room) s m args below meth c H locs 0 0 (MQ below (va_Qi (fun r (_ : Unit) => r = o_r) (fun _ t => va_P D vwCl (W_37 ct q_t q_t_readings q_t_many q_t_joined q_t_finals q_t_when q_t_mean q_t_left q_t_ends q_t_measures q_t_pointTime q_t_point q_t_pointEnd q_t_first q_t_length q_t_up q_t_down q_t_height q_t_tape q_t_index q_t_newIndex q_t_trainFrom q_t_trainTo q_t_published o_t_thrown t_end t_points t_pieces t_lowUp t_lowDown t_highUp t_highDown t_taped t_size t_at t_fault t_place t_clauses t_limit t_near t_shareOne t_shareOf t_window t_storm t_indexMany t_newLimit t_newNear t_newOne t_newOf t_newWindow t_newStorm t_newMany t_began t_trains t_publishings o_t_readings t_many) t.heap) A) args s 0 0 A) (F0 m 55 ls [])) (n : Nat) (t_thrown : Int32) (t_readings : Nat → Int32) (x_3 : Int32) (x_4 : Int32) (x_5 : Int32) (x_6 : Int32) (x_7 : Int32) (H : Heap) (locs : List Loc) (ls : Array Slot) : JX10_shift_55 k55 n t_thrown t_readings t_many x_3 x_4 x_5 x_6 x_7 = some (o_r, o_t_thrown, o_t_readings) → va_P D vwCl (W_37 ct q_t q_t_readings q_t_many q_t_joined q_t_finals q_t_when q_t_mean q_t_left q_t_ends q_t_measures q_t_pointTime q_t_point q_t_pointEnd q_t_first q_t_length q_t_up q_t_down q_t_height q_t_tape q_t_index q_t_newIndex q_t_trainFrom q_t_trainTo q_t_published t_thrown t_end t_points t_pieces t_lowUp t_lowDown t_highUp t_highDown t_taped t_size t_at t_fault t_place t_clauses t_limit t_near t_shareOne t_shareOf t_window t_storm t_indexMany t_newLimit t_newNear t_newOne t_newOf t_newWindow t_newStorm t_newMany t_began t_trains t_publishings t_readings t_many) H → va_D A (W_37 ct q_t q_t_readings q_t_many q_t_joined q_t_finals q_t_when q_t_mean q_t_left q_t_ends q_t_measures q_t_pointTime q_t_point q_t_pointEnd q_t_first q_t_length q_t_up q_t_down q_t_height q_t_tape q_t_index q_t_newIndex q_t_trainFrom q_t_trainTo q_t_published t_thrown t_end t_points t_pieces t_lowUp t_lowDown t_highUp t_highDown t_taped t_size t_at t_fault t_place t_clauses t_limit t_near t_shareOne t_shareOf t_window t_storm t_indexMany t_newLimit t_newNear t_newOne t_newOf t_newWindow t_newStorm t_newMany t_began t_trains t_publishings t_readings t_many) → va_S A s.heap H locs → lv_has ls 9 [(0, .ref q_t), (3, .int x_3), (4, .int x_4), (5, .int x_5), (6, .int x_6), (7, .int x_7)] → W p l e ({ frames := 2, cells := 0, slots := 0, locals := 43 } : Room) s m args below meth c H locs 0 0 (MQ below (va_Qi (fun r (_ : Unit) => r = o_r) (fun _ t => va_P D vwCl (W_37 ct q_t q_t_readings q_t_many q_t_joined q_t_finals q_t_when q_t_mean q_t_left q_t_ends q_t_measures q_t_pointTime q_t_point q_t_pointEnd q_t_first q_t_length q_t_up q_t_down q_t_height q_t_tape q_t_index q_t_newIndex q_t_trainFrom q_t_trainTo q_t_published o_t_thrown t_end t_points t_pieces t_lowUp t_lowDown t_highUp t_highDown t_taped t_size t_at t_fault t_place t_clauses t_limit t_near t_shareOne t_shareOf t_window t_storm t_indexMany t_newLimit t_newNear t_newOne t_newOf t_newWindow t_newStorm t_newMany t_began t_trains t_publishings o_t_readings t_many) t.heap) A) args s 0 0 A) (F0 m 55 ls []) := by
  intro hF hP hD hS hl
  obtain ⟨hx, hb, hml, hown, hts, hr, hlocks, hE, hA⟩ := id C0
  unfold JX10_shift_55 at hF
  refine lv_iload hx hb dX10_shift_55 (lv_at hl 5 rfl) ?_
  refine lv_aload_n hx hb dX10_shift_57 rfl (lv_at hl 0 rfl) ?_
  refine va_get (D := D) (ci := 10) (v := .ref q_t_many) (C := RX10) (T := TX10) (N := 54) hx hb hts i_X10_shift_X10 hown hE.1 hP 0 rfl rfl 2 (by decide) (hts (.fieldLink RX10 13 "NeedleHouseModel" "many" "[I") (List.mem_cons_of_mem _ (List.mem_of_getElem? (i := 6) rfl))) (fun _ h9 => h9) rfl dX10_shift_58 ?_
  refine lv_iload hx hb dX10_shift_61 (lv_at hl 3 rfl) ?_
  obtain ⟨h20, hF⟩ := gd_ex hF
  refine va_iald hx hb hE.1 hP 2 0 rfl rfl h20 dX10_shift_63 ?_
  refine lv_icmp_ge (tgt := 126) hx hb dX10_shift_64 (by decide) (fun c21 => ?_) (fun c21 => ?_)
  · have hF := ifT c21 hF
    refine lv_iload_n hx hb dX10_shift_126 rfl (lv_at hl 1 rfl) ?_
    refine lv_istore (lv' := [(7, .int x_3), (0, .ref q_t), (3, .int x_3), (4, .int x_4), (5, .int x_5), (6, .int x_6)]) hx hb dX10_shift_127 hl (by decide) rfl (fun ls hl => ?_)
    exact lX10_shift_129 C0 n t_thrown t_readings x_4 x_5 x_6 x_3 _ _ _ hF hP hD hS (lv_sub hl [1, 3, 4, 5, 0] rfl)
  · have hF := ifF c21 hF
    refine lv_aload_n hx hb dX10_shift_67 rfl (lv_at hl 0 rfl) ?_
    refine va_get (D := D) (ci := 10) (v := .ref q_t_readings) (C := RX10) (T := TX10) (N := 54) hx hb hts i_X10_shift_X10 hown hE.1 hP 0 rfl rfl 1 (by decide) (hts (.fieldLink RX10 9 "NeedleHouseModel" "readings" "[I") (List.mem_cons_of_mem _ (List.mem_of_getElem? (i := 5) rfl))) (fun _ h9 => h9) rfl dX10_shift_68 ?_
    refine lv_sipush (v := 300) hx hb dX10_shift_71 (by decide) ?_
    refine lv_iload hx hb dX10_shift_74 (lv_at hl 3 rfl) ?_
    refine lv_imul hx hb dX10_shift_76 ?_
    refine lv_iload hx hb dX10_shift_77 (lv_at hl 5 rfl) ?_
    refine lv_iadd hx hb dX10_shift_79 ?_
    obtain ⟨h22, hF⟩ := gd_ex hF
    refine va_iald hx hb hE.1 hP 1 0 rfl rfl h22 dX10_shift_80 ?_
    refine lv_topi (fun x23 ex23 => ?_)
    have hF := bn_as ex23 hF
    refine lv_istore (lv' := [(8, .int x23), (0, .ref q_t), (3, .int x_3), (4, .int x_4), (5, .int x_5), (6, .int x_6), (7, .int x_7)]) hx hb dX10_shift_81 hl (by decide) rfl (fun ls hl => ?_)
    refine lv_iload hx hb dX10_shift_83 (lv_at hl 0 rfl) ?_
    refine lv_ldc hx hb hown (hts (.constant RX10 113 (-2000000000)) (List.mem_cons_of_mem _ (List.mem_of_getElem? (i := 39) rfl))) dX10_shift_85 ?_
    refine lv_icmp_ne (tgt := 93) hx hb dX10_shift_87 (by decide) (fun c24 => ?_) (fun c24 => ?_)
    · have hF := ifF c24 hF
      refine lv_iload hx hb dX10_shift_93 (lv_at hl 0 rfl) ?_
      refine lv_iload hx hb dX10_shift_95 (lv_at hl 3 rfl) ?_
      refine lv_iadd hx hb dX10_shift_97 ?_
      refine lv_sipush (v := (-30000)) hx hb dX10_shift_98 (by decide) ?_
      refine lv_icmp_lt (tgt := 115) hx hb dX10_shift_101 (by decide) (fun c25 => ?_) (fun c25 => ?_)
      · have hF := ifT c25 hF
        refine lv_iconst (v := (-1)) hx hb dX10_shift_115 (by decide) ?_
        obtain ⟨rfl, rfl, rfl⟩ := in3 hF
        exact W.iret hx hb hr (fun t ht hW => ⟨⟨_, (), rfl, rfl, vaP_at ht hP⟩, hS.F ht⟩) hS.2.2 dX10_shift_116
      · have hF := ifF c25 hF
        refine lv_iload hx hb dX10_shift_104 (lv_at hl 0 rfl) ?_
        refine lv_iload hx hb dX10_shift_106 (lv_at hl 3 rfl) ?_
        refine lv_iadd hx hb dX10_shift_108 ?_
        refine lv_sipush (v := 30000) hx hb dX10_shift_109 (by decide) ?_
        refine lv_icmp_le (tgt := 117) hx hb dX10_shift_112 (by decide) (fun c26 => ?_) (fun c26 => ?_)
        · have hF := ifT c26 hF
          obtain ⟨x27, ex27⟩ : ∃ y : Int32, y = x_6 + 1 := ⟨_, rfl⟩
          refine lv_iinc (v := x27) (lv' := [(6, .int x27), (8, .int x23), (0, .ref q_t), (3, .int x_3), (4, .int x_4), (5, .int x_5), (7, .int x_7)]) hx hb dX10_shift_117 hl (k := 5) rfl (by rw [ex27]; rfl) (by decide) rfl (fun ls hl => ?_)
          have hF := bn_as ex27 hF
          obtain ⟨x28, ex28⟩ : ∃ y : Int32, y = x_7 + 1 := ⟨_, rfl⟩
          refine lv_iinc (v := x28) (lv' := [(7, .int x28), (6, .int x27), (8, .int x23), (0, .ref q_t), (3, .int x_3), (4, .int x_4), (5, .int x_5)]) hx hb dX10_shift_120 hl (k := 6) rfl (by rw [ex28]; rfl) (by decide) rfl (fun ls hl => ?_)
          have hF := bn_as ex28 hF
          refine lv_goto (tgt := 55) hx hb dX10_shift_123 (by decide) ?_
          exact hk55 t_thrown t_readings x_3 x_4 x_5 x27 x28 _ _ _ hF hP hD hS (lv_sub hl [3, 4, 5, 6, 1, 0] rfl)
        · have hF := ifF c26 hF
          refine lv_iconst (v := (-1)) hx hb dX10_shift_115 (by decide) ?_
          obtain ⟨rfl, rfl, rfl⟩ := in3 hF
          exact W.iret hx hb hr (fun t ht hW => ⟨⟨_, (), rfl, rfl, vaP_at ht hP⟩, hS.F ht⟩) hS.2.2 dX10_shift_116
    · have hF := ifT c24 hF
      refine lv_goto (tgt := 120) hx hb dX10_shift_90 (by decide) ?_
      obtain ⟨x29, ex29⟩ : ∃ y : Int32, y = x_7 + 1 := ⟨_, rfl⟩
      refine lv_iinc (v := x29) (lv' := [(7, .int x29), (8, .int x23), (0, .ref q_t), (3, .int x_3), (4, .int x_4), (5, .int x_5), (6, .int x_6)]) hx hb dX10_shift_120 hl (k := 6) rfl (by rw [ex29]; rfl) (by decide) rfl (fun ls hl => ?_)
      have hF := bn_as ex29 hF
      refine lv_goto (tgt := 55) hx hb dX10_shift_123 (by decide) ?_
      exact hk55 t_thrown t_readings x_3 x_4 x_5 x_6 x29 _ _ _ hF hP hD hS (lv_sub hl [2, 3, 4, 5, 6, 0] rfl)
theorem lX10_shift_55 {p : Program} {l : Launch} {e : Env} {s : State} {m : MethodId} {args : Array Value} {below : List Frame} {meth : Method} {c : Code} {D : va_G} {ct : Nat → ClassId} {A : Nat → Prop} {q_t q_t_readings q_t_many q_t_joined q_t_finals q_t_when q_t_mean q_t_left q_t_ends q_t_measures q_t_pointTime q_t_point q_t_pointEnd q_t_first q_t_length q_t_up q_t_down q_t_height q_t_tape q_t_index q_t_newIndex q_t_trainFrom q_t_trainTo q_t_published : Nat} {t_end : Int32} {t_points : Int32} {t_pieces : Int32} {t_lowUp : Int64} {t_lowDown : Int64} {t_highUp : Int64} {t_highDown : Int64} {t_taped : Int32} {t_size : Int32} {t_at : Int32} {t_fault : Int32} {t_place : Int32} {t_clauses : Int32} {t_limit : Int32} {t_near : Int32} {t_shareOne : Int32} {t_shareOf : Int32} {t_window : Int32} {t_storm : Int32} {t_indexMany : Int32} {t_newLimit : Int32} {t_newNear : Int32} {t_newOne : Int32} {t_newOf : Int32} {t_newWindow : Int32} {t_newStorm : Int32} {t_newMany : Int32} {t_began : Int32} {t_trains : Int32} {t_publishings : Int32} {t_many : Nat → Int32} {o_r : Int32} {o_t_thrown : Int32} {o_t_readings : Nat → Int32} (C0 : Cx RX10 cX10_shift 9 (some .int) wvX10_shift D ct A p s m args meth c) : ∀ (n : Nat) (t_thrown : Int32) (t_readings : Nat → Int32) (x_3 : Int32) (x_4 : Int32) (x_5 : Int32) (x_6 : Int32) (x_7 : Int32) (H : Heap) (locs : List Loc) (ls : Array Slot), LX10_shift_55 n t_thrown t_readings t_many x_3 x_4 x_5 x_6 x_7 = some (o_r, o_t_thrown, o_t_readings) → va_P D vwCl (W_37 ct q_t q_t_readings q_t_many q_t_joined q_t_finals q_t_when q_t_mean q_t_left q_t_ends q_t_measures q_t_pointTime q_t_point q_t_pointEnd q_t_first q_t_length q_t_up q_t_down q_t_height q_t_tape q_t_index q_t_newIndex q_t_trainFrom q_t_trainTo q_t_published t_thrown t_end t_points t_pieces t_lowUp t_lowDown t_highUp t_highDown t_taped t_size t_at t_fault t_place t_clauses t_limit t_near t_shareOne t_shareOf t_window t_storm t_indexMany t_newLimit t_newNear t_newOne t_newOf t_newWindow t_newStorm t_newMany t_began t_trains t_publishings t_readings t_many) H → va_D A (W_37 ct q_t q_t_readings q_t_many q_t_joined q_t_finals q_t_when q_t_mean q_t_left q_t_ends q_t_measures q_t_pointTime q_t_point q_t_pointEnd q_t_first q_t_length q_t_up q_t_down q_t_height q_t_tape q_t_index q_t_newIndex q_t_trainFrom q_t_trainTo q_t_published t_thrown t_end t_points t_pieces t_lowUp t_lowDown t_highUp t_highDown t_taped t_size t_at t_fault t_place t_clauses t_limit t_near t_shareOne t_shareOf t_window t_storm t_indexMany t_newLimit t_newNear t_newOne t_newOf t_newWindow t_newStorm t_newMany t_began t_trains t_publishings t_readings t_many) → va_S A s.heap H locs → lv_has ls 9 [(0, .ref q_t), (3, .int x_3), (4, .int x_4), (5, .int x_5), (6, .int x_6), (7, .int x_7)] → W p l e ({ frames := 2, cells := 0, slots := 0, locals := 43 } : Room) s m args below meth c H locs 0 0 (MQ below (va_Qi (fun r (_ : Unit) => r = o_r) (fun _ t => va_P D vwCl (W_37 ct q_t q_t_readings q_t_many q_t_joined q_t_finals q_t_when q_t_mean q_t_left q_t_ends q_t_measures q_t_pointTime q_t_point q_t_pointEnd q_t_first q_t_length q_t_up q_t_down q_t_height q_t_tape q_t_index q_t_newIndex q_t_trainFrom q_t_trainTo q_t_published o_t_thrown t_end t_points t_pieces t_lowUp t_lowDown t_highUp t_highDown t_taped t_size t_at t_fault t_place t_clauses t_limit t_near t_shareOne t_shareOf t_window t_storm t_indexMany t_newLimit t_newNear t_newOne t_newOf t_newWindow t_newStorm t_newMany t_began t_trains t_publishings o_t_readings t_many) t.heap) A) args s 0 0 A) (F0 m 55 ls []) := by
  intro n
  induction n with
  | zero => intro t_thrown t_readings x_3 x_4 x_5 x_6 x_7 H locs ls hF; exact nomatch (show (none : Option (Int32 × Int32 × (Nat → Int32))) = _ from hF)
  | succ n ih => intro t_thrown t_readings x_3 x_4 x_5 x_6 x_7 H locs ls hF; exact jX10_shift_55 C0 (LX10_shift_55 n) ih n t_thrown t_readings x_3 x_4 x_5 x_6 x_7 H locs ls hF
set_option maxHeartbeats 4000000 in
set_option maxRecDepth 100000 in
theorem jX10_shift_28 {p : Program} {l : Launch} {e : Env} {s : State} {m : MethodId} {args : Array Value} {below : List Frame} {meth : Method} {c : Code} {D : va_G} {ct : Nat → ClassId} {A : Nat → Prop} {q_t q_t_readings q_t_many q_t_joined q_t_finals q_t_when q_t_mean q_t_left q_t_ends q_t_measures q_t_pointTime q_t_point q_t_pointEnd q_t_first q_t_length q_t_up q_t_down q_t_height q_t_tape q_t_index q_t_newIndex q_t_trainFrom q_t_trainTo q_t_published : Nat} {t_end : Int32} {t_points : Int32} {t_pieces : Int32} {t_lowUp : Int64} {t_lowDown : Int64} {t_highUp : Int64} {t_highDown : Int64} {t_taped : Int32} {t_size : Int32} {t_at : Int32} {t_fault : Int32} {t_place : Int32} {t_clauses : Int32} {t_limit : Int32} {t_near : Int32} {t_shareOne : Int32} {t_shareOf : Int32} {t_window : Int32} {t_storm : Int32} {t_indexMany : Int32} {t_newLimit : Int32} {t_newNear : Int32} {t_newOne : Int32} {t_newOf : Int32} {t_newWindow : Int32} {t_newStorm : Int32} {t_newMany : Int32} {t_began : Int32} {t_trains : Int32} {t_publishings : Int32} {t_many : Nat → Int32} {o_r : Int32} {o_t_thrown : Int32} {o_t_readings : Nat → Int32} (C0 : Cx RX10 cX10_shift 9 (some .int) wvX10_shift D ct A p s m args meth c) (n : Nat) (t_thrown : Int32) (t_readings : Nat → Int32) (x_1 : Int32) (x_2 : Int32) (x_3 : Int32) (x_4 : Int32) (H : Heap) (locs : List Loc) (ls : Array Slot) : JX10_shift_28 n t_thrown t_readings t_many x_1 x_2 x_3 x_4 = some (o_r, o_t_thrown, o_t_readings) → va_P D vwCl (W_37 ct q_t q_t_readings q_t_many q_t_joined q_t_finals q_t_when q_t_mean q_t_left q_t_ends q_t_measures q_t_pointTime q_t_point q_t_pointEnd q_t_first q_t_length q_t_up q_t_down q_t_height q_t_tape q_t_index q_t_newIndex q_t_trainFrom q_t_trainTo q_t_published t_thrown t_end t_points t_pieces t_lowUp t_lowDown t_highUp t_highDown t_taped t_size t_at t_fault t_place t_clauses t_limit t_near t_shareOne t_shareOf t_window t_storm t_indexMany t_newLimit t_newNear t_newOne t_newOf t_newWindow t_newStorm t_newMany t_began t_trains t_publishings t_readings t_many) H → va_D A (W_37 ct q_t q_t_readings q_t_many q_t_joined q_t_finals q_t_when q_t_mean q_t_left q_t_ends q_t_measures q_t_pointTime q_t_point q_t_pointEnd q_t_first q_t_length q_t_up q_t_down q_t_height q_t_tape q_t_index q_t_newIndex q_t_trainFrom q_t_trainTo q_t_published t_thrown t_end t_points t_pieces t_lowUp t_lowDown t_highUp t_highDown t_taped t_size t_at t_fault t_place t_clauses t_limit t_near t_shareOne t_shareOf t_window t_storm t_indexMany t_newLimit t_newNear t_newOne t_newOf t_newWindow t_newStorm t_newMany t_began t_trains t_publishings t_readings t_many) → va_S A s.heap H locs → lv_has ls 9 [(0, .ref q_t), (1, .int x_1), (2, .int x_2), (3, .int x_3), (4, .int x_4)] → W p l e ({ frames := 2, cells := 0, slots := 0, locals := 43 } : Room) s m args below meth c H locs 0 0 (MQ below (va_Qi (fun r (_ : Unit) => r = o_r) (fun _ t => va_P D vwCl (W_37 ct q_t q_t_readings q_t_many q_t_joined q_t_finals q_t_when q_t_mean q_t_left q_t_ends q_t_measures q_t_pointTime q_t_point q_t_pointEnd q_t_first q_t_length q_t_up q_t_down q_t_height q_t_tape q_t_index q_t_newIndex q_t_trainFrom q_t_trainTo q_t_published o_t_thrown t_end t_points t_pieces t_lowUp t_lowDown t_highUp t_highDown t_taped t_size t_at t_fault t_place t_clauses t_limit t_near t_shareOne t_shareOf t_window t_storm t_indexMany t_newLimit t_newNear t_newOne t_newOf t_newWindow t_newStorm t_newMany t_began t_trains t_publishings o_t_readings t_many) t.heap) A) args s 0 0 A) (F0 m 28 ls [.ref q_t]) := by
  intro hF hP hD hS hl
  obtain ⟨hx, hb, hml, hown, hts, hr, hlocks, hE, hA⟩ := id C0
  unfold JX10_shift_28 at hF
  refine lv_iconst (v := 1) hx hb dX10_shift_28 (by decide) ?_
  refine lv_goto (tgt := 33) hx hb dX10_shift_29 (by decide) ?_
  refine lv_iconst (v := 2) hx hb dX10_shift_33 (by decide) ?_
  obtain ⟨r14, v15, h16, hF⟩ := ob2_ex hF
  refine xiM (ws1 := (W_37 ct q_t q_t_readings q_t_many q_t_joined q_t_finals q_t_when q_t_mean q_t_left q_t_ends q_t_measures q_t_pointTime q_t_point q_t_pointEnd q_t_first q_t_length q_t_up q_t_down q_t_height q_t_tape q_t_index q_t_newIndex q_t_trainFrom q_t_trainTo q_t_published v15 t_end t_points t_pieces t_lowUp t_lowDown t_highUp t_highDown t_taped t_size t_at t_fault t_place t_clauses t_limit t_near t_shareOne t_shareOf t_window t_storm t_indexMany t_newLimit t_newNear t_newOne t_newOf t_newWindow t_newStorm t_newMany t_began t_trains t_publishings t_readings t_many)) (va_runV (As := [.int 1, .int 2]) (rest := []) ⟨hx, hb, hml, hown, hts⟩ (met_X10_bad l D ct q_t q_t_readings q_t_many q_t_joined q_t_finals q_t_when q_t_mean q_t_left q_t_ends q_t_measures q_t_pointTime q_t_point q_t_pointEnd q_t_first q_t_length q_t_up q_t_down q_t_height q_t_tape q_t_index q_t_newIndex q_t_trainFrom q_t_trainTo q_t_published H.size t_thrown t_end t_points t_pieces t_lowUp t_lowDown t_highUp t_highDown t_taped t_size t_at t_fault t_place t_clauses t_limit t_near t_shareOne t_shareOf t_window t_storm t_indexMany t_newLimit t_newNear t_newOne t_newOf t_newWindow t_newStorm t_newMany t_began t_trains t_publishings 1 2 n r14 v15 h16) (cwV 2 hts (gqV CW10_good (List.mem_of_getElem? (i := 57) rfl) (List.mem_of_getElem? (i := 58) rfl) (List.mem_of_getElem? (i := 59) rfl) (List.mem_of_getElem? (i := 42) rfl) (gself CW10_good (List.mem_of_getElem? (i := 46) rfl))) rfl rfl rfl (by decide +kernel) ⟨Nat.le_of_ble_eq_true rfl, Nat.le_of_ble_eq_true rfl⟩) ⟨blind_, va_recv hE.1 hP (ci := 10) (q0 := 0) rfl rfl, mkpre_ hE (hP.sub [0] rfl) (hD.sub [0] (by decide) rfl)⟩ rfl rfl hl.1 rfl (lv_room (Nat.le_of_ble_eq_true rfl)) dX10_shift_34 ⟨Nat.le_of_ble_eq_true rfl, Nat.le_of_ble_eq_true rfl⟩) hP hD hS hA [0] [1, 2] 3 rfl rfl rfl rfl (by decide) rfl (fun H locs hP hD hS => ?_)
  refine lv_if_eq (tgt := 42) hx hb dX10_shift_37 (by decide) (fun c17 => ?_) (fun c17 => ?_)
  · have hF := ifT c17 hF
    refine lv_iload_n hx hb dX10_shift_42 rfl (lv_at hl 1 rfl) ?_
    refine lv_iload_n hx hb dX10_shift_43 rfl (lv_at hl 2 rfl) ?_
    obtain ⟨r18, h19, hF⟩ := ob1_ex hF
    refine xiR (va_runS (As := [.int x_1, .int x_2]) (rest := []) ⟨hx, hb, hml, hown, hts⟩ (met_X10_rowOf l D ct H.size x_1 x_2 n r18 h19) (va_cwS 2 hts (gqS CW10_good (List.mem_of_getElem? (i := 60) rfl) (List.mem_of_getElem? (i := 61) rfl) (List.mem_of_getElem? (i := 42) rfl) (gself CW10_good (List.mem_of_getElem? (i := 52) rfl))) rfl rfl rfl (by decide +kernel) ⟨Nat.le_of_ble_eq_true rfl, Nat.le_of_ble_eq_true rfl⟩) ⟨blind_, mkpre_ hE (hP.sub [] rfl) (hD.sub [] (by decide) rfl)⟩ rfl rfl hl.1 rfl (lv_room (Nat.le_of_ble_eq_true rfl)) dX10_shift_44 ⟨Nat.le_of_ble_eq_true rfl, Nat.le_of_ble_eq_true rfl⟩) hP hD hS hA [] rfl (fun H locs hP hD hS => ?_)
    refine lv_istore (lv' := [(5, .int r18), (0, .ref q_t), (1, .int x_1), (2, .int x_2), (3, .int x_3), (4, .int x_4)]) hx hb dX10_shift_47 hl (by decide) rfl (fun ls hl => ?_)
    refine lv_iconst (v := 0) hx hb dX10_shift_49 (by decide) ?_
    refine lv_istore (lv' := [(6, .int 0), (5, .int r18), (0, .ref q_t), (1, .int x_1), (2, .int x_2), (3, .int x_3), (4, .int x_4)]) hx hb dX10_shift_50 hl (by decide) rfl (fun ls hl => ?_)
    refine lv_iload_n hx hb dX10_shift_52 rfl (lv_at hl 5 rfl) ?_
    refine lv_istore (lv' := [(7, .int x_3), (6, .int 0), (5, .int r18), (0, .ref q_t), (1, .int x_1), (2, .int x_2), (3, .int x_3), (4, .int x_4)]) hx hb dX10_shift_53 hl (by decide) rfl (fun ls hl => ?_)
    exact lX10_shift_55 C0 n v15 t_readings x_3 x_4 r18 0 x_3 _ _ _ hF hP hD hS (lv_sub hl [3, 6, 7, 2, 1, 0] rfl)
  · have hF := ifF c17 hF
    refine lv_iconst (v := 0) hx hb dX10_shift_40 (by decide) ?_
    obtain ⟨rfl, rfl, rfl⟩ := in3 hF
    exact W.iret hx hb hr (fun t ht hW => ⟨⟨_, (), rfl, rfl, vaP_at ht hP⟩, hS.F ht⟩) hS.2.2 dX10_shift_41
set_option maxHeartbeats 4000000 in
set_option maxRecDepth 100000 in
theorem met_X10_shift (l : Launch) (D : va_G) (ct : Nat → ClassId) (q_t : Nat) (q_t_readings : Nat) (q_t_many : Nat) (q_t_joined : Nat) (q_t_finals : Nat) (q_t_when : Nat) (q_t_mean : Nat) (q_t_left : Nat) (q_t_ends : Nat) (q_t_measures : Nat) (q_t_pointTime : Nat) (q_t_point : Nat) (q_t_pointEnd : Nat) (q_t_first : Nat) (q_t_length : Nat) (q_t_up : Nat) (q_t_down : Nat) (q_t_height : Nat) (q_t_tape : Nat) (q_t_index : Nat) (q_t_newIndex : Nat) (q_t_trainFrom : Nat) (q_t_trainTo : Nat) (q_t_published : Nat) (sz : Nat) (t_thrown : Int32) (t_end : Int32) (t_points : Int32) (t_pieces : Int32) (t_lowUp : Int64) (t_lowDown : Int64) (t_highUp : Int64) (t_highDown : Int64) (t_taped : Int32) (t_size : Int32) (t_at : Int32) (t_fault : Int32) (t_place : Int32) (t_clauses : Int32) (t_limit : Int32) (t_near : Int32) (t_shareOne : Int32) (t_shareOf : Int32) (t_window : Int32) (t_storm : Int32) (t_indexMany : Int32) (t_newLimit : Int32) (t_newNear : Int32) (t_newOne : Int32) (t_newOf : Int32) (t_newWindow : Int32) (t_newStorm : Int32) (t_newMany : Int32) (t_began : Int32) (t_trains : Int32) (t_publishings : Int32) (t_readings : Nat → Int32) (t_many : Nat → Int32) (p1 : Int32) (p2 : Int32) (p3 : Int32) (p4 : Int32) (n : Nat) (o_r : Int32) (o_t_thrown : Int32) (o_t_readings : Nat → Int32) (hF : FX10_shift n t_thrown t_readings t_many p1 p2 p3 p4 = some (o_r, o_t_thrown, o_t_readings)) : Met l yX10_shift wvX10_shift ({ frames := 2, cells := 0, slots := 0, locals := 43 } : Room) (va_Pc [.ref q_t, .int p1, .int p2, .int p3, .int p4] (pre_ D ct sz (W_37 ct q_t q_t_readings q_t_many q_t_joined q_t_finals q_t_when q_t_mean q_t_left q_t_ends q_t_measures q_t_pointTime q_t_point q_t_pointEnd q_t_first q_t_length q_t_up q_t_down q_t_height q_t_tape q_t_index q_t_newIndex q_t_trainFrom q_t_trainTo q_t_published t_thrown t_end t_points t_pieces t_lowUp t_lowDown t_highUp t_highDown t_taped t_size t_at t_fault t_place t_clauses t_limit t_near t_shareOne t_shareOf t_window t_storm t_indexMany t_newLimit t_newNear t_newOne t_newOf t_newWindow t_newStorm t_newMany t_began t_trains t_publishings t_readings t_many))) (va_Qi (fun r (_ : Unit) => r = o_r) (fun _ t => va_P D vwCl (W_37 ct q_t q_t_readings q_t_many q_t_joined q_t_finals q_t_when q_t_mean q_t_left q_t_ends q_t_measures q_t_pointTime q_t_point q_t_pointEnd q_t_first q_t_length q_t_up q_t_down q_t_height q_t_tape q_t_index q_t_newIndex q_t_trainFrom q_t_trainTo q_t_published o_t_thrown t_end t_points t_pieces t_lowUp t_lowDown t_highUp t_highDown t_taped t_size t_at t_fault t_place t_clauses t_limit t_near t_shareOne t_shareOf t_window t_storm t_indexMany t_newLimit t_newNear t_newOne t_newOf t_newWindow t_newStorm t_newMany t_began t_trains t_publishings o_t_readings t_many) t.heap) (va_A (W_37 ct q_t q_t_readings q_t_many q_t_joined q_t_finals q_t_when q_t_mean q_t_left q_t_ends q_t_measures q_t_pointTime q_t_point q_t_pointEnd q_t_first q_t_length q_t_up q_t_down q_t_height q_t_tape q_t_index q_t_newIndex q_t_trainFrom q_t_trainTo q_t_published t_thrown t_end t_points t_pieces t_lowUp t_lowDown t_highUp t_highDown t_taped t_size t_at t_fault t_place t_clauses t_limit t_near t_shareOne t_shareOf t_window t_storm t_indexMany t_newLimit t_newNear t_newOne t_newOf t_newWindow t_newStorm t_newMany t_began t_trains t_publishings t_readings t_many) sz)) 0 0 (va_A (W_37 ct q_t q_t_readings q_t_many q_t_joined q_t_finals q_t_when q_t_mean q_t_left q_t_ends q_t_measures q_t_pointTime q_t_point q_t_pointEnd q_t_first q_t_length q_t_up q_t_down q_t_height q_t_tape q_t_index q_t_newIndex q_t_trainFrom q_t_trainTo q_t_published t_thrown t_end t_points t_pieces t_lowUp t_lowDown t_highUp t_highDown t_taped t_size t_at t_fault t_place t_clauses t_limit t_near t_shareOne t_shareOf t_window t_storm t_indexMany t_newLimit t_newNear t_newOne t_newOf t_newWindow t_newStorm t_newMany t_began t_trains t_publishings t_readings t_many) sz) := by
  refine Met.ofW (cc := cX10_shift) (maxL := 9) (ret := (some .int)) (by decide) rfl ?_
  intro p e s m args below meth c s₁ B hml hv
  obtain ⟨rfl, hsz, hP, hE, hD0⟩ := hv
  have hx := B.exec
  have hb := B.bytes
  have hr := B.returns
  have hts := atoms_spec (ws := wvX10_shift) B.pre
  have hown : s.vm.findClass RX10 = some m.cls := findClass_of_methodNamed B.named
  have hlocks := B.notSynchronized
  subst hsz
  have hD := hD0.self (sz := s.heap.size)
  generalize hAe : va_A (W_37 ct q_t q_t_readings q_t_many q_t_joined q_t_finals q_t_when q_t_mean q_t_left q_t_ends q_t_measures q_t_pointTime q_t_point q_t_pointEnd q_t_first q_t_length q_t_up q_t_down q_t_height q_t_tape q_t_index q_t_newIndex q_t_trainFrom q_t_trainTo q_t_published t_thrown t_end t_points t_pieces t_lowUp t_lowDown t_highUp t_highDown t_taped t_size t_at t_fault t_place t_clauses t_limit t_near t_shareOne t_shareOf t_window t_storm t_indexMany t_newLimit t_newNear t_newOne t_newOf t_newWindow t_newStorm t_newMany t_began t_trains t_publishings t_readings t_many) s.heap.size = A at hD ⊢
  have hA : ∀ q : Nat, s.heap.size ≤ q → A q := fun q h => by rw [← hAe]; exact Or.inr h
  have hl := lv_entry ([.ref q_t, .int p1, .int p2, .int p3, .int p4]) (n := 9) (Nat.le_of_ble_eq_true rfl)
  rw [lg_entry_eq]
  generalize (lg_sl ([.ref q_t, .int p1, .int p2, .int p3, .int p4]) ++ List.replicate (9 - (lg_sl ([.ref q_t, .int p1, .int p2, .int p3, .int p4])).length) Slot.unset).toArray = ls at hl ⊢
  have hl : lv_has ls 9 [(0, .ref q_t), (1, .int p1), (2, .int p2), (3, .int p3), (4, .int p4)] := hl
  have C0 : Cx RX10 cX10_shift 9 (some .int) wvX10_shift D ct A p s m ([.ref q_t, .int p1, .int p2, .int p3, .int p4]).toArray meth c := ⟨hx, hb, hml, hown, hts, hr, hlocks, hE, hA⟩
  have hS : ∀ H : Heap, s.heap = H → va_S A s.heap H [] := fun H h => h ▸ va_S.rf
  generalize hH : s.heap = H at hP ⊢
  have hS := hS H hH
  unfold FX10_shift at hF
  refine lv_aload_n hx hb dX10_shift_0 rfl (lv_at hl 0 rfl) ?_
  refine lv_iload_n hx hb dX10_shift_1 rfl (lv_at hl 1 rfl) ?_
  refine lv_iload_n hx hb dX10_shift_2 rfl (lv_at hl 2 rfl) ?_
  obtain ⟨r1, v2, h3, hF⟩ := ob2_ex hF
  refine xiM (ws1 := (W_37 ct q_t q_t_readings q_t_many q_t_joined q_t_finals q_t_when q_t_mean q_t_left q_t_ends q_t_measures q_t_pointTime q_t_point q_t_pointEnd q_t_first q_t_length q_t_up q_t_down q_t_height q_t_tape q_t_index q_t_newIndex q_t_trainFrom q_t_trainTo q_t_published v2 t_end t_points t_pieces t_lowUp t_lowDown t_highUp t_highDown t_taped t_size t_at t_fault t_place t_clauses t_limit t_near t_shareOne t_shareOf t_window t_storm t_indexMany t_newLimit t_newNear t_newOne t_newOf t_newWindow t_newStorm t_newMany t_began t_trains t_publishings t_readings t_many)) (va_runV (As := [.int p1, .int p2]) (rest := []) ⟨hx, hb, hml, hown, hts⟩ (met_X10_isRow l D ct q_t q_t_readings q_t_many q_t_joined q_t_finals q_t_when q_t_mean q_t_left q_t_ends q_t_measures q_t_pointTime q_t_point q_t_pointEnd q_t_first q_t_length q_t_up q_t_down q_t_height q_t_tape q_t_index q_t_newIndex q_t_trainFrom q_t_trainTo q_t_published H.size t_thrown t_end t_points t_pieces t_lowUp t_lowDown t_highUp t_highDown t_taped t_size t_at t_fault t_place t_clauses t_limit t_near t_shareOne t_shareOf t_window t_storm t_indexMany t_newLimit t_newNear t_newOne t_newOf t_newWindow t_newStorm t_newMany t_began t_trains t_publishings p1 p2 n r1 v2 h3) (cwV 2 hts (gqV CW10_good (List.mem_of_getElem? (i := 54) rfl) (List.mem_of_getElem? (i := 55) rfl) (List.mem_of_getElem? (i := 56) rfl) (List.mem_of_getElem? (i := 42) rfl) (gself CW10_good (List.mem_of_getElem? (i := 48) rfl))) rfl rfl rfl (by decide +kernel) ⟨Nat.le_of_ble_eq_true rfl, Nat.le_of_ble_eq_true rfl⟩) ⟨blind_, va_recv hE.1 hP (ci := 10) (q0 := 0) rfl rfl, mkpre_ hE (hP.sub [0] rfl) (hD.sub [0] (by decide) rfl)⟩ rfl rfl hl.1 rfl (lv_room (Nat.le_of_ble_eq_true rfl)) dX10_shift_3 ⟨Nat.le_of_ble_eq_true rfl, Nat.le_of_ble_eq_true rfl⟩) hP hD hS hA [0] [1, 2] 3 rfl rfl rfl rfl (by decide) rfl (fun H locs hP hD hS => ?_)
  refine lv_if_eq (tgt := 40) hx hb dX10_shift_6 (by decide) (fun c4 => ?_) (fun c4 => ?_)
  · have hF := ifT c4 hF
    refine lv_iconst (v := 0) hx hb dX10_shift_40 (by decide) ?_
    obtain ⟨rfl, rfl, rfl⟩ := in3 hF
    exact W.iret hx hb hr (fun t ht hW => ⟨⟨_, (), rfl, rfl, vaP_at ht hP⟩, hS.F ht⟩) hS.2.2 dX10_shift_41
  · have hF := ifF c4 hF
    refine lv_aload_n hx hb dX10_shift_9 rfl (lv_at hl 0 rfl) ?_
    refine lv_iload_n hx hb dX10_shift_10 rfl (lv_at hl 3 rfl) ?_
    refine lv_if_lt (tgt := 28) hx hb dX10_shift_11 (by decide) (fun c5 => ?_) (fun c5 => ?_)
    · have hF := ifT c5 hF
      exact jX10_shift_28 C0 n v2 t_readings p1 p2 p3 p4 _ _ _ hF hP hD hS (lv_sub hl [0, 1, 2, 3, 4] rfl)
    · have hF := ifF c5 hF
      refine lv_iload hx hb dX10_shift_14 (lv_at hl 4 rfl) ?_
      refine lv_ldc hx hb hown (hts (.constant RX10 137 (-60000)) (List.mem_cons_of_mem _ (List.mem_of_getElem? (i := 69) rfl))) dX10_shift_16 ?_
      refine lv_icmp_lt (tgt := 28) hx hb dX10_shift_18 (by decide) (fun c6 => ?_) (fun c6 => ?_)
      · have hF := ifT c6 hF
        exact jX10_shift_28 C0 n v2 t_readings p1 p2 p3 p4 _ _ _ hF hP hD hS (lv_sub hl [0, 1, 2, 3, 4] rfl)
      · have hF := ifF c6 hF
        refine lv_iload hx hb dX10_shift_21 (lv_at hl 4 rfl) ?_
        refine lv_ldc hx hb hown (hts (.constant RX10 138 60000) (by decide +kernel)) dX10_shift_23 ?_
        refine lv_icmp_le (tgt := 32) hx hb dX10_shift_25 (by decide) (fun c7 => ?_) (fun c7 => ?_)
        · have hF := ifT c7 hF
          refine lv_iconst (v := 0) hx hb dX10_shift_32 (by decide) ?_
          refine lv_iconst (v := 2) hx hb dX10_shift_33 (by decide) ?_
          obtain ⟨r8, v9, h10, hF⟩ := ob2_ex hF
          refine xiM (ws1 := (W_37 ct q_t q_t_readings q_t_many q_t_joined q_t_finals q_t_when q_t_mean q_t_left q_t_ends q_t_measures q_t_pointTime q_t_point q_t_pointEnd q_t_first q_t_length q_t_up q_t_down q_t_height q_t_tape q_t_index q_t_newIndex q_t_trainFrom q_t_trainTo q_t_published v9 t_end t_points t_pieces t_lowUp t_lowDown t_highUp t_highDown t_taped t_size t_at t_fault t_place t_clauses t_limit t_near t_shareOne t_shareOf t_window t_storm t_indexMany t_newLimit t_newNear t_newOne t_newOf t_newWindow t_newStorm t_newMany t_began t_trains t_publishings t_readings t_many)) (va_runV (As := [.int 0, .int 2]) (rest := []) ⟨hx, hb, hml, hown, hts⟩ (met_X10_bad l D ct q_t q_t_readings q_t_many q_t_joined q_t_finals q_t_when q_t_mean q_t_left q_t_ends q_t_measures q_t_pointTime q_t_point q_t_pointEnd q_t_first q_t_length q_t_up q_t_down q_t_height q_t_tape q_t_index q_t_newIndex q_t_trainFrom q_t_trainTo q_t_published H.size v2 t_end t_points t_pieces t_lowUp t_lowDown t_highUp t_highDown t_taped t_size t_at t_fault t_place t_clauses t_limit t_near t_shareOne t_shareOf t_window t_storm t_indexMany t_newLimit t_newNear t_newOne t_newOf t_newWindow t_newStorm t_newMany t_began t_trains t_publishings 0 2 n r8 v9 h10) (cwV 2 hts (gqV CW10_good (List.mem_of_getElem? (i := 57) rfl) (List.mem_of_getElem? (i := 58) rfl) (List.mem_of_getElem? (i := 59) rfl) (List.mem_of_getElem? (i := 42) rfl) (gself CW10_good (List.mem_of_getElem? (i := 46) rfl))) rfl rfl rfl (by decide +kernel) ⟨Nat.le_of_ble_eq_true rfl, Nat.le_of_ble_eq_true rfl⟩) ⟨blind_, va_recv hE.1 hP (ci := 10) (q0 := 0) rfl rfl, mkpre_ hE (hP.sub [0] rfl) (hD.sub [0] (by decide) rfl)⟩ rfl rfl hl.1 rfl (lv_room (Nat.le_of_ble_eq_true rfl)) dX10_shift_34 ⟨Nat.le_of_ble_eq_true rfl, Nat.le_of_ble_eq_true rfl⟩) hP hD hS hA [0] [1, 2] 3 rfl rfl rfl rfl (by decide) rfl (fun H locs hP hD hS => ?_)
          refine lv_if_eq (tgt := 42) hx hb dX10_shift_37 (by decide) (fun c11 => ?_) (fun c11 => ?_)
          · have hF := ifT c11 hF
            refine lv_iload_n hx hb dX10_shift_42 rfl (lv_at hl 1 rfl) ?_
            refine lv_iload_n hx hb dX10_shift_43 rfl (lv_at hl 2 rfl) ?_
            obtain ⟨r12, h13, hF⟩ := ob1_ex hF
            refine xiR (va_runS (As := [.int p1, .int p2]) (rest := []) ⟨hx, hb, hml, hown, hts⟩ (met_X10_rowOf l D ct H.size p1 p2 n r12 h13) (va_cwS 2 hts (gqS CW10_good (List.mem_of_getElem? (i := 60) rfl) (List.mem_of_getElem? (i := 61) rfl) (List.mem_of_getElem? (i := 42) rfl) (gself CW10_good (List.mem_of_getElem? (i := 52) rfl))) rfl rfl rfl (by decide +kernel) ⟨Nat.le_of_ble_eq_true rfl, Nat.le_of_ble_eq_true rfl⟩) ⟨blind_, mkpre_ hE (hP.sub [] rfl) (hD.sub [] (by decide) rfl)⟩ rfl rfl hl.1 rfl (lv_room (Nat.le_of_ble_eq_true rfl)) dX10_shift_44 ⟨Nat.le_of_ble_eq_true rfl, Nat.le_of_ble_eq_true rfl⟩) hP hD hS hA [] rfl (fun H locs hP hD hS => ?_)
            refine lv_istore (lv' := [(5, .int r12), (0, .ref q_t), (1, .int p1), (2, .int p2), (3, .int p3), (4, .int p4)]) hx hb dX10_shift_47 hl (by decide) rfl (fun ls hl => ?_)
            refine lv_iconst (v := 0) hx hb dX10_shift_49 (by decide) ?_
            refine lv_istore (lv' := [(6, .int 0), (5, .int r12), (0, .ref q_t), (1, .int p1), (2, .int p2), (3, .int p3), (4, .int p4)]) hx hb dX10_shift_50 hl (by decide) rfl (fun ls hl => ?_)
            refine lv_iload_n hx hb dX10_shift_52 rfl (lv_at hl 5 rfl) ?_
            refine lv_istore (lv' := [(7, .int p3), (6, .int 0), (5, .int r12), (0, .ref q_t), (1, .int p1), (2, .int p2), (3, .int p3), (4, .int p4)]) hx hb dX10_shift_53 hl (by decide) rfl (fun ls hl => ?_)
            exact lX10_shift_55 C0 n v9 t_readings p3 p4 r12 0 p3 _ _ _ hF hP hD hS (lv_sub hl [3, 6, 7, 2, 1, 0] rfl)
          · have hF := ifF c11 hF
            refine lv_iconst (v := 0) hx hb dX10_shift_40 (by decide) ?_
            obtain ⟨rfl, rfl, rfl⟩ := in3 hF
            exact W.iret hx hb hr (fun t ht hW => ⟨⟨_, (), rfl, rfl, vaP_at ht hP⟩, hS.F ht⟩) hS.2.2 dX10_shift_41
        · have hF := ifF c7 hF
          exact jX10_shift_28 C0 n v2 t_readings p1 p2 p3 p4 _ _ _ hF hP hD hS (lv_sub hl [0, 1, 2, 3, 4] rfl)
/-! NeedleHouseModel.apart(II)I -/
set_option maxHeartbeats 4000000 in
set_option maxRecDepth 100000 in
theorem met_X10_apart (l : Launch) (D : va_G) (ct : Nat → ClassId) (sz : Nat) (p1 : Int32) (p2 : Int32) (n : Nat) (o_r : Int32) (hF : FX10_apart n p1 p2 = some (o_r)) : Met l yX10_apart wvX10_apart ({ frames := 0, cells := 0, slots := 0, locals := 0 } : Room) (va_Pc [.int p1, .int p2] (pre_ D ct sz [])) (va_Qi (fun r (_ : Unit) => r = o_r) (fun _ t => va_P D vwCl [] t.heap) (va_A [] sz)) 0 0 (va_A [] sz) := by
  refine Met.ofW (cc := cX10_apart) (maxL := 2) (ret := (some .int)) (by decide) rfl ?_
  intro p e s m args below meth c s₁ B hml hv
  obtain ⟨rfl, hsz, hP, hE, hD0⟩ := hv
  have hx := B.exec
  have hb := B.bytes
  have hr := B.returns
  have hts := atoms_spec (ws := wvX10_apart) B.pre
  have hown : s.vm.findClass RX10 = some m.cls := findClass_of_methodNamed B.named
  have hlocks := B.notSynchronized
  subst hsz
  have hD := hD0.self (sz := s.heap.size)
  generalize hAe : va_A [] s.heap.size = A at hD ⊢
  have hA : ∀ q : Nat, s.heap.size ≤ q → A q := fun q h => by rw [← hAe]; exact Or.inr h
  have hl := lv_entry ([.int p1, .int p2]) (n := 2) (Nat.le_of_ble_eq_true rfl)
  rw [lg_entry_eq]
  generalize (lg_sl ([.int p1, .int p2]) ++ List.replicate (2 - (lg_sl ([.int p1, .int p2])).length) Slot.unset).toArray = ls at hl ⊢
  have hl : lv_has ls 2 [(0, .int p1), (1, .int p2)] := hl
  have C0 : Cx RX10 cX10_apart 2 (some .int) wvX10_apart D ct A p s m ([.int p1, .int p2]).toArray meth c := ⟨hx, hb, hml, hown, hts, hr, hlocks, hE, hA⟩
  have hS : ∀ H : Heap, s.heap = H → va_S A s.heap H [] := fun H h => h ▸ va_S.rf
  generalize hH : s.heap = H at hP ⊢
  have hS := hS H hH
  unfold FX10_apart at hF
  refine lv_iload_n hx hb dX10_apart_0 rfl (lv_at hl 0 rfl) ?_
  refine lv_iload_n hx hb dX10_apart_1 rfl (lv_at hl 1 rfl) ?_
  refine lv_icmp_ge (tgt := 11) hx hb dX10_apart_2 (by decide) (fun c1 => ?_) (fun c1 => ?_)
  · have hF := ifT c1 hF
    refine lv_iload_n hx hb dX10_apart_11 rfl (lv_at hl 0 rfl) ?_
    refine lv_iload_n hx hb dX10_apart_12 rfl (lv_at hl 1 rfl) ?_
    refine lv_isub hx hb dX10_apart_13 ?_
    obtain rfl := Option.some.inj hF
    exact W.iret hx hb hr (fun t ht hW => ⟨⟨_, (), rfl, rfl, vaP_at ht hP⟩, hS.F ht⟩) hS.2.2 dX10_apart_14
  · have hF := ifF c1 hF
    refine lv_iload_n hx hb dX10_apart_5 rfl (lv_at hl 1 rfl) ?_
    refine lv_iload_n hx hb dX10_apart_6 rfl (lv_at hl 0 rfl) ?_
    refine lv_isub hx hb dX10_apart_7 ?_
    refine lv_goto (tgt := 14) hx hb dX10_apart_8 (by decide) ?_
    obtain rfl := Option.some.inj hF
    exact W.iret hx hb hr (fun t ht hW => ⟨⟨_, (), rfl, rfl, vaP_at ht hP⟩, hS.F ht⟩) hS.2.2 dX10_apart_14
/-! NeedleHouseModel.leap(III)I -/
set_option maxHeartbeats 4000000 in
set_option maxRecDepth 100000 in
theorem met_X10_leap (l : Launch) (D : va_G) (ct : Nat → ClassId) (q_t : Nat) (q_t_readings : Nat) (q_t_many : Nat) (q_t_joined : Nat) (q_t_finals : Nat) (q_t_when : Nat) (q_t_mean : Nat) (q_t_left : Nat) (q_t_ends : Nat) (q_t_measures : Nat) (q_t_pointTime : Nat) (q_t_point : Nat) (q_t_pointEnd : Nat) (q_t_first : Nat) (q_t_length : Nat) (q_t_up : Nat) (q_t_down : Nat) (q_t_height : Nat) (q_t_tape : Nat) (q_t_index : Nat) (q_t_newIndex : Nat) (q_t_trainFrom : Nat) (q_t_trainTo : Nat) (q_t_published : Nat) (sz : Nat) (t_thrown : Int32) (t_end : Int32) (t_points : Int32) (t_pieces : Int32) (t_lowUp : Int64) (t_lowDown : Int64) (t_highUp : Int64) (t_highDown : Int64) (t_taped : Int32) (t_size : Int32) (t_at : Int32) (t_fault : Int32) (t_place : Int32) (t_clauses : Int32) (t_limit : Int32) (t_near : Int32) (t_shareOne : Int32) (t_shareOf : Int32) (t_window : Int32) (t_storm : Int32) (t_indexMany : Int32) (t_newLimit : Int32) (t_newNear : Int32) (t_newOne : Int32) (t_newOf : Int32) (t_newWindow : Int32) (t_newStorm : Int32) (t_newMany : Int32) (t_began : Int32) (t_trains : Int32) (t_publishings : Int32) (t_readings : Nat → Int32) (t_many : Nat → Int32) (p1 : Int32) (p2 : Int32) (p3 : Int32) (n : Nat) (o_r : Int32) (hF : FX10_leap n t_readings t_many p1 p2 p3 = some (o_r)) : Met l yX10_leap wvX10_leap ({ frames := 2, cells := 0, slots := 0, locals := 45 } : Room) (va_Pc [.ref q_t, .int p1, .int p2, .int p3] (pre_ D ct sz (W_37 ct q_t q_t_readings q_t_many q_t_joined q_t_finals q_t_when q_t_mean q_t_left q_t_ends q_t_measures q_t_pointTime q_t_point q_t_pointEnd q_t_first q_t_length q_t_up q_t_down q_t_height q_t_tape q_t_index q_t_newIndex q_t_trainFrom q_t_trainTo q_t_published t_thrown t_end t_points t_pieces t_lowUp t_lowDown t_highUp t_highDown t_taped t_size t_at t_fault t_place t_clauses t_limit t_near t_shareOne t_shareOf t_window t_storm t_indexMany t_newLimit t_newNear t_newOne t_newOf t_newWindow t_newStorm t_newMany t_began t_trains t_publishings t_readings t_many))) (va_Qi (fun r (_ : Unit) => r = o_r) (fun _ t => va_P D vwCl (W_37 ct q_t q_t_readings q_t_many q_t_joined q_t_finals q_t_when q_t_mean q_t_left q_t_ends q_t_measures q_t_pointTime q_t_point q_t_pointEnd q_t_first q_t_length q_t_up q_t_down q_t_height q_t_tape q_t_index q_t_newIndex q_t_trainFrom q_t_trainTo q_t_published t_thrown t_end t_points t_pieces t_lowUp t_lowDown t_highUp t_highDown t_taped t_size t_at t_fault t_place t_clauses t_limit t_near t_shareOne t_shareOf t_window t_storm t_indexMany t_newLimit t_newNear t_newOne t_newOf t_newWindow t_newStorm t_newMany t_began t_trains t_publishings t_readings t_many) t.heap) (va_A (W_37 ct q_t q_t_readings q_t_many q_t_joined q_t_finals q_t_when q_t_mean q_t_left q_t_ends q_t_measures q_t_pointTime q_t_point q_t_pointEnd q_t_first q_t_length q_t_up q_t_down q_t_height q_t_tape q_t_index q_t_newIndex q_t_trainFrom q_t_trainTo q_t_published t_thrown t_end t_points t_pieces t_lowUp t_lowDown t_highUp t_highDown t_taped t_size t_at t_fault t_place t_clauses t_limit t_near t_shareOne t_shareOf t_window t_storm t_indexMany t_newLimit t_newNear t_newOne t_newOf t_newWindow t_newStorm t_newMany t_began t_trains t_publishings t_readings t_many) sz)) 0 0 (va_A (W_37 ct q_t q_t_readings q_t_many q_t_joined q_t_finals q_t_when q_t_mean q_t_left q_t_ends q_t_measures q_t_pointTime q_t_point q_t_pointEnd q_t_first q_t_length q_t_up q_t_down q_t_height q_t_tape q_t_index q_t_newIndex q_t_trainFrom q_t_trainTo q_t_published t_thrown t_end t_points t_pieces t_lowUp t_lowDown t_highUp t_highDown t_taped t_size t_at t_fault t_place t_clauses t_limit t_near t_shareOne t_shareOf t_window t_storm t_indexMany t_newLimit t_newNear t_newOne t_newOf t_newWindow t_newStorm t_newMany t_began t_trains t_publishings t_readings t_many) sz) := by
  refine Met.ofW (cc := cX10_leap) (maxL := 6) (ret := (some .int)) (by decide) rfl ?_
  intro p e s m args below meth c s₁ B hml hv
  obtain ⟨rfl, hsz, hP, hE, hD0⟩ := hv
  have hx := B.exec
  have hb := B.bytes
  have hr := B.returns
  have hts := atoms_spec (ws := wvX10_leap) B.pre
  have hown : s.vm.findClass RX10 = some m.cls := findClass_of_methodNamed B.named
  have hlocks := B.notSynchronized
  subst hsz
  have hD := hD0.self (sz := s.heap.size)
  generalize hAe : va_A (W_37 ct q_t q_t_readings q_t_many q_t_joined q_t_finals q_t_when q_t_mean q_t_left q_t_ends q_t_measures q_t_pointTime q_t_point q_t_pointEnd q_t_first q_t_length q_t_up q_t_down q_t_height q_t_tape q_t_index q_t_newIndex q_t_trainFrom q_t_trainTo q_t_published t_thrown t_end t_points t_pieces t_lowUp t_lowDown t_highUp t_highDown t_taped t_size t_at t_fault t_place t_clauses t_limit t_near t_shareOne t_shareOf t_window t_storm t_indexMany t_newLimit t_newNear t_newOne t_newOf t_newWindow t_newStorm t_newMany t_began t_trains t_publishings t_readings t_many) s.heap.size = A at hD ⊢
  have hA : ∀ q : Nat, s.heap.size ≤ q → A q := fun q h => by rw [← hAe]; exact Or.inr h
  have hl := lv_entry ([.ref q_t, .int p1, .int p2, .int p3]) (n := 6) (Nat.le_of_ble_eq_true rfl)
  rw [lg_entry_eq]
  generalize (lg_sl ([.ref q_t, .int p1, .int p2, .int p3]) ++ List.replicate (6 - (lg_sl ([.ref q_t, .int p1, .int p2, .int p3])).length) Slot.unset).toArray = ls at hl ⊢
  have hl : lv_has ls 6 [(0, .ref q_t), (1, .int p1), (2, .int p2), (3, .int p3)] := hl
  have C0 : Cx RX10 cX10_leap 6 (some .int) wvX10_leap D ct A p s m ([.ref q_t, .int p1, .int p2, .int p3]).toArray meth c := ⟨hx, hb, hml, hown, hts, hr, hlocks, hE, hA⟩
  have hS : ∀ H : Heap, s.heap = H → va_S A s.heap H [] := fun H h => h ▸ va_S.rf
  generalize hH : s.heap = H at hP ⊢
  have hS := hS H hH
  unfold FX10_leap at hF
  refine lv_aload_n hx hb dX10_leap_0 rfl (lv_at hl 0 rfl) ?_
  refine lv_iload_n hx hb dX10_leap_1 rfl (lv_at hl 1 rfl) ?_
  refine lv_iload_n hx hb dX10_leap_2 rfl (lv_at hl 2 rfl) ?_
  refine lv_iload_n hx hb dX10_leap_3 rfl (lv_at hl 3 rfl) ?_
  refine lv_iconst (v := 1) hx hb dX10_leap_4 (by decide) ?_
  refine lv_isub hx hb dX10_leap_5 ?_
  obtain ⟨r1, h2, hF⟩ := ob1_ex hF
  refine xiR (va_runV (As := [.int p1, .int p2, .int (p3 - 1)]) (rest := []) ⟨hx, hb, hml, hown, hts⟩ (met_X10_reading l D ct q_t q_t_readings q_t_many q_t_joined q_t_finals q_t_when q_t_mean q_t_left q_t_ends q_t_measures q_t_pointTime q_t_point q_t_pointEnd q_t_first q_t_length q_t_up q_t_down q_t_height q_t_tape q_t_index q_t_newIndex q_t_trainFrom q_t_trainTo q_t_published H.size t_thrown t_end t_points t_pieces t_lowUp t_lowDown t_highUp t_highDown t_taped t_size t_at t_fault t_place t_clauses t_limit t_near t_shareOne t_shareOf t_window t_storm t_indexMany t_newLimit t_newNear t_newOne t_newOf t_newWindow t_newStorm t_newMany t_began t_trains t_publishings t_readings t_many p1 p2 (p3 - 1) n r1 h2) (cwV 3 hts (gqV CW10_good (List.mem_of_getElem? (i := 65) rfl) (List.mem_of_getElem? (i := 66) rfl) (List.mem_of_getElem? (i := 67) rfl) (List.mem_of_getElem? (i := 42) rfl) (gself CW10_good (List.mem_of_getElem? (i := 63) rfl))) rfl rfl rfl (by decide +kernel) ⟨Nat.le_of_ble_eq_true rfl, Nat.le_of_ble_eq_true rfl⟩) ⟨blind_, va_recv hE.1 hP (ci := 10) (q0 := 0) rfl rfl, mkpre_ hE hP hD⟩ rfl rfl hl.1 rfl (lv_room (Nat.le_of_ble_eq_true rfl)) dX10_leap_6 ⟨Nat.le_of_ble_eq_true rfl, Nat.le_of_ble_eq_true rfl⟩) hP hD hS hA [0, 1, 2] rfl (fun H locs hP hD hS => ?_)
  refine lv_istore (lv' := [(4, .int r1), (0, .ref q_t), (1, .int p1), (2, .int p2), (3, .int p3)]) hx hb dX10_leap_9 hl (by decide) rfl (fun ls hl => ?_)
  refine lv_aload_n hx hb dX10_leap_11 rfl (lv_at hl 1 rfl) ?_
  refine lv_iload_n hx hb dX10_leap_12 rfl (lv_at hl 2 rfl) ?_
  refine lv_iload_n hx hb dX10_leap_13 rfl (lv_at hl 3 rfl) ?_
  refine lv_iload_n hx hb dX10_leap_14 rfl (lv_at hl 4 rfl) ?_
  obtain ⟨r3, h4, hF⟩ := ob1_ex hF
  refine xiR (va_runV (As := [.int p1, .int p2, .int p3]) (rest := []) ⟨hx, hb, hml, hown, hts⟩ (met_X10_reading l D ct q_t q_t_readings q_t_many q_t_joined q_t_finals q_t_when q_t_mean q_t_left q_t_ends q_t_measures q_t_pointTime q_t_point q_t_pointEnd q_t_first q_t_length q_t_up q_t_down q_t_height q_t_tape q_t_index q_t_newIndex q_t_trainFrom q_t_trainTo q_t_published H.size t_thrown t_end t_points t_pieces t_lowUp t_lowDown t_highUp t_highDown t_taped t_size t_at t_fault t_place t_clauses t_limit t_near t_shareOne t_shareOf t_window t_storm t_indexMany t_newLimit t_newNear t_newOne t_newOf t_newWindow t_newStorm t_newMany t_began t_trains t_publishings t_readings t_many p1 p2 p3 n r3 h4) (cwV 3 hts (gqV CW10_good (List.mem_of_getElem? (i := 65) rfl) (List.mem_of_getElem? (i := 66) rfl) (List.mem_of_getElem? (i := 67) rfl) (List.mem_of_getElem? (i := 42) rfl) (gself CW10_good (List.mem_of_getElem? (i := 63) rfl))) rfl rfl rfl (by decide +kernel) ⟨Nat.le_of_ble_eq_true rfl, Nat.le_of_ble_eq_true rfl⟩) ⟨blind_, va_recv hE.1 hP (ci := 10) (q0 := 0) rfl rfl, mkpre_ hE hP hD⟩ rfl rfl hl.1 rfl (lv_room (Nat.le_of_ble_eq_true rfl)) dX10_leap_15 ⟨Nat.le_of_ble_eq_true rfl, Nat.le_of_ble_eq_true rfl⟩) hP hD hS hA [0, 1, 2] rfl (fun H locs hP hD hS => ?_)
  refine lv_istore (lv' := [(5, .int r3), (4, .int r1), (0, .ref q_t), (1, .int p1), (2, .int p2), (3, .int p3)]) hx hb dX10_leap_18 hl (by decide) rfl (fun ls hl => ?_)
  refine lv_iload hx hb dX10_leap_20 (lv_at hl 1 rfl) ?_
  refine lv_ldc hx hb hown (hts (.constant RX10 113 (-2000000000)) (List.mem_cons_of_mem _ (List.mem_of_getElem? (i := 39) rfl))) dX10_leap_22 ?_
  refine lv_icmp_eq (tgt := 34) hx hb dX10_leap_24 (by decide) (fun c5 => ?_) (fun c5 => ?_)
  · have hF := ifT c5 hF
    refine lv_iconst (v := (-1)) hx hb dX10_leap_34 (by decide) ?_
    refine lv_goto (tgt := 45) hx hb dX10_leap_35 (by decide) ?_
    obtain rfl := Option.some.inj hF
    exact W.iret hx hb hr (fun t ht hW => ⟨⟨_, (), rfl, rfl, vaP_at ht hP⟩, hS.F ht⟩) hS.2.2 dX10_leap_45
  · have hF := ifF c5 hF
    refine lv_iload hx hb dX10_leap_27 (lv_at hl 0 rfl) ?_
    refine lv_ldc hx hb hown (hts (.constant RX10 113 (-2000000000)) (List.mem_cons_of_mem _ (List.mem_of_getElem? (i := 39) rfl))) dX10_leap_29 ?_
    refine lv_icmp_ne (tgt := 38) hx hb dX10_leap_31 (by decide) (fun c6 => ?_) (fun c6 => ?_)
    · have hF := ifF c6 hF
      refine lv_iload hx hb dX10_leap_38 (lv_at hl 1 rfl) ?_
      refine lv_iload hx hb dX10_leap_40 (lv_at hl 0 rfl) ?_
      obtain ⟨r7, h8, hF⟩ := ob1_ex hF
      refine xiR (va_runS (As := [.int r1, .int r3]) (rest := []) ⟨hx, hb, hml, hown, hts⟩ (met_X10_apart l D ct H.size r1 r3 n r7 h8) (va_cwS 2 hts (gqS CW10_good (List.mem_of_getElem? (i := 73) rfl) (List.mem_of_getElem? (i := 74) rfl) (List.mem_of_getElem? (i := 42) rfl) (gself CW10_good (List.mem_of_getElem? (i := 71) rfl))) rfl rfl rfl (by decide +kernel) ⟨Nat.le_of_ble_eq_true rfl, Nat.le_of_ble_eq_true rfl⟩) ⟨blind_, mkpre_ hE (hP.sub [] rfl) (hD.sub [] (by decide) rfl)⟩ rfl rfl hl.1 rfl (lv_room (Nat.le_of_ble_eq_true rfl)) dX10_leap_42 ⟨Nat.le_of_ble_eq_true rfl, Nat.le_of_ble_eq_true rfl⟩) hP hD hS hA [] rfl (fun H locs hP hD hS => ?_)
      obtain rfl := Option.some.inj hF
      exact W.iret hx hb hr (fun t ht hW => ⟨⟨_, (), rfl, rfl, vaP_at ht hP⟩, hS.F ht⟩) hS.2.2 dX10_leap_45
    · have hF := ifT c6 hF
      refine lv_iconst (v := (-1)) hx hb dX10_leap_34 (by decide) ?_
      refine lv_goto (tgt := 45) hx hb dX10_leap_35 (by decide) ?_
      obtain rfl := Option.some.inj hF
      exact W.iret hx hb hr (fun t ht hW => ⟨⟨_, (), rfl, rfl, vaP_at ht hP⟩, hS.F ht⟩) hS.2.2 dX10_leap_45
