def W_12 (ct : Nat → ClassId) (a0 a1 a2 a3 a4 a5 a6 a7 a8 : Nat) (v0 : Int32) (v1 : Int32) (v2 : Int64) (v3 : Int64) (v4 : Int64) (v5 : Int64) : va_W := [(a0, .inr (1, [.ref a1, .ref a2, .ref a3, .int v0, .ref a4, .ref a5, .ref a6, .ref a7, .ref a8, .int v1, .long v2, .long v3, .long v4, .long v5]))]
/-! NeedleHouse$Pieces.size()I -/
theorem i_X1_size_X1 : ∀ w ∈ wsX10, w ∈ wsX1_size := by decide +kernel
set_option maxHeartbeats 4000000 in
set_option maxRecDepth 100000 in
theorem met_X1_size (l : Launch) (D : va_G) (ct : Nat → ClassId) (q_t : Nat) (q_t_times : Nat) (q_t_lows : Nat) (q_t_highs : Nat) (q_t_firsts : Nat) (q_t_lengths : Nat) (q_t_uppers : Nat) (q_t_lowers : Nat) (q_t_middles : Nat) (sz : Nat) (t_points : Int32) (t_size : Int32) (t_leastUpper : Int64) (t_leastLower : Int64) (t_mostUpper : Int64) (t_mostLower : Int64) (n : Nat) (o_r : Int32) (hF : FX1_size n t_size = some (o_r)) : Met l yX1_size wsX1_size ({ frames := 0, cells := 0, slots := 0, locals := 0 } : Room) (va_Pc [.ref q_t] (pre_ D ct sz (W_12 ct q_t q_t_times q_t_lows q_t_highs q_t_firsts q_t_lengths q_t_uppers q_t_lowers q_t_middles t_points t_size t_leastUpper t_leastLower t_mostUpper t_mostLower))) (va_Qi (fun r (_ : Unit) => r = o_r) (fun _ t => va_P D vwCl (W_12 ct q_t q_t_times q_t_lows q_t_highs q_t_firsts q_t_lengths q_t_uppers q_t_lowers q_t_middles t_points t_size t_leastUpper t_leastLower t_mostUpper t_mostLower) t.heap) (va_A (W_12 ct q_t q_t_times q_t_lows q_t_highs q_t_firsts q_t_lengths q_t_uppers q_t_lowers q_t_middles t_points t_size t_leastUpper t_leastLower t_mostUpper t_mostLower) sz)) 0 0 (va_A (W_12 ct q_t q_t_times q_t_lows q_t_highs q_t_firsts q_t_lengths q_t_uppers q_t_lowers q_t_middles t_points t_size t_leastUpper t_leastLower t_mostUpper t_mostLower) sz) := by
  refine Met.ofW (cc := cX1_size) (maxL := 1) (ret := (some .int)) (by decide) rfl ?_
  intro p e s m args below meth c s₁ B hml hv
  obtain ⟨rfl, hsz, hP, hE, hD0⟩ := hv
  have hx := B.exec
  have hb := B.bytes
  have hr := B.returns
  have hts := atoms_spec (ws := wsX1_size) B.pre
  have hown : s.vm.findClass RX1 = some m.cls := findClass_of_methodNamed B.named
  have hlocks := B.notSynchronized
  subst hsz
  have hD := hD0.self (sz := s.heap.size)
  generalize hAe : va_A (W_12 ct q_t q_t_times q_t_lows q_t_highs q_t_firsts q_t_lengths q_t_uppers q_t_lowers q_t_middles t_points t_size t_leastUpper t_leastLower t_mostUpper t_mostLower) s.heap.size = A at hD ⊢
  have hA : ∀ q : Nat, s.heap.size ≤ q → A q := fun q h => by rw [← hAe]; exact Or.inr h
  have hl := lv_entry ([.ref q_t]) (n := 1) (Nat.le_of_ble_eq_true rfl)
  rw [lg_entry_eq]
  generalize (lg_sl ([.ref q_t]) ++ List.replicate (1 - (lg_sl ([.ref q_t])).length) Slot.unset).toArray = ls at hl ⊢
  have hl : lv_has ls 1 [(0, .ref q_t)] := hl
  have C0 : Cx RX1 cX1_size 1 (some .int) wsX1_size D ct A p s m ([.ref q_t]).toArray meth c := ⟨hx, hb, hml, hown, hts, hr, hlocks, hE, hA⟩
  have hS : ∀ H : Heap, s.heap = H → va_S A s.heap H [] := fun H h => h ▸ va_S.rf
  generalize hH : s.heap = H at hP ⊢
  have hS := hS H hH
  unfold FX1_size at hF
  refine lv_aload_n hx hb dX1_size_0 rfl (lv_at hl 0 rfl) ?_
  refine va_get (D := D) (ci := 1) (v := .int t_size) (C := RX1) (T := TX1) (N := 14) hx hb hts i_X1_size_X1 hown hE.1 hP 0 rfl rfl 9 (by decide) (hts (.fieldLink RX1 41 "NeedleHouse$Pieces" "size" "I") (by decide +kernel)) (fun _ h9 => h9) rfl dX1_size_1 ?_
  obtain rfl := Option.some.inj hF
  exact W.iret hx hb hr (fun t ht hW => ⟨⟨_, (), rfl, rfl, vaP_at ht hP⟩, hS.F ht⟩) hS.2.2 dX1_size_4
/-! NeedleHouse$Pieces.clear()V -/
theorem i_X1_clear_X1 : ∀ w ∈ wsX10, w ∈ wsX1_clear := by decide +kernel
set_option maxHeartbeats 4000000 in
set_option maxRecDepth 100000 in
theorem met_X1_clear (l : Launch) (D : va_G) (ct : Nat → ClassId) (q_t : Nat) (q_t_times : Nat) (q_t_lows : Nat) (q_t_highs : Nat) (q_t_firsts : Nat) (q_t_lengths : Nat) (q_t_uppers : Nat) (q_t_lowers : Nat) (q_t_middles : Nat) (sz : Nat) (t_points : Int32) (t_size : Int32) (t_leastUpper : Int64) (t_leastLower : Int64) (t_mostUpper : Int64) (t_mostLower : Int64) (n : Nat) (o_t_points : Int32) (o_t_size : Int32) (hF : FX1_clear n t_points t_size = some (o_t_points, o_t_size)) : Met l yX1_clear wsX1_clear ({ frames := 0, cells := 0, slots := 0, locals := 0 } : Room) (va_Pc [.ref q_t] (pre_ D ct sz (W_12 ct q_t q_t_times q_t_lows q_t_highs q_t_firsts q_t_lengths q_t_uppers q_t_lowers q_t_middles t_points t_size t_leastUpper t_leastLower t_mostUpper t_mostLower))) (va_Qv (fun (_ : Unit) => True) (fun _ t => va_P D vwCl (W_12 ct q_t q_t_times q_t_lows q_t_highs q_t_firsts q_t_lengths q_t_uppers q_t_lowers q_t_middles o_t_points o_t_size t_leastUpper t_leastLower t_mostUpper t_mostLower) t.heap) (va_A (W_12 ct q_t q_t_times q_t_lows q_t_highs q_t_firsts q_t_lengths q_t_uppers q_t_lowers q_t_middles t_points t_size t_leastUpper t_leastLower t_mostUpper t_mostLower) sz)) 0 0 (va_A (W_12 ct q_t q_t_times q_t_lows q_t_highs q_t_firsts q_t_lengths q_t_uppers q_t_lowers q_t_middles t_points t_size t_leastUpper t_leastLower t_mostUpper t_mostLower) sz) := by
  refine Met.ofW (cc := cX1_clear) (maxL := 1) (ret := none) (by decide) rfl ?_
  intro p e s m args below meth c s₁ B hml hv
  obtain ⟨rfl, hsz, hP, hE, hD0⟩ := hv
  have hx := B.exec
  have hb := B.bytes
  have hr := B.returns
  have hts := atoms_spec (ws := wsX1_clear) B.pre
  have hown : s.vm.findClass RX1 = some m.cls := findClass_of_methodNamed B.named
  have hlocks := B.notSynchronized
  subst hsz
  have hD := hD0.self (sz := s.heap.size)
  generalize hAe : va_A (W_12 ct q_t q_t_times q_t_lows q_t_highs q_t_firsts q_t_lengths q_t_uppers q_t_lowers q_t_middles t_points t_size t_leastUpper t_leastLower t_mostUpper t_mostLower) s.heap.size = A at hD ⊢
  have hA : ∀ q : Nat, s.heap.size ≤ q → A q := fun q h => by rw [← hAe]; exact Or.inr h
  have hl := lv_entry ([.ref q_t]) (n := 1) (Nat.le_of_ble_eq_true rfl)
  rw [lg_entry_eq]
  generalize (lg_sl ([.ref q_t]) ++ List.replicate (1 - (lg_sl ([.ref q_t])).length) Slot.unset).toArray = ls at hl ⊢
  have hl : lv_has ls 1 [(0, .ref q_t)] := hl
  have C0 : Cx RX1 cX1_clear 1 none wsX1_clear D ct A p s m ([.ref q_t]).toArray meth c := ⟨hx, hb, hml, hown, hts, hr, hlocks, hE, hA⟩
  have hS : ∀ H : Heap, s.heap = H → va_S A s.heap H [] := fun H h => h ▸ va_S.rf
  generalize hH : s.heap = H at hP ⊢
  have hS := hS H hH
  unfold FX1_clear at hF
  refine lv_aload_n hx hb dX1_clear_0 rfl (lv_at hl 0 rfl) ?_
  refine lv_iconst (v := 0) hx hb dX1_clear_1 (by decide) ?_
  refine va_put (D := D) (ci := 1) (v := .int 0) (ty := .int) (C := RX1) (T := TX1) (N := 14) hx hb hts i_X1_clear_X1 tyX1 tyX1_ok nmX1 hown hE.1 hP hD hS 0 rfl rfl 3 (by decide) (hts (.fieldLink RX1 37 "NeedleHouse$Pieces" "points" "I") (by decide +kernel)) (fun _ h9 => h9) rfl (by decide +kernel) rfl rfl (Nat.le_of_ble_eq_true rfl) dX1_clear_2 (fun H locs hP hD hS => ?_)
  have hP : va_P D vwCl (W_12 ct q_t q_t_times q_t_lows q_t_highs q_t_firsts q_t_lengths q_t_uppers q_t_lowers q_t_middles 0 t_size t_leastUpper t_leastLower t_mostUpper t_mostLower) H := hP
  have hD : va_D A (W_12 ct q_t q_t_times q_t_lows q_t_highs q_t_firsts q_t_lengths q_t_uppers q_t_lowers q_t_middles 0 t_size t_leastUpper t_leastLower t_mostUpper t_mostLower) := hD
  refine lv_aload_n hx hb dX1_clear_5 rfl (lv_at hl 0 rfl) ?_
  refine lv_iconst (v := 0) hx hb dX1_clear_6 (by decide) ?_
  refine va_put (D := D) (ci := 1) (v := .int 0) (ty := .int) (C := RX1) (T := TX1) (N := 14) hx hb hts i_X1_clear_X1 tyX1 tyX1_ok nmX1 hown hE.1 hP hD hS 0 rfl rfl 9 (by decide) (hts (.fieldLink RX1 41 "NeedleHouse$Pieces" "size" "I") (by decide +kernel)) (fun _ h9 => h9) rfl (by decide +kernel) rfl rfl (Nat.le_of_ble_eq_true rfl) dX1_clear_7 (fun H locs hP hD hS => ?_)
  have hP : va_P D vwCl (W_12 ct q_t q_t_times q_t_lows q_t_highs q_t_firsts q_t_lengths q_t_uppers q_t_lowers q_t_middles 0 0 t_leastUpper t_leastLower t_mostUpper t_mostLower) H := hP
  have hD : va_D A (W_12 ct q_t q_t_times q_t_lows q_t_highs q_t_firsts q_t_lengths q_t_uppers q_t_lowers q_t_middles 0 0 t_leastUpper t_leastLower t_mostUpper t_mostLower) := hD
  obtain ⟨rfl, rfl⟩ := in2 hF
  exact W.vret hx hb hr (fun t ht hW => ⟨⟨(), rfl, trivial, vaP_at ht hP⟩, hS.F ht⟩) hS.2.2 dX1_clear_10
def W_13 (ct : Nat → ClassId) (a0 a1 a2 a3 a4 a5 a6 a7 a8 : Nat) (v0 : Int32) (v1 : Int32) (v2 : Int64) (v3 : Int64) (v4 : Int64) (v5 : Int64) (v6 : Nat → Int32) (v7 : Nat → Int32) (v8 : Nat → Int32) : va_W := [(a0, .inr (1, [.ref a1, .ref a2, .ref a3, .int v0, .ref a4, .ref a5, .ref a6, .ref a7, .ref a8, .int v1, .long v2, .long v3, .long v4, .long v5])), (a1, .inl (ct 0, 20, .inl v6)), (a2, .inl (ct 0, 20, .inl v7)), (a3, .inl (ct 0, 20, .inl v8))]
/-! NeedleHouse$Pieces.addPoint(III)V -/
theorem i_X1_addPoint_X1 : ∀ w ∈ wsX10, w ∈ wsX1_addPoint := by decide +kernel
set_option maxHeartbeats 4000000 in
set_option maxRecDepth 100000 in
theorem met_X1_addPoint (l : Launch) (D : va_G) (ct : Nat → ClassId) (q_t : Nat) (q_t_times : Nat) (q_t_lows : Nat) (q_t_highs : Nat) (q_t_firsts : Nat) (q_t_lengths : Nat) (q_t_uppers : Nat) (q_t_lowers : Nat) (q_t_middles : Nat) (sz : Nat) (t_points : Int32) (t_size : Int32) (t_leastUpper : Int64) (t_leastLower : Int64) (t_mostUpper : Int64) (t_mostLower : Int64) (t_times : Nat → Int32) (t_lows : Nat → Int32) (t_highs : Nat → Int32) (p1 : Int32) (p2 : Int32) (p3 : Int32) (n : Nat) (o_t_points : Int32) (o_t_times : Nat → Int32) (o_t_lows : Nat → Int32) (o_t_highs : Nat → Int32) (hF : FX1_addPoint n t_points t_times t_lows t_highs p1 p2 p3 = some (o_t_points, o_t_times, o_t_lows, o_t_highs)) : Met l yX1_addPoint wsX1_addPoint ({ frames := 0, cells := 0, slots := 0, locals := 0 } : Room) (va_Pc [.ref q_t, .int p1, .int p2, .int p3] (pre_ D ct sz (W_13 ct q_t q_t_times q_t_lows q_t_highs q_t_firsts q_t_lengths q_t_uppers q_t_lowers q_t_middles t_points t_size t_leastUpper t_leastLower t_mostUpper t_mostLower t_times t_lows t_highs))) (va_Qv (fun (_ : Unit) => True) (fun _ t => va_P D vwCl (W_13 ct q_t q_t_times q_t_lows q_t_highs q_t_firsts q_t_lengths q_t_uppers q_t_lowers q_t_middles o_t_points t_size t_leastUpper t_leastLower t_mostUpper t_mostLower o_t_times o_t_lows o_t_highs) t.heap) (va_A (W_13 ct q_t q_t_times q_t_lows q_t_highs q_t_firsts q_t_lengths q_t_uppers q_t_lowers q_t_middles t_points t_size t_leastUpper t_leastLower t_mostUpper t_mostLower t_times t_lows t_highs) sz)) 0 0 (va_A (W_13 ct q_t q_t_times q_t_lows q_t_highs q_t_firsts q_t_lengths q_t_uppers q_t_lowers q_t_middles t_points t_size t_leastUpper t_leastLower t_mostUpper t_mostLower t_times t_lows t_highs) sz) := by
  refine Met.ofW (cc := cX1_addPoint) (maxL := 4) (ret := none) (by decide) rfl ?_
  intro p e s m args below meth c s₁ B hml hv
  obtain ⟨rfl, hsz, hP, hE, hD0⟩ := hv
  have hx := B.exec
  have hb := B.bytes
  have hr := B.returns
  have hts := atoms_spec (ws := wsX1_addPoint) B.pre
  have hown : s.vm.findClass RX1 = some m.cls := findClass_of_methodNamed B.named
  have hlocks := B.notSynchronized
  subst hsz
  have hD := hD0.self (sz := s.heap.size)
  generalize hAe : va_A (W_13 ct q_t q_t_times q_t_lows q_t_highs q_t_firsts q_t_lengths q_t_uppers q_t_lowers q_t_middles t_points t_size t_leastUpper t_leastLower t_mostUpper t_mostLower t_times t_lows t_highs) s.heap.size = A at hD ⊢
  have hA : ∀ q : Nat, s.heap.size ≤ q → A q := fun q h => by rw [← hAe]; exact Or.inr h
  have hl := lv_entry ([.ref q_t, .int p1, .int p2, .int p3]) (n := 4) (Nat.le_of_ble_eq_true rfl)
  rw [lg_entry_eq]
  generalize (lg_sl ([.ref q_t, .int p1, .int p2, .int p3]) ++ List.replicate (4 - (lg_sl ([.ref q_t, .int p1, .int p2, .int p3])).length) Slot.unset).toArray = ls at hl ⊢
  have hl : lv_has ls 4 [(0, .ref q_t), (1, .int p1), (2, .int p2), (3, .int p3)] := hl
  have C0 : Cx RX1 cX1_addPoint 4 none wsX1_addPoint D ct A p s m ([.ref q_t, .int p1, .int p2, .int p3]).toArray meth c := ⟨hx, hb, hml, hown, hts, hr, hlocks, hE, hA⟩
  have hS : ∀ H : Heap, s.heap = H → va_S A s.heap H [] := fun H h => h ▸ va_S.rf
  generalize hH : s.heap = H at hP ⊢
  have hS := hS H hH
  unfold FX1_addPoint at hF
  refine lv_aload_n hx hb dX1_addPoint_0 rfl (lv_at hl 0 rfl) ?_
  refine va_get (D := D) (ci := 1) (v := .int t_points) (C := RX1) (T := TX1) (N := 14) hx hb hts i_X1_addPoint_X1 hown hE.1 hP 0 rfl rfl 3 (by decide) (hts (.fieldLink RX1 37 "NeedleHouse$Pieces" "points" "I") (by decide +kernel)) (fun _ h9 => h9) rfl dX1_addPoint_1 ?_
  refine lv_bipush (v := 20) hx hb dX1_addPoint_4 (by decide) ?_
  refine lv_icmp_lt (tgt := 10) hx hb dX1_addPoint_6 (by decide) (fun c1 => ?_) (fun c1 => ?_)
  · have hF := ifT c1 hF
    refine lv_aload_n hx hb dX1_addPoint_10 rfl (lv_at hl 0 rfl) ?_
    refine va_get (D := D) (ci := 1) (v := .ref q_t_times) (C := RX1) (T := TX1) (N := 14) hx hb hts i_X1_addPoint_X1 hown hE.1 hP 0 rfl rfl 0 (by decide) (hts (.fieldLink RX1 9 "NeedleHouse$Pieces" "times" "[I") (by decide +kernel)) (fun _ h9 => h9) rfl dX1_addPoint_11 ?_
    refine lv_aload_n hx hb dX1_addPoint_14 rfl (lv_at hl 0 rfl) ?_
    refine va_get (D := D) (ci := 1) (v := .int t_points) (C := RX1) (T := TX1) (N := 14) hx hb hts i_X1_addPoint_X1 hown hE.1 hP 0 rfl rfl 3 (by decide) (hts (.fieldLink RX1 37 "NeedleHouse$Pieces" "points" "I") (by decide +kernel)) (fun _ h9 => h9) rfl dX1_addPoint_15 ?_
    refine lv_iload_n hx hb dX1_addPoint_18 rfl (lv_at hl 1 rfl) ?_
    obtain ⟨h2, hF⟩ := gd_ex hF
    obtain ⟨f3, ef3, hF⟩ := bn_ex hF
    refine va_iast hx hb hE.1 hP hD hS 1 0 rfl rfl h2 dX1_addPoint_19 (fun H locs hP hD hS => ?_)
    have hP : va_P D vwCl (W_13 ct q_t q_t_times q_t_lows q_t_highs q_t_firsts q_t_lengths q_t_uppers q_t_lowers q_t_middles t_points t_size t_leastUpper t_leastLower t_mostUpper t_mostLower f3 t_lows t_highs) H := by rw [ef3]; exact hP
    have hD : va_D A (W_13 ct q_t q_t_times q_t_lows q_t_highs q_t_firsts q_t_lengths q_t_uppers q_t_lowers q_t_middles t_points t_size t_leastUpper t_leastLower t_mostUpper t_mostLower f3 t_lows t_highs) := by rw [ef3]; exact hD
    refine lv_aload_n hx hb dX1_addPoint_20 rfl (lv_at hl 0 rfl) ?_
    refine va_get (D := D) (ci := 1) (v := .ref q_t_lows) (C := RX1) (T := TX1) (N := 14) hx hb hts i_X1_addPoint_X1 hown hE.1 hP 0 rfl rfl 1 (by decide) (hts (.fieldLink RX1 15 "NeedleHouse$Pieces" "lows" "[I") (by decide +kernel)) (fun _ h9 => h9) rfl dX1_addPoint_21 ?_
    refine lv_aload_n hx hb dX1_addPoint_24 rfl (lv_at hl 0 rfl) ?_
    refine va_get (D := D) (ci := 1) (v := .int t_points) (C := RX1) (T := TX1) (N := 14) hx hb hts i_X1_addPoint_X1 hown hE.1 hP 0 rfl rfl 3 (by decide) (hts (.fieldLink RX1 37 "NeedleHouse$Pieces" "points" "I") (by decide +kernel)) (fun _ h9 => h9) rfl dX1_addPoint_25 ?_
    refine lv_iload_n hx hb dX1_addPoint_28 rfl (lv_at hl 2 rfl) ?_
    refine lv_iload_n hx hb dX1_addPoint_29 rfl (lv_at hl 3 rfl) ?_
    refine lv_isub hx hb dX1_addPoint_30 ?_
    obtain ⟨h4, hF⟩ := gd_ex hF
    obtain ⟨f5, ef5, hF⟩ := bn_ex hF
    refine va_iast hx hb hE.1 hP hD hS 2 0 rfl rfl h4 dX1_addPoint_31 (fun H locs hP hD hS => ?_)
    have hP : va_P D vwCl (W_13 ct q_t q_t_times q_t_lows q_t_highs q_t_firsts q_t_lengths q_t_uppers q_t_lowers q_t_middles t_points t_size t_leastUpper t_leastLower t_mostUpper t_mostLower f3 f5 t_highs) H := by rw [ef5]; exact hP
    have hD : va_D A (W_13 ct q_t q_t_times q_t_lows q_t_highs q_t_firsts q_t_lengths q_t_uppers q_t_lowers q_t_middles t_points t_size t_leastUpper t_leastLower t_mostUpper t_mostLower f3 f5 t_highs) := by rw [ef5]; exact hD
    refine lv_aload_n hx hb dX1_addPoint_32 rfl (lv_at hl 0 rfl) ?_
    refine va_get (D := D) (ci := 1) (v := .ref q_t_highs) (C := RX1) (T := TX1) (N := 14) hx hb hts i_X1_addPoint_X1 hown hE.1 hP 0 rfl rfl 2 (by decide) (hts (.fieldLink RX1 18 "NeedleHouse$Pieces" "highs" "[I") (by decide +kernel)) (fun _ h9 => h9) rfl dX1_addPoint_33 ?_
    refine lv_aload_n hx hb dX1_addPoint_36 rfl (lv_at hl 0 rfl) ?_
    refine va_get (D := D) (ci := 1) (v := .int t_points) (C := RX1) (T := TX1) (N := 14) hx hb hts i_X1_addPoint_X1 hown hE.1 hP 0 rfl rfl 3 (by decide) (hts (.fieldLink RX1 37 "NeedleHouse$Pieces" "points" "I") (by decide +kernel)) (fun _ h9 => h9) rfl dX1_addPoint_37 ?_
    refine lv_iload_n hx hb dX1_addPoint_40 rfl (lv_at hl 2 rfl) ?_
    refine lv_iload_n hx hb dX1_addPoint_41 rfl (lv_at hl 3 rfl) ?_
    refine lv_iadd hx hb dX1_addPoint_42 ?_
    obtain ⟨h6, hF⟩ := gd_ex hF
    obtain ⟨f7, ef7, hF⟩ := bn_ex hF
    refine va_iast hx hb hE.1 hP hD hS 3 0 rfl rfl h6 dX1_addPoint_43 (fun H locs hP hD hS => ?_)
    have hP : va_P D vwCl (W_13 ct q_t q_t_times q_t_lows q_t_highs q_t_firsts q_t_lengths q_t_uppers q_t_lowers q_t_middles t_points t_size t_leastUpper t_leastLower t_mostUpper t_mostLower f3 f5 f7) H := by rw [ef7]; exact hP
    have hD : va_D A (W_13 ct q_t q_t_times q_t_lows q_t_highs q_t_firsts q_t_lengths q_t_uppers q_t_lowers q_t_middles t_points t_size t_leastUpper t_leastLower t_mostUpper t_mostLower f3 f5 f7) := by rw [ef7]; exact hD
    refine lv_aload_n hx hb dX1_addPoint_44 rfl (lv_at hl 0 rfl) ?_
    refine lv_dup hx hb dX1_addPoint_45 rfl ?_
    refine va_get (D := D) (ci := 1) (v := .int t_points) (C := RX1) (T := TX1) (N := 14) hx hb hts i_X1_addPoint_X1 hown hE.1 hP 0 rfl rfl 3 (by decide) (hts (.fieldLink RX1 37 "NeedleHouse$Pieces" "points" "I") (by decide +kernel)) (fun _ h9 => h9) rfl dX1_addPoint_46 ?_
    refine lv_iconst (v := 1) hx hb dX1_addPoint_49 (by decide) ?_
    refine lv_iadd hx hb dX1_addPoint_50 ?_
    refine lv_topi (fun x8 ex8 => ?_)
    have hF := bn_as ex8 hF
    refine va_put (D := D) (ci := 1) (v := .int x8) (ty := .int) (C := RX1) (T := TX1) (N := 14) hx hb hts i_X1_addPoint_X1 tyX1 tyX1_ok nmX1 hown hE.1 hP hD hS 0 rfl rfl 3 (by decide) (hts (.fieldLink RX1 37 "NeedleHouse$Pieces" "points" "I") (by decide +kernel)) (fun _ h9 => h9) rfl (by decide +kernel) rfl rfl (Nat.le_of_ble_eq_true rfl) dX1_addPoint_51 (fun H locs hP hD hS => ?_)
    have hP : va_P D vwCl (W_13 ct q_t q_t_times q_t_lows q_t_highs q_t_firsts q_t_lengths q_t_uppers q_t_lowers q_t_middles x8 t_size t_leastUpper t_leastLower t_mostUpper t_mostLower f3 f5 f7) H := hP
    have hD : va_D A (W_13 ct q_t q_t_times q_t_lows q_t_highs q_t_firsts q_t_lengths q_t_uppers q_t_lowers q_t_middles x8 t_size t_leastUpper t_leastLower t_mostUpper t_mostLower f3 f5 f7) := hD
    obtain ⟨rfl, rfl, rfl, rfl⟩ := in4 hF
    exact W.vret hx hb hr (fun t ht hW => ⟨⟨(), rfl, trivial, vaP_at ht hP⟩, hS.F ht⟩) hS.2.2 dX1_addPoint_54
  · have hF := ifF c1 hF
    obtain ⟨rfl, rfl, rfl, rfl⟩ := in4 hF
    exact W.vret hx hb hr (fun t ht hW => ⟨⟨(), rfl, trivial, vaP_at ht hP⟩, hS.F ht⟩) hS.2.2 dX1_addPoint_9
/-! NeedleHouse$Pieces.fits(II)Z -/
theorem i_X1_fits_X1 : ∀ w ∈ wsX10, w ∈ wsX1_fits := by decide +kernel
set_option maxHeartbeats 4000000 in
set_option maxRecDepth 100000 in
theorem jX1_fits_111 {p : Program} {l : Launch} {e : Env} {s : State} {m : MethodId} {args : Array Value} {below : List Frame} {meth : Method} {c : Code} {D : va_G} {ct : Nat → ClassId} {A : Nat → Prop} {q_t q_t_times q_t_lows q_t_highs q_t_firsts q_t_lengths q_t_uppers q_t_lowers q_t_middles : Nat} {t_points : Int32} {t_size : Int32} {t_times : Nat → Int32} {t_lows : Nat → Int32} {t_highs : Nat → Int32} {o_r : Int32} {o_t_leastUpper : Int64} {o_t_leastLower : Int64} {o_t_mostUpper : Int64} {o_t_mostLower : Int64} (C0 : Cx RX1 cX1_fits 12 (some .boolean) wsX1_fits D ct A p s m args meth c) (k5 : Int64 → Int64 → Int64 → Int64 → (Nat → Int32) → (Nat → Int32) → (Nat → Int32) → Int32 → Int32 → Int32 → Option (Int32 × Int64 × Int64 × Int64 × Int64)) (hk5 : ∀ (t_leastUpper : Int64) (t_leastLower : Int64) (t_mostUpper : Int64) (t_mostLower : Int64) (x_2 : Int32) (x_3 : Int32) (x_4 : Int32) (H : Heap) (locs : List Loc) (ls : Array Slot), k5 t_leastUpper t_leastLower t_mostUpper t_mostLower t_times t_lows t_highs x_2 x_3 x_4 = some (o_r, o_t_leastUpper, o_t_leastLower, o_t_mostUpper, o_t_mostLower) → va_P D vwCl (W_13 ct q_t q_t_times q_t_lows q_t_highs q_t_firsts q_t_lengths q_t_uppers q_t_lowers q_t_middles t_points t_size t_leastUpper t_leastLower t_mostUpper t_mostLower t_times t_lows t_highs) H → va_D A (W_13 ct q_t q_t_times q_t_lows q_t_highs q_t_firsts q_t_lengths q_t_uppers q_t_lowers q_t_middles t_points t_size t_leastUpper t_leastLower t_mostUpper t_mostLower t_times t_lows t_highs) → va_S A s.heap H locs → lv_has ls 12 [(0, .ref q_t), (2, .int x_2), (3, .int x_3), (4, .int x_4)] → W p l e ({ frames := 0, cells := 0, slots := 0, locals := 0 } : Room) s m args below meth c H locs 0 0 (MQ below (va_Qi (fun r (_ : Unit) => r = o_r) (fun _ t => va_P D vwCl (W_13 ct q_t q_t_times q_t_lows q_t_highs q_t_firsts q_t_lengths q_t_uppers q_t_lowers q_t_middles t_points t_size o_t_leastUpper o_t_leastLower o_t_mostUpper o_t_mostLower t_times t_lows t_highs) t.heap) A) args s 0 0 A) (F0 m 5 ls [])) (k17 : Int64 → Int64 → Int64 → Int64 → (Nat → Int32) → (Nat → Int32) → (Nat → Int32) → Int32 → Int32 → Int32 → Int32 → Option (Int32 × Int64 × Int64 × Int64 × Int64)) (hk17 : ∀ (t_leastUpper : Int64) (t_leastLower : Int64) (t_mostUpper : Int64) (t_mostLower : Int64) (x_2 : Int32) (x_3 : Int32) (x_4 : Int32) (x_5 : Int32) (H : Heap) (locs : List Loc) (ls : Array Slot), k17 t_leastUpper t_leastLower t_mostUpper t_mostLower t_times t_lows t_highs x_2 x_3 x_4 x_5 = some (o_r, o_t_leastUpper, o_t_leastLower, o_t_mostUpper, o_t_mostLower) → va_P D vwCl (W_13 ct q_t q_t_times q_t_lows q_t_highs q_t_firsts q_t_lengths q_t_uppers q_t_lowers q_t_middles t_points t_size t_leastUpper t_leastLower t_mostUpper t_mostLower t_times t_lows t_highs) H → va_D A (W_13 ct q_t q_t_times q_t_lows q_t_highs q_t_firsts q_t_lengths q_t_uppers q_t_lowers q_t_middles t_points t_size t_leastUpper t_leastLower t_mostUpper t_mostLower t_times t_lows t_highs) → va_S A s.heap H locs → lv_has ls 12 [(0, .ref q_t), (2, .int x_2), (3, .int x_3), (4, .int x_4), (5, .int x_5)] → W p l e ({ frames := 0, cells := 0, slots := 0, locals := 0 } : Room) s m args below meth c H locs 0 0 (MQ below (va_Qi (fun r (_ : Unit) => r = o_r) (fun _ t => va_P D vwCl (W_13 ct q_t q_t_times q_t_lows q_t_highs q_t_firsts q_t_lengths q_t_uppers q_t_lowers q_t_middles t_points t_size o_t_leastUpper o_t_leastLower o_t_mostUpper o_t_mostLower t_times t_lows t_highs) t.heap) A) args s 0 0 A) (F0 m 17 ls [])) (n : Nat) (t_leastUpper : Int64) (t_leastLower : Int64) (t_mostUpper : Int64) (t_mostLower : Int64) (x_2 : Int32) (x_3 : Int32) (x_4 : Int32) (x_5 : Int32) (x_6 : Int64) (x_10 : Int64) (H : Heap) (locs : List Loc) (ls : Array Slot) : JX1_fits_111 k5 k17 n t_leastUpper t_leastLower t_mostUpper t_mostLower t_times t_lows t_highs x_2 x_3 x_4 x_5 x_6 x_10 = some (o_r, o_t_leastUpper, o_t_leastLower, o_t_mostUpper, o_t_mostLower) → va_P D vwCl (W_13 ct q_t q_t_times q_t_lows q_t_highs q_t_firsts q_t_lengths q_t_uppers q_t_lowers q_t_middles t_points t_size t_leastUpper t_leastLower t_mostUpper t_mostLower t_times t_lows t_highs) H → va_D A (W_13 ct q_t q_t_times q_t_lows q_t_highs q_t_firsts q_t_lengths q_t_uppers q_t_lowers q_t_middles t_points t_size t_leastUpper t_leastLower t_mostUpper t_mostLower t_times t_lows t_highs) → va_S A s.heap H locs → lv_has ls 12 [(0, .ref q_t), (2, .int x_2), (3, .int x_3), (4, .int x_4), (5, .int x_5), (6, .long x_6), (10, .long x_10)] → W p l e ({ frames := 0, cells := 0, slots := 0, locals := 0 } : Room) s m args below meth c H locs 0 0 (MQ below (va_Qi (fun r (_ : Unit) => r = o_r) (fun _ t => va_P D vwCl (W_13 ct q_t q_t_times q_t_lows q_t_highs q_t_firsts q_t_lengths q_t_uppers q_t_lowers q_t_middles t_points t_size o_t_leastUpper o_t_leastLower o_t_mostUpper o_t_mostLower t_times t_lows t_highs) t.heap) A) args s 0 0 A) (F0 m 111 ls []) := by
  intro hF hP hD hS hl
  obtain ⟨hx, hb, hml, hown, hts, hr, hlocks, hE, hA⟩ := id C0
  unfold JX1_fits_111 at hF
  refine lv_iload_n hx hb dX1_fits_111 rfl (lv_at hl 2 rfl) ?_
  refine lv_if_eq (tgt := 133) hx hb dX1_fits_112 (by decide) (fun c18 => ?_) (fun c18 => ?_)
  · have hF := ifT c18 hF
    refine lv_aload_n hx hb dX1_fits_133 rfl (lv_at hl 0 rfl) ?_
    refine lv_lload hx hb dX1_fits_134 (lv_at hl 6 rfl) ?_
    refine va_put (D := D) (ci := 1) (v := .long x_10) (ty := .long) (C := RX1) (T := TX1) (N := 14) hx hb hts i_X1_fits_X1 tyX1 tyX1_ok nmX1 hown hE.1 hP hD hS 0 rfl rfl 12 (by decide) (hts (.fieldLink RX1 62 "NeedleHouse$Pieces" "mostUpper" "J") (by decide +kernel)) (fun _ h9 => h9) rfl (by decide +kernel) rfl rfl (Nat.le_of_ble_eq_true rfl) dX1_fits_136 (fun H locs hP hD hS => ?_)
    have hP : va_P D vwCl (W_13 ct q_t q_t_times q_t_lows q_t_highs q_t_firsts q_t_lengths q_t_uppers q_t_lowers q_t_middles t_points t_size t_leastUpper t_leastLower x_10 t_mostLower t_times t_lows t_highs) H := hP
    have hD : va_D A (W_13 ct q_t q_t_times q_t_lows q_t_highs q_t_firsts q_t_lengths q_t_uppers q_t_lowers q_t_middles t_points t_size t_leastUpper t_leastLower x_10 t_mostLower t_times t_lows t_highs) := hD
    refine lv_aload_n hx hb dX1_fits_139 rfl (lv_at hl 0 rfl) ?_
    refine lv_lload hx hb dX1_fits_140 (lv_at hl 5 rfl) ?_
    refine va_put (D := D) (ci := 1) (v := .long x_6) (ty := .long) (C := RX1) (T := TX1) (N := 14) hx hb hts i_X1_fits_X1 tyX1 tyX1_ok nmX1 hown hE.1 hP hD hS 0 rfl rfl 13 (by decide) (hts (.fieldLink RX1 59 "NeedleHouse$Pieces" "mostLower" "J") (by decide +kernel)) (fun _ h9 => h9) rfl (by decide +kernel) rfl rfl (Nat.le_of_ble_eq_true rfl) dX1_fits_142 (fun H locs hP hD hS => ?_)
    have hP : va_P D vwCl (W_13 ct q_t q_t_times q_t_lows q_t_highs q_t_firsts q_t_lengths q_t_uppers q_t_lowers q_t_middles t_points t_size t_leastUpper t_leastLower x_10 x_6 t_times t_lows t_highs) H := hP
    have hD : va_D A (W_13 ct q_t q_t_times q_t_lows q_t_highs q_t_firsts q_t_lengths q_t_uppers q_t_lowers q_t_middles t_points t_size t_leastUpper t_leastLower x_10 x_6 t_times t_lows t_highs) := hD
    refine lv_iconst (v := 1) hx hb dX1_fits_145 (by decide) ?_
    refine lv_istore_n (lv' := [(3, .int 1), (0, .ref q_t), (2, .int x_2), (4, .int x_4), (5, .int x_5), (6, .long x_6), (10, .long x_10)]) hx hb dX1_fits_146 rfl hl (by decide) rfl (fun ls hl => ?_)
    obtain ⟨x19, ex19⟩ : ∃ y : Int32, y = x_5 + 1 := ⟨_, rfl⟩
    refine lv_iinc (v := x19) (lv' := [(5, .int x19), (3, .int 1), (0, .ref q_t), (2, .int x_2), (4, .int x_4), (6, .long x_6), (10, .long x_10)]) hx hb dX1_fits_147 hl (k := 4) rfl (by rw [ex19]; rfl) (by decide) rfl (fun ls hl => ?_)
    have hF := bn_as ex19 hF
    refine lv_goto (tgt := 17) hx hb dX1_fits_150 (by decide) ?_
    exact hk17 t_leastUpper t_leastLower x_10 x_6 x_2 1 x_4 x19 _ _ _ hF hP hD hS (lv_sub hl [2, 3, 1, 4, 0] rfl)
  · have hF := ifF c18 hF
    refine lv_lload hx hb dX1_fits_115 (lv_at hl 6 rfl) ?_
    refine lv_aload_n hx hb dX1_fits_117 rfl (lv_at hl 0 rfl) ?_
    refine va_get (D := D) (ci := 1) (v := .long t_mostLower) (C := RX1) (T := TX1) (N := 14) hx hb hts i_X1_fits_X1 hown hE.1 hP 0 rfl rfl 13 (by decide) (hts (.fieldLink RX1 59 "NeedleHouse$Pieces" "mostLower" "J") (by decide +kernel)) (fun _ h9 => h9) rfl dX1_fits_118 ?_
    refine lv_lmul hx hb dX1_fits_121 ?_
    refine lv_aload_n hx hb dX1_fits_122 rfl (lv_at hl 0 rfl) ?_
    refine va_get (D := D) (ci := 1) (v := .long t_mostUpper) (C := RX1) (T := TX1) (N := 14) hx hb hts i_X1_fits_X1 hown hE.1 hP 0 rfl rfl 12 (by decide) (hts (.fieldLink RX1 62 "NeedleHouse$Pieces" "mostUpper" "J") (by decide +kernel)) (fun _ h9 => h9) rfl dX1_fits_123 ?_
    refine lv_lload hx hb dX1_fits_126 (lv_at hl 5 rfl) ?_
    refine lv_lmul hx hb dX1_fits_128 ?_
    refine W.lcmp hx hb dX1_fits_129 ?_
    refine lv_if_ge (tgt := 145) hx hb dX1_fits_130 (by decide) (fun c20 => ?_) (fun c20 => ?_)
    · have hF := ifT c20 hF
      refine lv_iconst (v := 1) hx hb dX1_fits_145 (by decide) ?_
      refine lv_istore_n (lv' := [(3, .int 1), (0, .ref q_t), (2, .int x_2), (4, .int x_4), (5, .int x_5), (6, .long x_6), (10, .long x_10)]) hx hb dX1_fits_146 rfl hl (by decide) rfl (fun ls hl => ?_)
      obtain ⟨x21, ex21⟩ : ∃ y : Int32, y = x_5 + 1 := ⟨_, rfl⟩
      refine lv_iinc (v := x21) (lv' := [(5, .int x21), (3, .int 1), (0, .ref q_t), (2, .int x_2), (4, .int x_4), (6, .long x_6), (10, .long x_10)]) hx hb dX1_fits_147 hl (k := 4) rfl (by rw [ex21]; rfl) (by decide) rfl (fun ls hl => ?_)
      have hF := bn_as ex21 hF
      refine lv_goto (tgt := 17) hx hb dX1_fits_150 (by decide) ?_
      exact hk17 t_leastUpper t_leastLower t_mostUpper t_mostLower x_2 1 x_4 x21 _ _ _ hF hP hD hS (lv_sub hl [2, 3, 1, 4, 0] rfl)
    · have hF := ifF c20 hF
      refine lv_aload_n hx hb dX1_fits_133 rfl (lv_at hl 0 rfl) ?_
      refine lv_lload hx hb dX1_fits_134 (lv_at hl 6 rfl) ?_
      refine va_put (D := D) (ci := 1) (v := .long x_10) (ty := .long) (C := RX1) (T := TX1) (N := 14) hx hb hts i_X1_fits_X1 tyX1 tyX1_ok nmX1 hown hE.1 hP hD hS 0 rfl rfl 12 (by decide) (hts (.fieldLink RX1 62 "NeedleHouse$Pieces" "mostUpper" "J") (by decide +kernel)) (fun _ h9 => h9) rfl (by decide +kernel) rfl rfl (Nat.le_of_ble_eq_true rfl) dX1_fits_136 (fun H locs hP hD hS => ?_)
      have hP : va_P D vwCl (W_13 ct q_t q_t_times q_t_lows q_t_highs q_t_firsts q_t_lengths q_t_uppers q_t_lowers q_t_middles t_points t_size t_leastUpper t_leastLower x_10 t_mostLower t_times t_lows t_highs) H := hP
      have hD : va_D A (W_13 ct q_t q_t_times q_t_lows q_t_highs q_t_firsts q_t_lengths q_t_uppers q_t_lowers q_t_middles t_points t_size t_leastUpper t_leastLower x_10 t_mostLower t_times t_lows t_highs) := hD
      refine lv_aload_n hx hb dX1_fits_139 rfl (lv_at hl 0 rfl) ?_
      refine lv_lload hx hb dX1_fits_140 (lv_at hl 5 rfl) ?_
      refine va_put (D := D) (ci := 1) (v := .long x_6) (ty := .long) (C := RX1) (T := TX1) (N := 14) hx hb hts i_X1_fits_X1 tyX1 tyX1_ok nmX1 hown hE.1 hP hD hS 0 rfl rfl 13 (by decide) (hts (.fieldLink RX1 59 "NeedleHouse$Pieces" "mostLower" "J") (by decide +kernel)) (fun _ h9 => h9) rfl (by decide +kernel) rfl rfl (Nat.le_of_ble_eq_true rfl) dX1_fits_142 (fun H locs hP hD hS => ?_)
      have hP : va_P D vwCl (W_13 ct q_t q_t_times q_t_lows q_t_highs q_t_firsts q_t_lengths q_t_uppers q_t_lowers q_t_middles t_points t_size t_leastUpper t_leastLower x_10 x_6 t_times t_lows t_highs) H := hP
      have hD : va_D A (W_13 ct q_t q_t_times q_t_lows q_t_highs q_t_firsts q_t_lengths q_t_uppers q_t_lowers q_t_middles t_points t_size t_leastUpper t_leastLower x_10 x_6 t_times t_lows t_highs) := hD
      refine lv_iconst (v := 1) hx hb dX1_fits_145 (by decide) ?_
      refine lv_istore_n (lv' := [(3, .int 1), (0, .ref q_t), (2, .int x_2), (4, .int x_4), (5, .int x_5), (6, .long x_6), (10, .long x_10)]) hx hb dX1_fits_146 rfl hl (by decide) rfl (fun ls hl => ?_)
      obtain ⟨x22, ex22⟩ : ∃ y : Int32, y = x_5 + 1 := ⟨_, rfl⟩
      refine lv_iinc (v := x22) (lv' := [(5, .int x22), (3, .int 1), (0, .ref q_t), (2, .int x_2), (4, .int x_4), (6, .long x_6), (10, .long x_10)]) hx hb dX1_fits_147 hl (k := 4) rfl (by rw [ex22]; rfl) (by decide) rfl (fun ls hl => ?_)
      have hF := bn_as ex22 hF
      refine lv_goto (tgt := 17) hx hb dX1_fits_150 (by decide) ?_
      exact hk17 t_leastUpper t_leastLower x_10 x_6 x_2 1 x_4 x22 _ _ _ hF hP hD hS (lv_sub hl [2, 3, 1, 4, 0] rfl)
set_option maxHeartbeats 4000000 in
set_option maxRecDepth 100000 in
theorem jX1_fits_99 {p : Program} {l : Launch} {e : Env} {s : State} {m : MethodId} {args : Array Value} {below : List Frame} {meth : Method} {c : Code} {D : va_G} {ct : Nat → ClassId} {A : Nat → Prop} {q_t q_t_times q_t_lows q_t_highs q_t_firsts q_t_lengths q_t_uppers q_t_lowers q_t_middles : Nat} {t_points : Int32} {t_size : Int32} {t_times : Nat → Int32} {t_lows : Nat → Int32} {t_highs : Nat → Int32} {o_r : Int32} {o_t_leastUpper : Int64} {o_t_leastLower : Int64} {o_t_mostUpper : Int64} {o_t_mostLower : Int64} (C0 : Cx RX1 cX1_fits 12 (some .boolean) wsX1_fits D ct A p s m args meth c) (k5 : Int64 → Int64 → Int64 → Int64 → (Nat → Int32) → (Nat → Int32) → (Nat → Int32) → Int32 → Int32 → Int32 → Option (Int32 × Int64 × Int64 × Int64 × Int64)) (hk5 : ∀ (t_leastUpper : Int64) (t_leastLower : Int64) (t_mostUpper : Int64) (t_mostLower : Int64) (x_2 : Int32) (x_3 : Int32) (x_4 : Int32) (H : Heap) (locs : List Loc) (ls : Array Slot), k5 t_leastUpper t_leastLower t_mostUpper t_mostLower t_times t_lows t_highs x_2 x_3 x_4 = some (o_r, o_t_leastUpper, o_t_leastLower, o_t_mostUpper, o_t_mostLower) → va_P D vwCl (W_13 ct q_t q_t_times q_t_lows q_t_highs q_t_firsts q_t_lengths q_t_uppers q_t_lowers q_t_middles t_points t_size t_leastUpper t_leastLower t_mostUpper t_mostLower t_times t_lows t_highs) H → va_D A (W_13 ct q_t q_t_times q_t_lows q_t_highs q_t_firsts q_t_lengths q_t_uppers q_t_lowers q_t_middles t_points t_size t_leastUpper t_leastLower t_mostUpper t_mostLower t_times t_lows t_highs) → va_S A s.heap H locs → lv_has ls 12 [(0, .ref q_t), (2, .int x_2), (3, .int x_3), (4, .int x_4)] → W p l e ({ frames := 0, cells := 0, slots := 0, locals := 0 } : Room) s m args below meth c H locs 0 0 (MQ below (va_Qi (fun r (_ : Unit) => r = o_r) (fun _ t => va_P D vwCl (W_13 ct q_t q_t_times q_t_lows q_t_highs q_t_firsts q_t_lengths q_t_uppers q_t_lowers q_t_middles t_points t_size o_t_leastUpper o_t_leastLower o_t_mostUpper o_t_mostLower t_times t_lows t_highs) t.heap) A) args s 0 0 A) (F0 m 5 ls [])) (k17 : Int64 → Int64 → Int64 → Int64 → (Nat → Int32) → (Nat → Int32) → (Nat → Int32) → Int32 → Int32 → Int32 → Int32 → Option (Int32 × Int64 × Int64 × Int64 × Int64)) (hk17 : ∀ (t_leastUpper : Int64) (t_leastLower : Int64) (t_mostUpper : Int64) (t_mostLower : Int64) (x_2 : Int32) (x_3 : Int32) (x_4 : Int32) (x_5 : Int32) (H : Heap) (locs : List Loc) (ls : Array Slot), k17 t_leastUpper t_leastLower t_mostUpper t_mostLower t_times t_lows t_highs x_2 x_3 x_4 x_5 = some (o_r, o_t_leastUpper, o_t_leastLower, o_t_mostUpper, o_t_mostLower) → va_P D vwCl (W_13 ct q_t q_t_times q_t_lows q_t_highs q_t_firsts q_t_lengths q_t_uppers q_t_lowers q_t_middles t_points t_size t_leastUpper t_leastLower t_mostUpper t_mostLower t_times t_lows t_highs) H → va_D A (W_13 ct q_t q_t_times q_t_lows q_t_highs q_t_firsts q_t_lengths q_t_uppers q_t_lowers q_t_middles t_points t_size t_leastUpper t_leastLower t_mostUpper t_mostLower t_times t_lows t_highs) → va_S A s.heap H locs → lv_has ls 12 [(0, .ref q_t), (2, .int x_2), (3, .int x_3), (4, .int x_4), (5, .int x_5)] → W p l e ({ frames := 0, cells := 0, slots := 0, locals := 0 } : Room) s m args below meth c H locs 0 0 (MQ below (va_Qi (fun r (_ : Unit) => r = o_r) (fun _ t => va_P D vwCl (W_13 ct q_t q_t_times q_t_lows q_t_highs q_t_firsts q_t_lengths q_t_uppers q_t_lowers q_t_middles t_points t_size o_t_leastUpper o_t_leastLower o_t_mostUpper o_t_mostLower t_times t_lows t_highs) t.heap) A) args s 0 0 A) (F0 m 17 ls [])) (n : Nat) (t_leastUpper : Int64) (t_leastLower : Int64) (t_mostUpper : Int64) (t_mostLower : Int64) (x_2 : Int32) (x_3 : Int32) (x_4 : Int32) (x_5 : Int32) (x_6 : Int64) (x_8 : Int64) (x_10 : Int64) (H : Heap) (locs : List Loc) (ls : Array Slot) : JX1_fits_99 k5 k17 n t_leastUpper t_leastLower t_mostUpper t_mostLower t_times t_lows t_highs x_2 x_3 x_4 x_5 x_6 x_8 x_10 = some (o_r, o_t_leastUpper, o_t_leastLower, o_t_mostUpper, o_t_mostLower) → va_P D vwCl (W_13 ct q_t q_t_times q_t_lows q_t_highs q_t_firsts q_t_lengths q_t_uppers q_t_lowers q_t_middles t_points t_size t_leastUpper t_leastLower t_mostUpper t_mostLower t_times t_lows t_highs) H → va_D A (W_13 ct q_t q_t_times q_t_lows q_t_highs q_t_firsts q_t_lengths q_t_uppers q_t_lowers q_t_middles t_points t_size t_leastUpper t_leastLower t_mostUpper t_mostLower t_times t_lows t_highs) → va_S A s.heap H locs → lv_has ls 12 [(0, .ref q_t), (2, .int x_2), (3, .int x_3), (4, .int x_4), (5, .int x_5), (6, .long x_6), (8, .long x_8), (10, .long x_10)] → W p l e ({ frames := 0, cells := 0, slots := 0, locals := 0 } : Room) s m args below meth c H locs 0 0 (MQ below (va_Qi (fun r (_ : Unit) => r = o_r) (fun _ t => va_P D vwCl (W_13 ct q_t q_t_times q_t_lows q_t_highs q_t_firsts q_t_lengths q_t_uppers q_t_lowers q_t_middles t_points t_size o_t_leastUpper o_t_leastLower o_t_mostUpper o_t_mostLower t_times t_lows t_highs) t.heap) A) args s 0 0 A) (F0 m 99 ls []) := by
  intro hF hP hD hS hl
  obtain ⟨hx, hb, hml, hown, hts, hr, hlocks, hE, hA⟩ := id C0
  unfold JX1_fits_99 at hF
  refine lv_aload_n hx hb dX1_fits_99 rfl (lv_at hl 0 rfl) ?_
  refine lv_lload hx hb dX1_fits_100 (lv_at hl 6 rfl) ?_
  refine va_put (D := D) (ci := 1) (v := .long x_8) (ty := .long) (C := RX1) (T := TX1) (N := 14) hx hb hts i_X1_fits_X1 tyX1 tyX1_ok nmX1 hown hE.1 hP hD hS 0 rfl rfl 10 (by decide) (hts (.fieldLink RX1 56 "NeedleHouse$Pieces" "leastUpper" "J") (by decide +kernel)) (fun _ h9 => h9) rfl (by decide +kernel) rfl rfl (Nat.le_of_ble_eq_true rfl) dX1_fits_102 (fun H locs hP hD hS => ?_)
  have hP : va_P D vwCl (W_13 ct q_t q_t_times q_t_lows q_t_highs q_t_firsts q_t_lengths q_t_uppers q_t_lowers q_t_middles t_points t_size x_8 t_leastLower t_mostUpper t_mostLower t_times t_lows t_highs) H := hP
  have hD : va_D A (W_13 ct q_t q_t_times q_t_lows q_t_highs q_t_firsts q_t_lengths q_t_uppers q_t_lowers q_t_middles t_points t_size x_8 t_leastLower t_mostUpper t_mostLower t_times t_lows t_highs) := hD
  refine lv_aload_n hx hb dX1_fits_105 rfl (lv_at hl 0 rfl) ?_
  refine lv_lload hx hb dX1_fits_106 (lv_at hl 5 rfl) ?_
  refine va_put (D := D) (ci := 1) (v := .long x_6) (ty := .long) (C := RX1) (T := TX1) (N := 14) hx hb hts i_X1_fits_X1 tyX1 tyX1_ok nmX1 hown hE.1 hP hD hS 0 rfl rfl 11 (by decide) (hts (.fieldLink RX1 52 "NeedleHouse$Pieces" "leastLower" "J") (by decide +kernel)) (fun _ h9 => h9) rfl (by decide +kernel) rfl rfl (Nat.le_of_ble_eq_true rfl) dX1_fits_108 (fun H locs hP hD hS => ?_)
  have hP : va_P D vwCl (W_13 ct q_t q_t_times q_t_lows q_t_highs q_t_firsts q_t_lengths q_t_uppers q_t_lowers q_t_middles t_points t_size x_8 x_6 t_mostUpper t_mostLower t_times t_lows t_highs) H := hP
  have hD : va_D A (W_13 ct q_t q_t_times q_t_lows q_t_highs q_t_firsts q_t_lengths q_t_uppers q_t_lowers q_t_middles t_points t_size x_8 x_6 t_mostUpper t_mostLower t_times t_lows t_highs) := hD
  exact jX1_fits_111 C0 k5 hk5 k17 hk17 n x_8 x_6 t_mostUpper t_mostLower x_2 x_3 x_4 x_5 x_6 x_10 _ _ _ hF hP hD hS (lv_sub hl [0, 1, 2, 3, 4, 5, 7] rfl)
set_option maxHeartbeats 4000000 in
set_option maxRecDepth 100000 in
theorem jX1_fits_17 {p : Program} {l : Launch} {e : Env} {s : State} {m : MethodId} {args : Array Value} {below : List Frame} {meth : Method} {c : Code} {D : va_G} {ct : Nat → ClassId} {A : Nat → Prop} {q_t q_t_times q_t_lows q_t_highs q_t_firsts q_t_lengths q_t_uppers q_t_lowers q_t_middles : Nat} {t_points : Int32} {t_size : Int32} {t_times : Nat → Int32} {t_lows : Nat → Int32} {t_highs : Nat → Int32} {o_r : Int32} {o_t_leastUpper : Int64} {o_t_leastLower : Int64} {o_t_mostUpper : Int64} {o_t_mostLower : Int64} (C0 : Cx RX1 cX1_fits 12 (some .boolean) wsX1_fits D ct A p s m args meth c) (k5 : Int64 → Int64 → Int64 → Int64 → (Nat → Int32) → (Nat → Int32) → (Nat → Int32) → Int32 → Int32 → Int32 → Option (Int32 × Int64 × Int64 × Int64 × Int64)) (hk5 : ∀ (t_leastUpper : Int64) (t_leastLower : Int64) (t_mostUpper : Int64) (t_mostLower : Int64) (x_2 : Int32) (x_3 : Int32) (x_4 : Int32) (H : Heap) (locs : List Loc) (ls : Array Slot), k5 t_leastUpper t_leastLower t_mostUpper t_mostLower t_times t_lows t_highs x_2 x_3 x_4 = some (o_r, o_t_leastUpper, o_t_leastLower, o_t_mostUpper, o_t_mostLower) → va_P D vwCl (W_13 ct q_t q_t_times q_t_lows q_t_highs q_t_firsts q_t_lengths q_t_uppers q_t_lowers q_t_middles t_points t_size t_leastUpper t_leastLower t_mostUpper t_mostLower t_times t_lows t_highs) H → va_D A (W_13 ct q_t q_t_times q_t_lows q_t_highs q_t_firsts q_t_lengths q_t_uppers q_t_lowers q_t_middles t_points t_size t_leastUpper t_leastLower t_mostUpper t_mostLower t_times t_lows t_highs) → va_S A s.heap H locs → lv_has ls 12 [(0, .ref q_t), (2, .int x_2), (3, .int x_3), (4, .int x_4)] → W p l e ({ frames := 0, cells := 0, slots := 0, locals := 0 } : Room) s m args below meth c H locs 0 0 (MQ below (va_Qi (fun r (_ : Unit) => r = o_r) (fun _ t => va_P D vwCl (W_13 ct q_t q_t_times q_t_lows q_t_highs q_t_firsts q_t_lengths q_t_uppers q_t_lowers q_t_middles t_points t_size o_t_leastUpper o_t_leastLower o_t_mostUpper o_t_mostLower t_times t_lows t_highs) t.heap) A) args s 0 0 A) (F0 m 5 ls [])) (k17 : Int64 → Int64 → Int64 → Int64 → (Nat → Int32) → (Nat → Int32) → (Nat → Int32) → Int32 → Int32 → Int32 → Int32 → Option (Int32 × Int64 × Int64 × Int64 × Int64)) (hk17 : ∀ (t_leastUpper : Int64) (t_leastLower : Int64) (t_mostUpper : Int64) (t_mostLower : Int64) (x_2 : Int32) (x_3 : Int32) (x_4 : Int32) (x_5 : Int32) (H : Heap) (locs : List Loc) (ls : Array Slot), k17 t_leastUpper t_leastLower t_mostUpper t_mostLower t_times t_lows t_highs x_2 x_3 x_4 x_5 = some (o_r, o_t_leastUpper, o_t_leastLower, o_t_mostUpper, o_t_mostLower) → va_P D vwCl (W_13 ct q_t q_t_times q_t_lows q_t_highs q_t_firsts q_t_lengths q_t_uppers q_t_lowers q_t_middles t_points t_size t_leastUpper t_leastLower t_mostUpper t_mostLower t_times t_lows t_highs) H → va_D A (W_13 ct q_t q_t_times q_t_lows q_t_highs q_t_firsts q_t_lengths q_t_uppers q_t_lowers q_t_middles t_points t_size t_leastUpper t_leastLower t_mostUpper t_mostLower t_times t_lows t_highs) → va_S A s.heap H locs → lv_has ls 12 [(0, .ref q_t), (2, .int x_2), (3, .int x_3), (4, .int x_4), (5, .int x_5)] → W p l e ({ frames := 0, cells := 0, slots := 0, locals := 0 } : Room) s m args below meth c H locs 0 0 (MQ below (va_Qi (fun r (_ : Unit) => r = o_r) (fun _ t => va_P D vwCl (W_13 ct q_t q_t_times q_t_lows q_t_highs q_t_firsts q_t_lengths q_t_uppers q_t_lowers q_t_middles t_points t_size o_t_leastUpper o_t_leastLower o_t_mostUpper o_t_mostLower t_times t_lows t_highs) t.heap) A) args s 0 0 A) (F0 m 17 ls [])) (n : Nat) (t_leastUpper : Int64) (t_leastLower : Int64) (t_mostUpper : Int64) (t_mostLower : Int64) (x_2 : Int32) (x_3 : Int32) (x_4 : Int32) (x_5 : Int32) (H : Heap) (locs : List Loc) (ls : Array Slot) : JX1_fits_17 k5 k17 n t_leastUpper t_leastLower t_mostUpper t_mostLower t_times t_lows t_highs x_2 x_3 x_4 x_5 = some (o_r, o_t_leastUpper, o_t_leastLower, o_t_mostUpper, o_t_mostLower) → va_P D vwCl (W_13 ct q_t q_t_times q_t_lows q_t_highs q_t_firsts q_t_lengths q_t_uppers q_t_lowers q_t_middles t_points t_size t_leastUpper t_leastLower t_mostUpper t_mostLower t_times t_lows t_highs) H → va_D A (W_13 ct q_t q_t_times q_t_lows q_t_highs q_t_firsts q_t_lengths q_t_uppers q_t_lowers q_t_middles t_points t_size t_leastUpper t_leastLower t_mostUpper t_mostLower t_times t_lows t_highs) → va_S A s.heap H locs → lv_has ls 12 [(0, .ref q_t), (2, .int x_2), (3, .int x_3), (4, .int x_4), (5, .int x_5)] → W p l e ({ frames := 0, cells := 0, slots := 0, locals := 0 } : Room) s m args below meth c H locs 0 0 (MQ below (va_Qi (fun r (_ : Unit) => r = o_r) (fun _ t => va_P D vwCl (W_13 ct q_t q_t_times q_t_lows q_t_highs q_t_firsts q_t_lengths q_t_uppers q_t_lowers q_t_middles t_points t_size o_t_leastUpper o_t_leastLower o_t_mostUpper o_t_mostLower t_times t_lows t_highs) t.heap) A) args s 0 0 A) (F0 m 17 ls []) := by
  intro hF hP hD hS hl
  obtain ⟨hx, hb, hml, hown, hts, hr, hlocks, hE, hA⟩ := id C0
  unfold JX1_fits_17 at hF
  refine lv_iload hx hb dX1_fits_17 (lv_at hl 4 rfl) ?_
  refine lv_iload_n hx hb dX1_fits_19 rfl (lv_at hl 1 rfl) ?_
  refine lv_icmp_ge (tgt := 153) hx hb dX1_fits_20 (by decide) (fun c5 => ?_) (fun c5 => ?_)
  · have hF := ifT c5 hF
    obtain ⟨x6, ex6⟩ : ∃ y : Int32, y = x_4 + 1 := ⟨_, rfl⟩
    refine lv_iinc (v := x6) (lv' := [(4, .int x6), (0, .ref q_t), (2, .int x_2), (3, .int x_3), (5, .int x_5)]) hx hb dX1_fits_153 hl (k := 3) rfl (by rw [ex6]; rfl) (by decide) rfl (fun ls hl => ?_)
    have hF := bn_as ex6 hF
    refine lv_goto (tgt := 5) hx hb dX1_fits_156 (by decide) ?_
    exact hk5 t_leastUpper t_leastLower t_mostUpper t_mostLower x_2 x_3 x6 _ _ _ hF hP hD hS (lv_sub hl [1, 2, 3, 0] rfl)
  · have hF := ifF c5 hF
    refine lv_aload_n hx hb dX1_fits_23 rfl (lv_at hl 0 rfl) ?_
    refine va_get (D := D) (ci := 1) (v := .ref q_t_times) (C := RX1) (T := TX1) (N := 14) hx hb hts i_X1_fits_X1 hown hE.1 hP 0 rfl rfl 0 (by decide) (hts (.fieldLink RX1 9 "NeedleHouse$Pieces" "times" "[I") (by decide +kernel)) (fun _ h9 => h9) rfl dX1_fits_24 ?_
    refine lv_iload hx hb dX1_fits_27 (lv_at hl 4 rfl) ?_
    obtain ⟨h7, hF⟩ := gd_ex hF
    refine va_iald hx hb hE.1 hP 1 0 rfl rfl h7 dX1_fits_29 ?_
    refine lv_aload_n hx hb dX1_fits_30 rfl (lv_at hl 0 rfl) ?_
    refine va_get (D := D) (ci := 1) (v := .ref q_t_times) (C := RX1) (T := TX1) (N := 14) hx hb hts i_X1_fits_X1 hown hE.1 hP 0 rfl rfl 0 (by decide) (hts (.fieldLink RX1 9 "NeedleHouse$Pieces" "times" "[I") (by decide +kernel)) (fun _ h9 => h9) rfl dX1_fits_31 ?_
    refine lv_iload hx hb dX1_fits_34 (lv_at hl 3 rfl) ?_
    obtain ⟨h8, hF⟩ := gd_ex hF
    refine va_iald hx hb hE.1 hP 1 0 rfl rfl h8 dX1_fits_36 ?_
    refine lv_isub hx hb dX1_fits_37 ?_
    refine lv_i2l hx hb dX1_fits_38 rfl ?_
    refine lv_topl (fun x9 ex9 => ?_)
    have hF := bn_as ex9 hF
    refine lv_lstore (lv' := [(6, .long x9), (0, .ref q_t), (2, .int x_2), (3, .int x_3), (4, .int x_4), (5, .int x_5)]) hx hb dX1_fits_39 hl (by decide) rfl (fun ls hl => ?_)
    refine lv_aload_n hx hb dX1_fits_41 rfl (lv_at hl 1 rfl) ?_
    refine va_get (D := D) (ci := 1) (v := .ref q_t_lows) (C := RX1) (T := TX1) (N := 14) hx hb hts i_X1_fits_X1 hown hE.1 hP 0 rfl rfl 1 (by decide) (hts (.fieldLink RX1 15 "NeedleHouse$Pieces" "lows" "[I") (by decide +kernel)) (fun _ h9 => h9) rfl dX1_fits_42 ?_
    refine lv_iload hx hb dX1_fits_45 (lv_at hl 5 rfl) ?_
    obtain ⟨h10, hF⟩ := gd_ex hF
    refine va_iald hx hb hE.1 hP 2 0 rfl rfl h10 dX1_fits_47 ?_
    refine lv_aload_n hx hb dX1_fits_48 rfl (lv_at hl 1 rfl) ?_
    refine va_get (D := D) (ci := 1) (v := .ref q_t_highs) (C := RX1) (T := TX1) (N := 14) hx hb hts i_X1_fits_X1 hown hE.1 hP 0 rfl rfl 2 (by decide) (hts (.fieldLink RX1 18 "NeedleHouse$Pieces" "highs" "[I") (by decide +kernel)) (fun _ h9 => h9) rfl dX1_fits_49 ?_
    refine lv_iload hx hb dX1_fits_52 (lv_at hl 4 rfl) ?_
    obtain ⟨h11, hF⟩ := gd_ex hF
    refine va_iald hx hb hE.1 hP 3 0 rfl rfl h11 dX1_fits_54 ?_
    refine lv_isub hx hb dX1_fits_55 ?_
    refine lv_i2l hx hb dX1_fits_56 rfl ?_
    refine lv_topl (fun x12 ex12 => ?_)
    have hF := bn_as ex12 hF
    refine lv_lstore (lv' := [(8, .long x12), (6, .long x9), (0, .ref q_t), (2, .int x_2), (3, .int x_3), (4, .int x_4), (5, .int x_5)]) hx hb dX1_fits_57 hl (by decide) rfl (fun ls hl => ?_)
    refine lv_aload_n hx hb dX1_fits_59 rfl (lv_at hl 2 rfl) ?_
    refine va_get (D := D) (ci := 1) (v := .ref q_t_highs) (C := RX1) (T := TX1) (N := 14) hx hb hts i_X1_fits_X1 hown hE.1 hP 0 rfl rfl 2 (by decide) (hts (.fieldLink RX1 18 "NeedleHouse$Pieces" "highs" "[I") (by decide +kernel)) (fun _ h9 => h9) rfl dX1_fits_60 ?_
    refine lv_iload hx hb dX1_fits_63 (lv_at hl 6 rfl) ?_
    obtain ⟨h13, hF⟩ := gd_ex hF
    refine va_iald hx hb hE.1 hP 3 0 rfl rfl h13 dX1_fits_65 ?_
    refine lv_aload_n hx hb dX1_fits_66 rfl (lv_at hl 2 rfl) ?_
    refine va_get (D := D) (ci := 1) (v := .ref q_t_lows) (C := RX1) (T := TX1) (N := 14) hx hb hts i_X1_fits_X1 hown hE.1 hP 0 rfl rfl 1 (by decide) (hts (.fieldLink RX1 15 "NeedleHouse$Pieces" "lows" "[I") (by decide +kernel)) (fun _ h9 => h9) rfl dX1_fits_67 ?_
    refine lv_iload hx hb dX1_fits_70 (lv_at hl 5 rfl) ?_
    obtain ⟨h14, hF⟩ := gd_ex hF
    refine va_iald hx hb hE.1 hP 2 0 rfl rfl h14 dX1_fits_72 ?_
    refine lv_isub hx hb dX1_fits_73 ?_
    refine lv_i2l hx hb dX1_fits_74 rfl ?_
    refine lv_topl (fun x15 ex15 => ?_)
    have hF := bn_as ex15 hF
    refine lv_lstore (lv' := [(10, .long x15), (8, .long x12), (6, .long x9), (0, .ref q_t), (2, .int x_2), (3, .int x_3), (4, .int x_4), (5, .int x_5)]) hx hb dX1_fits_75 hl (by decide) rfl (fun ls hl => ?_)
    refine lv_iload_n hx hb dX1_fits_77 rfl (lv_at hl 5 rfl) ?_
    refine lv_if_eq (tgt := 99) hx hb dX1_fits_78 (by decide) (fun c16 => ?_) (fun c16 => ?_)
    · have hF := ifT c16 hF
      exact jX1_fits_99 C0 k5 hk5 k17 hk17 n t_leastUpper t_leastLower t_mostUpper t_mostLower x_2 x_3 x_4 x_5 x9 x12 x15 _ _ _ hF hP hD hS (lv_sub hl [3, 4, 5, 6, 7, 2, 1, 0] rfl)
    · have hF := ifF c16 hF
      refine lv_lload hx hb dX1_fits_81 (lv_at hl 1 rfl) ?_
      refine lv_aload_n hx hb dX1_fits_83 rfl (lv_at hl 3 rfl) ?_
      refine va_get (D := D) (ci := 1) (v := .long t_leastLower) (C := RX1) (T := TX1) (N := 14) hx hb hts i_X1_fits_X1 hown hE.1 hP 0 rfl rfl 11 (by decide) (hts (.fieldLink RX1 52 "NeedleHouse$Pieces" "leastLower" "J") (by decide +kernel)) (fun _ h9 => h9) rfl dX1_fits_84 ?_
      refine lv_lmul hx hb dX1_fits_87 ?_
      refine lv_aload_n hx hb dX1_fits_88 rfl (lv_at hl 3 rfl) ?_
      refine va_get (D := D) (ci := 1) (v := .long t_leastUpper) (C := RX1) (T := TX1) (N := 14) hx hb hts i_X1_fits_X1 hown hE.1 hP 0 rfl rfl 10 (by decide) (hts (.fieldLink RX1 56 "NeedleHouse$Pieces" "leastUpper" "J") (by decide +kernel)) (fun _ h9 => h9) rfl dX1_fits_89 ?_
      refine lv_lload hx hb dX1_fits_92 (lv_at hl 2 rfl) ?_
      refine lv_lmul hx hb dX1_fits_94 ?_
      refine W.lcmp hx hb dX1_fits_95 ?_
      refine lv_if_le (tgt := 111) hx hb dX1_fits_96 (by decide) (fun c17 => ?_) (fun c17 => ?_)
      · have hF := ifT c17 hF
        exact jX1_fits_111 C0 k5 hk5 k17 hk17 n t_leastUpper t_leastLower t_mostUpper t_mostLower x_2 x_3 x_4 x_5 x9 x15 _ _ _ hF hP hD hS (lv_sub hl [3, 4, 5, 6, 7, 2, 0] rfl)
      · have hF := ifF c17 hF
        exact jX1_fits_99 C0 k5 hk5 k17 hk17 n t_leastUpper t_leastLower t_mostUpper t_mostLower x_2 x_3 x_4 x_5 x9 x12 x15 _ _ _ hF hP hD hS (lv_sub hl [3, 4, 5, 6, 7, 2, 1, 0] rfl)
theorem lX1_fits_17 {p : Program} {l : Launch} {e : Env} {s : State} {m : MethodId} {args : Array Value} {below : List Frame} {meth : Method} {c : Code} {D : va_G} {ct : Nat → ClassId} {A : Nat → Prop} {q_t q_t_times q_t_lows q_t_highs q_t_firsts q_t_lengths q_t_uppers q_t_lowers q_t_middles : Nat} {t_points : Int32} {t_size : Int32} {t_times : Nat → Int32} {t_lows : Nat → Int32} {t_highs : Nat → Int32} {o_r : Int32} {o_t_leastUpper : Int64} {o_t_leastLower : Int64} {o_t_mostUpper : Int64} {o_t_mostLower : Int64} (C0 : Cx RX1 cX1_fits 12 (some .boolean) wsX1_fits D ct A p s m args meth c) (k5 : Int64 → Int64 → Int64 → Int64 → (Nat → Int32) → (Nat → Int32) → (Nat → Int32) → Int32 → Int32 → Int32 → Option (Int32 × Int64 × Int64 × Int64 × Int64)) (hk5 : ∀ (t_leastUpper : Int64) (t_leastLower : Int64) (t_mostUpper : Int64) (t_mostLower : Int64) (x_2 : Int32) (x_3 : Int32) (x_4 : Int32) (H : Heap) (locs : List Loc) (ls : Array Slot), k5 t_leastUpper t_leastLower t_mostUpper t_mostLower t_times t_lows t_highs x_2 x_3 x_4 = some (o_r, o_t_leastUpper, o_t_leastLower, o_t_mostUpper, o_t_mostLower) → va_P D vwCl (W_13 ct q_t q_t_times q_t_lows q_t_highs q_t_firsts q_t_lengths q_t_uppers q_t_lowers q_t_middles t_points t_size t_leastUpper t_leastLower t_mostUpper t_mostLower t_times t_lows t_highs) H → va_D A (W_13 ct q_t q_t_times q_t_lows q_t_highs q_t_firsts q_t_lengths q_t_uppers q_t_lowers q_t_middles t_points t_size t_leastUpper t_leastLower t_mostUpper t_mostLower t_times t_lows t_highs) → va_S A s.heap H locs → lv_has ls 12 [(0, .ref q_t), (2, .int x_2), (3, .int x_3), (4, .int x_4)] → W p l e ({ frames := 0, cells := 0, slots := 0, locals := 0 } : Room) s m args below meth c H locs 0 0 (MQ below (va_Qi (fun r (_ : Unit) => r = o_r) (fun _ t => va_P D vwCl (W_13 ct q_t q_t_times q_t_lows q_t_highs q_t_firsts q_t_lengths q_t_uppers q_t_lowers q_t_middles t_points t_size o_t_leastUpper o_t_leastLower o_t_mostUpper o_t_mostLower t_times t_lows t_highs) t.heap) A) args s 0 0 A) (F0 m 5 ls [])) : ∀ (n : Nat) (t_leastUpper : Int64) (t_leastLower : Int64) (t_mostUpper : Int64) (t_mostLower : Int64) (x_2 : Int32) (x_3 : Int32) (x_4 : Int32) (x_5 : Int32) (H : Heap) (locs : List Loc) (ls : Array Slot), LX1_fits_17 k5 n t_leastUpper t_leastLower t_mostUpper t_mostLower t_times t_lows t_highs x_2 x_3 x_4 x_5 = some (o_r, o_t_leastUpper, o_t_leastLower, o_t_mostUpper, o_t_mostLower) → va_P D vwCl (W_13 ct q_t q_t_times q_t_lows q_t_highs q_t_firsts q_t_lengths q_t_uppers q_t_lowers q_t_middles t_points t_size t_leastUpper t_leastLower t_mostUpper t_mostLower t_times t_lows t_highs) H → va_D A (W_13 ct q_t q_t_times q_t_lows q_t_highs q_t_firsts q_t_lengths q_t_uppers q_t_lowers q_t_middles t_points t_size t_leastUpper t_leastLower t_mostUpper t_mostLower t_times t_lows t_highs) → va_S A s.heap H locs → lv_has ls 12 [(0, .ref q_t), (2, .int x_2), (3, .int x_3), (4, .int x_4), (5, .int x_5)] → W p l e ({ frames := 0, cells := 0, slots := 0, locals := 0 } : Room) s m args below meth c H locs 0 0 (MQ below (va_Qi (fun r (_ : Unit) => r = o_r) (fun _ t => va_P D vwCl (W_13 ct q_t q_t_times q_t_lows q_t_highs q_t_firsts q_t_lengths q_t_uppers q_t_lowers q_t_middles t_points t_size o_t_leastUpper o_t_leastLower o_t_mostUpper o_t_mostLower t_times t_lows t_highs) t.heap) A) args s 0 0 A) (F0 m 17 ls []) := by
  intro n
  induction n with
  | zero => intro t_leastUpper t_leastLower t_mostUpper t_mostLower x_2 x_3 x_4 x_5 H locs ls hF; exact nomatch (show (none : Option (Int32 × Int64 × Int64 × Int64 × Int64)) = _ from hF)
  | succ n ih => intro t_leastUpper t_leastLower t_mostUpper t_mostLower x_2 x_3 x_4 x_5 H locs ls hF; exact jX1_fits_17 C0 k5 hk5 (LX1_fits_17 k5 n) ih n t_leastUpper t_leastLower t_mostUpper t_mostLower x_2 x_3 x_4 x_5 H locs ls hF
set_option maxHeartbeats 4000000 in
set_option maxRecDepth 100000 in
theorem jX1_fits_5 {p : Program} {l : Launch} {e : Env} {s : State} {m : MethodId} {args : Array Value} {below : List Frame} {meth : Method} {c : Code} {D : va_G} {ct : Nat → ClassId} {A : Nat → Prop} {q_t q_t_times q_t_lows q_t_highs q_t_firsts q_t_lengths q_t_uppers q_t_lowers q_t_middles : Nat} {t_points : Int32} {t_size : Int32} {t_times : Nat → Int32} {t_lows : Nat → Int32} {t_highs : Nat → Int32} {o_r : Int32} {o_t_leastUpper : Int64} {o_t_leastLower : Int64} {o_t_mostUpper : Int64} {o_t_mostLower : Int64} (C0 : Cx RX1 cX1_fits 12 (some .boolean) wsX1_fits D ct A p s m args meth c) (k5 : Int64 → Int64 → Int64 → Int64 → (Nat → Int32) → (Nat → Int32) → (Nat → Int32) → Int32 → Int32 → Int32 → Option (Int32 × Int64 × Int64 × Int64 × Int64)) (hk5 : ∀ (t_leastUpper : Int64) (t_leastLower : Int64) (t_mostUpper : Int64) (t_mostLower : Int64) (x_2 : Int32) (x_3 : Int32) (x_4 : Int32) (H : Heap) (locs : List Loc) (ls : Array Slot), k5 t_leastUpper t_leastLower t_mostUpper t_mostLower t_times t_lows t_highs x_2 x_3 x_4 = some (o_r, o_t_leastUpper, o_t_leastLower, o_t_mostUpper, o_t_mostLower) → va_P D vwCl (W_13 ct q_t q_t_times q_t_lows q_t_highs q_t_firsts q_t_lengths q_t_uppers q_t_lowers q_t_middles t_points t_size t_leastUpper t_leastLower t_mostUpper t_mostLower t_times t_lows t_highs) H → va_D A (W_13 ct q_t q_t_times q_t_lows q_t_highs q_t_firsts q_t_lengths q_t_uppers q_t_lowers q_t_middles t_points t_size t_leastUpper t_leastLower t_mostUpper t_mostLower t_times t_lows t_highs) → va_S A s.heap H locs → lv_has ls 12 [(0, .ref q_t), (2, .int x_2), (3, .int x_3), (4, .int x_4)] → W p l e ({ frames := 0, cells := 0, slots := 0, locals := 0 } : Room) s m args below meth c H locs 0 0 (MQ below (va_Qi (fun r (_ : Unit) => r = o_r) (fun _ t => va_P D vwCl (W_13 ct q_t q_t_times q_t_lows q_t_highs q_t_firsts q_t_lengths q_t_uppers q_t_lowers q_t_middles t_points t_size o_t_leastUpper o_t_leastLower o_t_mostUpper o_t_mostLower t_times t_lows t_highs) t.heap) A) args s 0 0 A) (F0 m 5 ls [])) (n : Nat) (t_leastUpper : Int64) (t_leastLower : Int64) (t_mostUpper : Int64) (t_mostLower : Int64) (x_2 : Int32) (x_3 : Int32) (x_4 : Int32) (H : Heap) (locs : List Loc) (ls : Array Slot) : JX1_fits_5 k5 n t_leastUpper t_leastLower t_mostUpper t_mostLower t_times t_lows t_highs x_2 x_3 x_4 = some (o_r, o_t_leastUpper, o_t_leastLower, o_t_mostUpper, o_t_mostLower) → va_P D vwCl (W_13 ct q_t q_t_times q_t_lows q_t_highs q_t_firsts q_t_lengths q_t_uppers q_t_lowers q_t_middles t_points t_size t_leastUpper t_leastLower t_mostUpper t_mostLower t_times t_lows t_highs) H → va_D A (W_13 ct q_t q_t_times q_t_lows q_t_highs q_t_firsts q_t_lengths q_t_uppers q_t_lowers q_t_middles t_points t_size t_leastUpper t_leastLower t_mostUpper t_mostLower t_times t_lows t_highs) → va_S A s.heap H locs → lv_has ls 12 [(0, .ref q_t), (2, .int x_2), (3, .int x_3), (4, .int x_4)] → W p l e ({ frames := 0, cells := 0, slots := 0, locals := 0 } : Room) s m args below meth c H locs 0 0 (MQ below (va_Qi (fun r (_ : Unit) => r = o_r) (fun _ t => va_P D vwCl (W_13 ct q_t q_t_times q_t_lows q_t_highs q_t_firsts q_t_lengths q_t_uppers q_t_lowers q_t_middles t_points t_size o_t_leastUpper o_t_leastLower o_t_mostUpper o_t_mostLower t_times t_lows t_highs) t.heap) A) args s 0 0 A) (F0 m 5 ls []) := by
  intro hF hP hD hS hl
  obtain ⟨hx, hb, hml, hown, hts, hr, hlocks, hE, hA⟩ := id C0
  unfold JX1_fits_5 at hF
  refine lv_iload hx hb dX1_fits_5 (lv_at hl 3 rfl) ?_
  refine lv_iload_n hx hb dX1_fits_7 rfl (lv_at hl 1 rfl) ?_
  refine lv_icmp_ge (tgt := 159) hx hb dX1_fits_8 (by decide) (fun c1 => ?_) (fun c1 => ?_)
  · have hF := ifT c1 hF
    refine lv_iload_n hx hb dX1_fits_159 rfl (lv_at hl 2 rfl) ?_
    refine lv_if_eq (tgt := 185) hx hb dX1_fits_160 (by decide) (fun c2 => ?_) (fun c2 => ?_)
    · have hF := ifT c2 hF
      refine lv_iconst (v := 1) hx hb dX1_fits_185 (by decide) ?_
      refine lv_goto (tgt := 190) hx hb dX1_fits_186 (by decide) ?_
      obtain ⟨rfl, rfl, rfl, rfl, rfl⟩ := in5 hF
      exact W.zret hx hb hr rfl (fun t ht hW => ⟨⟨_, (), rfl, rfl, vaP_at ht hP⟩, hS.F ht⟩) hS.2.2 dX1_fits_190
    · have hF := ifF c2 hF
      refine lv_aload_n hx hb dX1_fits_163 rfl (lv_at hl 0 rfl) ?_
      refine va_get (D := D) (ci := 1) (v := .long t_leastUpper) (C := RX1) (T := TX1) (N := 14) hx hb hts i_X1_fits_X1 hown hE.1 hP 0 rfl rfl 10 (by decide) (hts (.fieldLink RX1 56 "NeedleHouse$Pieces" "leastUpper" "J") (by decide +kernel)) (fun _ h9 => h9) rfl dX1_fits_164 ?_
      refine lv_aload_n hx hb dX1_fits_167 rfl (lv_at hl 0 rfl) ?_
      refine va_get (D := D) (ci := 1) (v := .long t_mostLower) (C := RX1) (T := TX1) (N := 14) hx hb hts i_X1_fits_X1 hown hE.1 hP 0 rfl rfl 13 (by decide) (hts (.fieldLink RX1 59 "NeedleHouse$Pieces" "mostLower" "J") (by decide +kernel)) (fun _ h9 => h9) rfl dX1_fits_168 ?_
      refine lv_lmul hx hb dX1_fits_171 ?_
      refine lv_aload_n hx hb dX1_fits_172 rfl (lv_at hl 0 rfl) ?_
      refine va_get (D := D) (ci := 1) (v := .long t_mostUpper) (C := RX1) (T := TX1) (N := 14) hx hb hts i_X1_fits_X1 hown hE.1 hP 0 rfl rfl 12 (by decide) (hts (.fieldLink RX1 62 "NeedleHouse$Pieces" "mostUpper" "J") (by decide +kernel)) (fun _ h9 => h9) rfl dX1_fits_173 ?_
      refine lv_aload_n hx hb dX1_fits_176 rfl (lv_at hl 0 rfl) ?_
      refine va_get (D := D) (ci := 1) (v := .long t_leastLower) (C := RX1) (T := TX1) (N := 14) hx hb hts i_X1_fits_X1 hown hE.1 hP 0 rfl rfl 11 (by decide) (hts (.fieldLink RX1 52 "NeedleHouse$Pieces" "leastLower" "J") (by decide +kernel)) (fun _ h9 => h9) rfl dX1_fits_177 ?_
      refine lv_lmul hx hb dX1_fits_180 ?_
      refine W.lcmp hx hb dX1_fits_181 ?_
      refine lv_if_gt (tgt := 189) hx hb dX1_fits_182 (by decide) (fun c3 => ?_) (fun c3 => ?_)
      · have hF := ifT c3 hF
        refine lv_iconst (v := 0) hx hb dX1_fits_189 (by decide) ?_
        obtain ⟨rfl, rfl, rfl, rfl, rfl⟩ := in5 hF
        exact W.zret hx hb hr rfl (fun t ht hW => ⟨⟨_, (), rfl, rfl, vaP_at ht hP⟩, hS.F ht⟩) hS.2.2 dX1_fits_190
      · have hF := ifF c3 hF
        refine lv_iconst (v := 1) hx hb dX1_fits_185 (by decide) ?_
        refine lv_goto (tgt := 190) hx hb dX1_fits_186 (by decide) ?_
        obtain ⟨rfl, rfl, rfl, rfl, rfl⟩ := in5 hF
        exact W.zret hx hb hr rfl (fun t ht hW => ⟨⟨_, (), rfl, rfl, vaP_at ht hP⟩, hS.F ht⟩) hS.2.2 dX1_fits_190
  · have hF := ifF c1 hF
    refine lv_iload hx hb dX1_fits_11 (lv_at hl 3 rfl) ?_
    refine lv_iconst (v := 1) hx hb dX1_fits_13 (by decide) ?_
    refine lv_iadd hx hb dX1_fits_14 ?_
    refine lv_topi (fun x4 ex4 => ?_)
    have hF := bn_as ex4 hF
    refine lv_istore (lv' := [(5, .int x4), (0, .ref q_t), (2, .int x_2), (3, .int x_3), (4, .int x_4)]) hx hb dX1_fits_15 hl (by decide) rfl (fun ls hl => ?_)
    exact lX1_fits_17 C0 k5 hk5 n t_leastUpper t_leastLower t_mostUpper t_mostLower x_2 x_3 x_4 x4 _ _ _ hF hP hD hS (lv_sub hl [1, 2, 3, 4, 0] rfl)
theorem lX1_fits_5 {p : Program} {l : Launch} {e : Env} {s : State} {m : MethodId} {args : Array Value} {below : List Frame} {meth : Method} {c : Code} {D : va_G} {ct : Nat → ClassId} {A : Nat → Prop} {q_t q_t_times q_t_lows q_t_highs q_t_firsts q_t_lengths q_t_uppers q_t_lowers q_t_middles : Nat} {t_points : Int32} {t_size : Int32} {t_times : Nat → Int32} {t_lows : Nat → Int32} {t_highs : Nat → Int32} {o_r : Int32} {o_t_leastUpper : Int64} {o_t_leastLower : Int64} {o_t_mostUpper : Int64} {o_t_mostLower : Int64} (C0 : Cx RX1 cX1_fits 12 (some .boolean) wsX1_fits D ct A p s m args meth c) : ∀ (n : Nat) (t_leastUpper : Int64) (t_leastLower : Int64) (t_mostUpper : Int64) (t_mostLower : Int64) (x_2 : Int32) (x_3 : Int32) (x_4 : Int32) (H : Heap) (locs : List Loc) (ls : Array Slot), LX1_fits_5 n t_leastUpper t_leastLower t_mostUpper t_mostLower t_times t_lows t_highs x_2 x_3 x_4 = some (o_r, o_t_leastUpper, o_t_leastLower, o_t_mostUpper, o_t_mostLower) → va_P D vwCl (W_13 ct q_t q_t_times q_t_lows q_t_highs q_t_firsts q_t_lengths q_t_uppers q_t_lowers q_t_middles t_points t_size t_leastUpper t_leastLower t_mostUpper t_mostLower t_times t_lows t_highs) H → va_D A (W_13 ct q_t q_t_times q_t_lows q_t_highs q_t_firsts q_t_lengths q_t_uppers q_t_lowers q_t_middles t_points t_size t_leastUpper t_leastLower t_mostUpper t_mostLower t_times t_lows t_highs) → va_S A s.heap H locs → lv_has ls 12 [(0, .ref q_t), (2, .int x_2), (3, .int x_3), (4, .int x_4)] → W p l e ({ frames := 0, cells := 0, slots := 0, locals := 0 } : Room) s m args below meth c H locs 0 0 (MQ below (va_Qi (fun r (_ : Unit) => r = o_r) (fun _ t => va_P D vwCl (W_13 ct q_t q_t_times q_t_lows q_t_highs q_t_firsts q_t_lengths q_t_uppers q_t_lowers q_t_middles t_points t_size o_t_leastUpper o_t_leastLower o_t_mostUpper o_t_mostLower t_times t_lows t_highs) t.heap) A) args s 0 0 A) (F0 m 5 ls []) := by
  intro n
  induction n with
  | zero => intro t_leastUpper t_leastLower t_mostUpper t_mostLower x_2 x_3 x_4 H locs ls hF; exact nomatch (show (none : Option (Int32 × Int64 × Int64 × Int64 × Int64)) = _ from hF)
  | succ n ih => intro t_leastUpper t_leastLower t_mostUpper t_mostLower x_2 x_3 x_4 H locs ls hF; exact jX1_fits_5 C0 (LX1_fits_5 n) ih n t_leastUpper t_leastLower t_mostUpper t_mostLower x_2 x_3 x_4 H locs ls hF
set_option maxHeartbeats 4000000 in
set_option maxRecDepth 100000 in
theorem met_X1_fits (l : Launch) (D : va_G) (ct : Nat → ClassId) (q_t : Nat) (q_t_times : Nat) (q_t_lows : Nat) (q_t_highs : Nat) (q_t_firsts : Nat) (q_t_lengths : Nat) (q_t_uppers : Nat) (q_t_lowers : Nat) (q_t_middles : Nat) (sz : Nat) (t_points : Int32) (t_size : Int32) (t_leastUpper : Int64) (t_leastLower : Int64) (t_mostUpper : Int64) (t_mostLower : Int64) (t_times : Nat → Int32) (t_lows : Nat → Int32) (t_highs : Nat → Int32) (p1 : Int32) (p2 : Int32) (n : Nat) (o_r : Int32) (o_t_leastUpper : Int64) (o_t_leastLower : Int64) (o_t_mostUpper : Int64) (o_t_mostLower : Int64) (hF : FX1_fits n t_leastUpper t_leastLower t_mostUpper t_mostLower t_times t_lows t_highs p1 p2 = some (o_r, o_t_leastUpper, o_t_leastLower, o_t_mostUpper, o_t_mostLower)) : Met l yX1_fits wsX1_fits ({ frames := 0, cells := 0, slots := 0, locals := 0 } : Room) (va_Pc [.ref q_t, .int p1, .int p2] (pre_ D ct sz (W_13 ct q_t q_t_times q_t_lows q_t_highs q_t_firsts q_t_lengths q_t_uppers q_t_lowers q_t_middles t_points t_size t_leastUpper t_leastLower t_mostUpper t_mostLower t_times t_lows t_highs))) (va_Qi (fun r (_ : Unit) => r = o_r) (fun _ t => va_P D vwCl (W_13 ct q_t q_t_times q_t_lows q_t_highs q_t_firsts q_t_lengths q_t_uppers q_t_lowers q_t_middles t_points t_size o_t_leastUpper o_t_leastLower o_t_mostUpper o_t_mostLower t_times t_lows t_highs) t.heap) (va_A (W_13 ct q_t q_t_times q_t_lows q_t_highs q_t_firsts q_t_lengths q_t_uppers q_t_lowers q_t_middles t_points t_size t_leastUpper t_leastLower t_mostUpper t_mostLower t_times t_lows t_highs) sz)) 0 0 (va_A (W_13 ct q_t q_t_times q_t_lows q_t_highs q_t_firsts q_t_lengths q_t_uppers q_t_lowers q_t_middles t_points t_size t_leastUpper t_leastLower t_mostUpper t_mostLower t_times t_lows t_highs) sz) := by
  refine Met.ofW (cc := cX1_fits) (maxL := 12) (ret := (some .boolean)) (by decide) rfl ?_
  intro p e s m args below meth c s₁ B hml hv
  obtain ⟨rfl, hsz, hP, hE, hD0⟩ := hv
  have hx := B.exec
  have hb := B.bytes
  have hr := B.returns
  have hts := atoms_spec (ws := wsX1_fits) B.pre
  have hown : s.vm.findClass RX1 = some m.cls := findClass_of_methodNamed B.named
  have hlocks := B.notSynchronized
  subst hsz
  have hD := hD0.self (sz := s.heap.size)
  generalize hAe : va_A (W_13 ct q_t q_t_times q_t_lows q_t_highs q_t_firsts q_t_lengths q_t_uppers q_t_lowers q_t_middles t_points t_size t_leastUpper t_leastLower t_mostUpper t_mostLower t_times t_lows t_highs) s.heap.size = A at hD ⊢
  have hA : ∀ q : Nat, s.heap.size ≤ q → A q := fun q h => by rw [← hAe]; exact Or.inr h
  have hl := lv_entry ([.ref q_t, .int p1, .int p2]) (n := 12) (Nat.le_of_ble_eq_true rfl)
  rw [lg_entry_eq]
  generalize (lg_sl ([.ref q_t, .int p1, .int p2]) ++ List.replicate (12 - (lg_sl ([.ref q_t, .int p1, .int p2])).length) Slot.unset).toArray = ls at hl ⊢
  have hl : lv_has ls 12 [(0, .ref q_t), (1, .int p1), (2, .int p2)] := hl
  have C0 : Cx RX1 cX1_fits 12 (some .boolean) wsX1_fits D ct A p s m ([.ref q_t, .int p1, .int p2]).toArray meth c := ⟨hx, hb, hml, hown, hts, hr, hlocks, hE, hA⟩
  have hS : ∀ H : Heap, s.heap = H → va_S A s.heap H [] := fun H h => h ▸ va_S.rf
  generalize hH : s.heap = H at hP ⊢
  have hS := hS H hH
  unfold FX1_fits at hF
  refine lv_iconst (v := 0) hx hb dX1_fits_0 (by decide) ?_
  refine lv_istore_n (lv' := [(3, .int 0), (0, .ref q_t), (1, .int p1), (2, .int p2)]) hx hb dX1_fits_1 rfl hl (by decide) rfl (fun ls hl => ?_)
  refine lv_iload_n hx hb dX1_fits_2 rfl (lv_at hl 2 rfl) ?_
  refine lv_istore (lv' := [(4, .int p1), (3, .int 0), (0, .ref q_t), (1, .int p1), (2, .int p2)]) hx hb dX1_fits_3 hl (by decide) rfl (fun ls hl => ?_)
  exact lX1_fits_5 C0 n t_leastUpper t_leastLower t_mostUpper t_mostLower p2 0 p1 _ _ _ hF hP hD hS (lv_sub hl [2, 4, 1, 0] rfl)
/-! NeedleHouse$Pieces.commonDivisor(JJ)J -/
set_option maxHeartbeats 4000000 in
set_option maxRecDepth 100000 in
theorem jX1_commonDivisor_9 {p : Program} {l : Launch} {e : Env} {s : State} {m : MethodId} {args : Array Value} {below : List Frame} {meth : Method} {c : Code} {D : va_G} {ct : Nat → ClassId} {A : Nat → Prop} {o_r : Int64} (C0 : Cx RX1 cX1_commonDivisor 11 (some .long) wsX1_commonDivisor D ct A p s m args meth c) (k9 : Int64 → Int64 → Int32 → Option (Int64)) (hk9 : ∀ (x_4 : Int64) (x_6 : Int64) (x_8 : Int32) (H : Heap) (locs : List Loc) (ls : Array Slot), k9 x_4 x_6 x_8 = some (o_r) → va_P D vwCl [] H → va_D A [] → va_S A s.heap H locs → lv_has ls 11 [(4, .long x_4), (6, .long x_6), (8, .int x_8)] → W p l e ({ frames := 0, cells := 0, slots := 0, locals := 0 } : Room) s m args below meth c H locs 0 0 (MQ below (va_Ql (fun r (_ : Unit) => r = o_r) (fun _ t => va_P D vwCl [] t.heap) A) args s 0 0 A) (F0 m 9 ls [])) (n : Nat) (x_4 : Int64) (x_6 : Int64) (x_8 : Int32) (H : Heap) (locs : List Loc) (ls : Array Slot) : JX1_commonDivisor_9 k9 n x_4 x_6 x_8 = some (o_r) → va_P D vwCl [] H → va_D A [] → va_S A s.heap H locs → lv_has ls 11 [(4, .long x_4), (6, .long x_6), (8, .int x_8)] → W p l e ({ frames := 0, cells := 0, slots := 0, locals := 0 } : Room) s m args below meth c H locs 0 0 (MQ below (va_Ql (fun r (_ : Unit) => r = o_r) (fun _ t => va_P D vwCl [] t.heap) A) args s 0 0 A) (F0 m 9 ls []) := by
  intro hF hP hD hS hl
  obtain ⟨hx, hb, hml, hown, hts, hr, hlocks, hE, hA⟩ := id C0
  unfold JX1_commonDivisor_9 at hF
  refine lv_iload hx hb dX1_commonDivisor_9 (lv_at hl 2 rfl) ?_
  refine lv_bipush (v := 64) hx hb dX1_commonDivisor_11 (by decide) ?_
  refine lv_icmp_ge (tgt := 44) hx hb dX1_commonDivisor_13 (by decide) (fun c1 => ?_) (fun c1 => ?_)
  · have hF := ifT c1 hF
    refine lv_lload hx hb dX1_commonDivisor_44 (lv_at hl 0 rfl) ?_
    obtain rfl := Option.some.inj hF
    exact W.lret hx hb hr (fun t ht hW => ⟨⟨_, (), rfl, rfl, vaP_at ht hP⟩, hS.F ht⟩) hS.2.2 dX1_commonDivisor_46
  · have hF := ifF c1 hF
    refine lv_lload hx hb dX1_commonDivisor_16 (lv_at hl 1 rfl) ?_
    refine lv_lconst (v := 0) hx hb dX1_commonDivisor_18 (by decide) ?_
    refine W.lcmp hx hb dX1_commonDivisor_19 ?_
    refine lv_if_eq (tgt := 44) hx hb dX1_commonDivisor_20 (by decide) (fun c2 => ?_) (fun c2 => ?_)
    · have hF := ifT c2 hF
      refine lv_lload hx hb dX1_commonDivisor_44 (lv_at hl 0 rfl) ?_
      obtain rfl := Option.some.inj hF
      exact W.lret hx hb hr (fun t ht hW => ⟨⟨_, (), rfl, rfl, vaP_at ht hP⟩, hS.F ht⟩) hS.2.2 dX1_commonDivisor_46
    · have hF := ifF c2 hF
      refine lv_lload hx hb dX1_commonDivisor_23 (lv_at hl 0 rfl) ?_
      refine lv_lload hx hb dX1_commonDivisor_25 (lv_at hl 1 rfl) ?_
      obtain ⟨h3, hF⟩ := gd_ex hF
      refine lv_lrem hx hb dX1_commonDivisor_27 h3 ?_
      refine lv_topl (fun x4 ex4 => ?_)
      have hF := bn_as ex4 hF
      refine lv_lstore (lv' := [(9, .long x4), (4, .long x_4), (6, .long x_6), (8, .int x_8)]) hx hb dX1_commonDivisor_28 hl (by decide) rfl (fun ls hl => ?_)
      refine lv_lload hx hb dX1_commonDivisor_30 (lv_at hl 2 rfl) ?_
      refine lv_lstore (lv' := [(4, .long x_6), (9, .long x4), (6, .long x_6), (8, .int x_8)]) hx hb dX1_commonDivisor_32 hl (by decide) rfl (fun ls hl => ?_)
      refine lv_lload hx hb dX1_commonDivisor_34 (lv_at hl 1 rfl) ?_
      refine lv_lstore (lv' := [(6, .long x4), (4, .long x_6), (9, .long x4), (8, .int x_8)]) hx hb dX1_commonDivisor_36 hl (by decide) rfl (fun ls hl => ?_)
      obtain ⟨x5, ex5⟩ : ∃ y : Int32, y = x_8 + 1 := ⟨_, rfl⟩
      refine lv_iinc (v := x5) (lv' := [(8, .int x5), (6, .long x4), (4, .long x_6), (9, .long x4)]) hx hb dX1_commonDivisor_38 hl (k := 3) rfl (by rw [ex5]; rfl) (by decide) rfl (fun ls hl => ?_)
      have hF := bn_as ex5 hF
      refine lv_goto (tgt := 9) hx hb dX1_commonDivisor_41 (by decide) ?_
      exact hk9 x_6 x4 x5 _ _ _ hF hP hD hS (lv_sub hl [2, 1, 0] rfl)
theorem lX1_commonDivisor_9 {p : Program} {l : Launch} {e : Env} {s : State} {m : MethodId} {args : Array Value} {below : List Frame} {meth : Method} {c : Code} {D : va_G} {ct : Nat → ClassId} {A : Nat → Prop} {o_r : Int64} (C0 : Cx RX1 cX1_commonDivisor 11 (some .long) wsX1_commonDivisor D ct A p s m args meth c) : ∀ (n : Nat) (x_4 : Int64) (x_6 : Int64) (x_8 : Int32) (H : Heap) (locs : List Loc) (ls : Array Slot), LX1_commonDivisor_9 n x_4 x_6 x_8 = some (o_r) → va_P D vwCl [] H → va_D A [] → va_S A s.heap H locs → lv_has ls 11 [(4, .long x_4), (6, .long x_6), (8, .int x_8)] → W p l e ({ frames := 0, cells := 0, slots := 0, locals := 0 } : Room) s m args below meth c H locs 0 0 (MQ below (va_Ql (fun r (_ : Unit) => r = o_r) (fun _ t => va_P D vwCl [] t.heap) A) args s 0 0 A) (F0 m 9 ls []) := by
  intro n
  induction n with
  | zero => intro x_4 x_6 x_8 H locs ls hF; exact nomatch (show (none : Option (Int64)) = _ from hF)
  | succ n ih => intro x_4 x_6 x_8 H locs ls hF; exact jX1_commonDivisor_9 C0 (LX1_commonDivisor_9 n) ih n x_4 x_6 x_8 H locs ls hF
set_option maxHeartbeats 4000000 in
set_option maxRecDepth 100000 in
theorem met_X1_commonDivisor (l : Launch) (D : va_G) (ct : Nat → ClassId) (sz : Nat) (p1 : Int64) (p2 : Int64) (n : Nat) (o_r : Int64) (hF : FX1_commonDivisor n p1 p2 = some (o_r)) : Met l yX1_commonDivisor wsX1_commonDivisor ({ frames := 0, cells := 0, slots := 0, locals := 0 } : Room) (va_Pc [.long p1, .long p2] (pre_ D ct sz [])) (va_Ql (fun r (_ : Unit) => r = o_r) (fun _ t => va_P D vwCl [] t.heap) (va_A [] sz)) 0 0 (va_A [] sz) := by
  refine Met.ofW (cc := cX1_commonDivisor) (maxL := 11) (ret := (some .long)) (by decide) rfl ?_
  intro p e s m args below meth c s₁ B hml hv
  obtain ⟨rfl, hsz, hP, hE, hD0⟩ := hv
  have hx := B.exec
  have hb := B.bytes
  have hr := B.returns
  have hts := atoms_spec (ws := wsX1_commonDivisor) B.pre
  have hown : s.vm.findClass RX1 = some m.cls := findClass_of_methodNamed B.named
  have hlocks := B.notSynchronized
  subst hsz
  have hD := hD0.self (sz := s.heap.size)
  generalize hAe : va_A [] s.heap.size = A at hD ⊢
  have hA : ∀ q : Nat, s.heap.size ≤ q → A q := fun q h => by rw [← hAe]; exact Or.inr h
  have hl := lv_entry ([.long p1, .long p2]) (n := 11) (Nat.le_of_ble_eq_true rfl)
  rw [lg_entry_eq]
  generalize (lg_sl ([.long p1, .long p2]) ++ List.replicate (11 - (lg_sl ([.long p1, .long p2])).length) Slot.unset).toArray = ls at hl ⊢
  have hl : lv_has ls 11 [(0, .long p1), (2, .long p2)] := hl
  have C0 : Cx RX1 cX1_commonDivisor 11 (some .long) wsX1_commonDivisor D ct A p s m ([.long p1, .long p2]).toArray meth c := ⟨hx, hb, hml, hown, hts, hr, hlocks, hE, hA⟩
  have hS : ∀ H : Heap, s.heap = H → va_S A s.heap H [] := fun H h => h ▸ va_S.rf
  generalize hH : s.heap = H at hP ⊢
  have hS := hS H hH
  unfold FX1_commonDivisor at hF
  refine lv_lload_n hx hb dX1_commonDivisor_0 rfl (lv_at hl 0 rfl) ?_
  refine lv_lstore (lv' := [(4, .long p1), (0, .long p1), (2, .long p2)]) hx hb dX1_commonDivisor_1 hl (by decide) rfl (fun ls hl => ?_)
  refine lv_lload_n hx hb dX1_commonDivisor_3 rfl (lv_at hl 2 rfl) ?_
  refine lv_lstore (lv' := [(6, .long p2), (4, .long p1), (0, .long p1), (2, .long p2)]) hx hb dX1_commonDivisor_4 hl (by decide) rfl (fun ls hl => ?_)
  refine lv_iconst (v := 0) hx hb dX1_commonDivisor_6 (by decide) ?_
  refine lv_istore (lv' := [(8, .int 0), (6, .long p2), (4, .long p1), (0, .long p1), (2, .long p2)]) hx hb dX1_commonDivisor_7 hl (by decide) rfl (fun ls hl => ?_)
  exact lX1_commonDivisor_9 C0 n p1 p2 0 _ _ _ hF hP hD hS (lv_sub hl [2, 1, 0] rfl)
/-! NeedleHouse$Pieces.middleOf(IIJJ)J -/
theorem i_X1_middleOf_X1 : ∀ w ∈ wsX10, w ∈ wsX1_middleOf := by decide +kernel
set_option maxHeartbeats 4000000 in
set_option maxRecDepth 100000 in
theorem jX1_middleOf_49 {p : Program} {l : Launch} {e : Env} {s : State} {m : MethodId} {args : Array Value} {below : List Frame} {meth : Method} {c : Code} {D : va_G} {ct : Nat → ClassId} {A : Nat → Prop} {q_t q_t_times q_t_lows q_t_highs q_t_firsts q_t_lengths q_t_uppers q_t_lowers q_t_middles : Nat} {t_points : Int32} {t_size : Int32} {t_leastUpper : Int64} {t_leastLower : Int64} {t_mostUpper : Int64} {t_mostLower : Int64} {t_times : Nat → Int32} {t_lows : Nat → Int32} {t_highs : Nat → Int32} {o_r : Int64} (C0 : Cx RX1 cX1_middleOf 12 (some .long) wsX1_middleOf D ct A p s m args meth c) (k49 : (Nat → Int32) → (Nat → Int32) → (Nat → Int32) → Int32 → Int64 → Int64 → Int64 → Int64 → Int32 → Option (Int64)) (hk49 : ∀ (x_2 : Int32) (x_3 : Int64) (x_5 : Int64) (x_7 : Int64) (x_9 : Int64) (x_11 : Int32) (H : Heap) (locs : List Loc) (ls : Array Slot), k49 t_times t_lows t_highs x_2 x_3 x_5 x_7 x_9 x_11 = some (o_r) → va_P D vwCl (W_13 ct q_t q_t_times q_t_lows q_t_highs q_t_firsts q_t_lengths q_t_uppers q_t_lowers q_t_middles t_points t_size t_leastUpper t_leastLower t_mostUpper t_mostLower t_times t_lows t_highs) H → va_D A (W_13 ct q_t q_t_times q_t_lows q_t_highs q_t_firsts q_t_lengths q_t_uppers q_t_lowers q_t_middles t_points t_size t_leastUpper t_leastLower t_mostUpper t_mostLower t_times t_lows t_highs) → va_S A s.heap H locs → lv_has ls 12 [(0, .ref q_t), (2, .int x_2), (3, .long x_3), (5, .long x_5), (7, .long x_7), (9, .long x_9), (11, .int x_11)] → W p l e ({ frames := 1, cells := 0, slots := 0, locals := 17 } : Room) s m args below meth c H locs 0 0 (MQ below (va_Ql (fun r (_ : Unit) => r = o_r) (fun _ t => va_P D vwCl (W_13 ct q_t q_t_times q_t_lows q_t_highs q_t_firsts q_t_lengths q_t_uppers q_t_lowers q_t_middles t_points t_size t_leastUpper t_leastLower t_mostUpper t_mostLower t_times t_lows t_highs) t.heap) A) args s 0 0 A) (F0 m 49 ls [])) (n : Nat) (x_2 : Int32) (x_3 : Int64) (x_5 : Int64) (x_7 : Int64) (x_9 : Int64) (x_11 : Int32) (H : Heap) (locs : List Loc) (ls : Array Slot) : JX1_middleOf_49 k49 n t_times t_lows t_highs x_2 x_3 x_5 x_7 x_9 x_11 = some (o_r) → va_P D vwCl (W_13 ct q_t q_t_times q_t_lows q_t_highs q_t_firsts q_t_lengths q_t_uppers q_t_lowers q_t_middles t_points t_size t_leastUpper t_leastLower t_mostUpper t_mostLower t_times t_lows t_highs) H → va_D A (W_13 ct q_t q_t_times q_t_lows q_t_highs q_t_firsts q_t_lengths q_t_uppers q_t_lowers q_t_middles t_points t_size t_leastUpper t_leastLower t_mostUpper t_mostLower t_times t_lows t_highs) → va_S A s.heap H locs → lv_has ls 12 [(0, .ref q_t), (2, .int x_2), (3, .long x_3), (5, .long x_5), (7, .long x_7), (9, .long x_9), (11, .int x_11)] → W p l e ({ frames := 1, cells := 0, slots := 0, locals := 17 } : Room) s m args below meth c H locs 0 0 (MQ below (va_Ql (fun r (_ : Unit) => r = o_r) (fun _ t => va_P D vwCl (W_13 ct q_t q_t_times q_t_lows q_t_highs q_t_firsts q_t_lengths q_t_uppers q_t_lowers q_t_middles t_points t_size t_leastUpper t_leastLower t_mostUpper t_mostLower t_times t_lows t_highs) t.heap) A) args s 0 0 A) (F0 m 49 ls []) := by
  intro hF hP hD hS hl
  obtain ⟨hx, hb, hml, hown, hts, hr, hlocks, hE, hA⟩ := id C0
  unfold JX1_middleOf_49 at hF
  refine lv_iload hx hb dX1_middleOf_49 (lv_at hl 6 rfl) ?_
  refine lv_iload_n hx hb dX1_middleOf_51 rfl (lv_at hl 1 rfl) ?_
  refine lv_icmp_ge (tgt := 119) hx hb dX1_middleOf_52 (by decide) (fun c8 => ?_) (fun c8 => ?_)
  · have hF := ifT c8 hF
    refine lv_lload hx hb dX1_middleOf_119 (lv_at hl 4 rfl) ?_
    refine lv_lload hx hb dX1_middleOf_121 (lv_at hl 5 rfl) ?_
    refine lv_ladd hx hb dX1_middleOf_123 ?_
    obtain rfl := Option.some.inj hF
    exact W.lret hx hb hr (fun t ht hW => ⟨⟨_, (), rfl, rfl, vaP_at ht hP⟩, hS.F ht⟩) hS.2.2 dX1_middleOf_124
  · have hF := ifF c8 hF
    refine lv_lload hx hb dX1_middleOf_55 (lv_at hl 4 rfl) ?_
    refine lv_aload_n hx hb dX1_middleOf_57 rfl (lv_at hl 0 rfl) ?_
    refine va_get (D := D) (ci := 1) (v := .ref q_t_lows) (C := RX1) (T := TX1) (N := 14) hx hb hts i_X1_middleOf_X1 hown hE.1 hP 0 rfl rfl 1 (by decide) (hts (.fieldLink RX1 15 "NeedleHouse$Pieces" "lows" "[I") (by decide +kernel)) (fun _ h9 => h9) rfl dX1_middleOf_58 ?_
    refine lv_iload hx hb dX1_middleOf_61 (lv_at hl 6 rfl) ?_
    obtain ⟨h9, hF⟩ := gd_ex hF
    refine va_iald hx hb hE.1 hP 2 0 rfl rfl h9 dX1_middleOf_63 ?_
    refine lv_i2l hx hb dX1_middleOf_64 rfl ?_
    refine lv_lload hx hb dX1_middleOf_65 (lv_at hl 3 rfl) ?_
    refine lv_lmul hx hb dX1_middleOf_67 ?_
    refine lv_lload_n hx hb dX1_middleOf_68 rfl (lv_at hl 2 rfl) ?_
    refine lv_aload_n hx hb dX1_middleOf_69 rfl (lv_at hl 0 rfl) ?_
    refine va_get (D := D) (ci := 1) (v := .ref q_t_times) (C := RX1) (T := TX1) (N := 14) hx hb hts i_X1_middleOf_X1 hown hE.1 hP 0 rfl rfl 0 (by decide) (hts (.fieldLink RX1 9 "NeedleHouse$Pieces" "times" "[I") (by decide +kernel)) (fun _ h9 => h9) rfl dX1_middleOf_70 ?_
    refine lv_iload hx hb dX1_middleOf_73 (lv_at hl 6 rfl) ?_
    obtain ⟨h10, hF⟩ := gd_ex hF
    refine va_iald hx hb hE.1 hP 1 0 rfl rfl h10 dX1_middleOf_75 ?_
    refine lv_i2l hx hb dX1_middleOf_76 rfl ?_
    refine lv_lmul hx hb dX1_middleOf_77 ?_
    refine lv_lsub hx hb dX1_middleOf_78 ?_
    refine va_mmax_long hx hb (hml.trans hl.1.symm) hown (hts (.methodLink RX1 79 Lib.MathLoose.max_long.x) (by decide +kernel)) (hts (.static Lib.MathLoose.max_long.x) (by decide +kernel)) (hts (.initialized "java/lang/Math") (by decide +kernel)) (hts (.code Lib.MathLoose.max_long.x Lib.MathLoose.max_long.code 4 (some .long)) (by decide +kernel)) (Nat.le_of_ble_eq_true rfl) (Nat.le_of_ble_eq_true rfl) (Nat.zero_le _) (Nat.zero_le _) dX1_middleOf_79 ?_
    refine lv_topl (fun x11 ex11 => ?_)
    have hF := bn_as ex11 hF
    refine lv_lstore (lv' := [(7, .long x11), (0, .ref q_t), (2, .int x_2), (3, .long x_3), (5, .long x_5), (9, .long x_9), (11, .int x_11)]) hx hb dX1_middleOf_82 hl (by decide) rfl (fun ls hl => ?_)
    refine lv_lload hx hb dX1_middleOf_84 (lv_at hl 5 rfl) ?_
    refine lv_aload_n hx hb dX1_middleOf_86 rfl (lv_at hl 1 rfl) ?_
    refine va_get (D := D) (ci := 1) (v := .ref q_t_highs) (C := RX1) (T := TX1) (N := 14) hx hb hts i_X1_middleOf_X1 hown hE.1 hP 0 rfl rfl 2 (by decide) (hts (.fieldLink RX1 18 "NeedleHouse$Pieces" "highs" "[I") (by decide +kernel)) (fun _ h9 => h9) rfl dX1_middleOf_87 ?_
    refine lv_iload hx hb dX1_middleOf_90 (lv_at hl 6 rfl) ?_
    obtain ⟨h12, hF⟩ := gd_ex hF
    refine va_iald hx hb hE.1 hP 3 0 rfl rfl h12 dX1_middleOf_92 ?_
    refine lv_i2l hx hb dX1_middleOf_93 rfl ?_
    refine lv_lload hx hb dX1_middleOf_94 (lv_at hl 4 rfl) ?_
    refine lv_lmul hx hb dX1_middleOf_96 ?_
    refine lv_lload_n hx hb dX1_middleOf_97 rfl (lv_at hl 3 rfl) ?_
    refine lv_aload_n hx hb dX1_middleOf_98 rfl (lv_at hl 1 rfl) ?_
    refine va_get (D := D) (ci := 1) (v := .ref q_t_times) (C := RX1) (T := TX1) (N := 14) hx hb hts i_X1_middleOf_X1 hown hE.1 hP 0 rfl rfl 0 (by decide) (hts (.fieldLink RX1 9 "NeedleHouse$Pieces" "times" "[I") (by decide +kernel)) (fun _ h9 => h9) rfl dX1_middleOf_99 ?_
    refine lv_iload hx hb dX1_middleOf_102 (lv_at hl 6 rfl) ?_
    obtain ⟨h13, hF⟩ := gd_ex hF
    refine va_iald hx hb hE.1 hP 1 0 rfl rfl h13 dX1_middleOf_104 ?_
    refine lv_i2l hx hb dX1_middleOf_105 rfl ?_
    refine lv_lmul hx hb dX1_middleOf_106 ?_
    refine lv_lsub hx hb dX1_middleOf_107 ?_
    refine va_mmin_long hx hb (hml.trans hl.1.symm) hown (hts (.methodLink RX1 82 Lib.MathLoose.min_long.x) (by decide +kernel)) (hts (.static Lib.MathLoose.min_long.x) (by decide +kernel)) (hts (.initialized "java/lang/Math") (by decide +kernel)) (hts (.code Lib.MathLoose.min_long.x Lib.MathLoose.min_long.code 4 (some .long)) (by decide +kernel)) (Nat.le_of_ble_eq_true rfl) (Nat.le_of_ble_eq_true rfl) (Nat.zero_le _) (Nat.zero_le _) dX1_middleOf_108 ?_
    refine lv_topl (fun x14 ex14 => ?_)
    have hF := bn_as ex14 hF
    refine lv_lstore (lv' := [(9, .long x14), (7, .long x11), (0, .ref q_t), (2, .int x_2), (3, .long x_3), (5, .long x_5), (11, .int x_11)]) hx hb dX1_middleOf_111 hl (by decide) rfl (fun ls hl => ?_)
    obtain ⟨x15, ex15⟩ : ∃ y : Int32, y = x_11 + 1 := ⟨_, rfl⟩
    refine lv_iinc (v := x15) (lv' := [(11, .int x15), (9, .long x14), (7, .long x11), (0, .ref q_t), (2, .int x_2), (3, .long x_3), (5, .long x_5)]) hx hb dX1_middleOf_113 hl (k := 6) rfl (by rw [ex15]; rfl) (by decide) rfl (fun ls hl => ?_)
    have hF := bn_as ex15 hF
    refine lv_goto (tgt := 49) hx hb dX1_middleOf_116 (by decide) ?_
    exact hk49 x_2 x_3 x_5 x11 x14 x15 _ _ _ hF hP hD hS (lv_sub hl [3, 4, 5, 6, 2, 1, 0] rfl)
theorem lX1_middleOf_49 {p : Program} {l : Launch} {e : Env} {s : State} {m : MethodId} {args : Array Value} {below : List Frame} {meth : Method} {c : Code} {D : va_G} {ct : Nat → ClassId} {A : Nat → Prop} {q_t q_t_times q_t_lows q_t_highs q_t_firsts q_t_lengths q_t_uppers q_t_lowers q_t_middles : Nat} {t_points : Int32} {t_size : Int32} {t_leastUpper : Int64} {t_leastLower : Int64} {t_mostUpper : Int64} {t_mostLower : Int64} {t_times : Nat → Int32} {t_lows : Nat → Int32} {t_highs : Nat → Int32} {o_r : Int64} (C0 : Cx RX1 cX1_middleOf 12 (some .long) wsX1_middleOf D ct A p s m args meth c) : ∀ (n : Nat) (x_2 : Int32) (x_3 : Int64) (x_5 : Int64) (x_7 : Int64) (x_9 : Int64) (x_11 : Int32) (H : Heap) (locs : List Loc) (ls : Array Slot), LX1_middleOf_49 n t_times t_lows t_highs x_2 x_3 x_5 x_7 x_9 x_11 = some (o_r) → va_P D vwCl (W_13 ct q_t q_t_times q_t_lows q_t_highs q_t_firsts q_t_lengths q_t_uppers q_t_lowers q_t_middles t_points t_size t_leastUpper t_leastLower t_mostUpper t_mostLower t_times t_lows t_highs) H → va_D A (W_13 ct q_t q_t_times q_t_lows q_t_highs q_t_firsts q_t_lengths q_t_uppers q_t_lowers q_t_middles t_points t_size t_leastUpper t_leastLower t_mostUpper t_mostLower t_times t_lows t_highs) → va_S A s.heap H locs → lv_has ls 12 [(0, .ref q_t), (2, .int x_2), (3, .long x_3), (5, .long x_5), (7, .long x_7), (9, .long x_9), (11, .int x_11)] → W p l e ({ frames := 1, cells := 0, slots := 0, locals := 17 } : Room) s m args below meth c H locs 0 0 (MQ below (va_Ql (fun r (_ : Unit) => r = o_r) (fun _ t => va_P D vwCl (W_13 ct q_t q_t_times q_t_lows q_t_highs q_t_firsts q_t_lengths q_t_uppers q_t_lowers q_t_middles t_points t_size t_leastUpper t_leastLower t_mostUpper t_mostLower t_times t_lows t_highs) t.heap) A) args s 0 0 A) (F0 m 49 ls []) := by
  intro n
  induction n with
  | zero => intro x_2 x_3 x_5 x_7 x_9 x_11 H locs ls hF; exact nomatch (show (none : Option (Int64)) = _ from hF)
  | succ n ih => intro x_2 x_3 x_5 x_7 x_9 x_11 H locs ls hF; exact jX1_middleOf_49 C0 (LX1_middleOf_49 n) ih n x_2 x_3 x_5 x_7 x_9 x_11 H locs ls hF
set_option maxHeartbeats 4000000 in
set_option maxRecDepth 100000 in
theorem met_X1_middleOf (l : Launch) (D : va_G) (ct : Nat → ClassId) (q_t : Nat) (q_t_times : Nat) (q_t_lows : Nat) (q_t_highs : Nat) (q_t_firsts : Nat) (q_t_lengths : Nat) (q_t_uppers : Nat) (q_t_lowers : Nat) (q_t_middles : Nat) (sz : Nat) (t_points : Int32) (t_size : Int32) (t_leastUpper : Int64) (t_leastLower : Int64) (t_mostUpper : Int64) (t_mostLower : Int64) (t_times : Nat → Int32) (t_lows : Nat → Int32) (t_highs : Nat → Int32) (p1 : Int32) (p2 : Int32) (p3 : Int64) (p4 : Int64) (n : Nat) (o_r : Int64) (hF : FX1_middleOf n t_times t_lows t_highs p1 p2 p3 p4 = some (o_r)) : Met l yX1_middleOf wsX1_middleOf ({ frames := 1, cells := 0, slots := 0, locals := 17 } : Room) (va_Pc [.ref q_t, .int p1, .int p2, .long p3, .long p4] (pre_ D ct sz (W_13 ct q_t q_t_times q_t_lows q_t_highs q_t_firsts q_t_lengths q_t_uppers q_t_lowers q_t_middles t_points t_size t_leastUpper t_leastLower t_mostUpper t_mostLower t_times t_lows t_highs))) (va_Ql (fun r (_ : Unit) => r = o_r) (fun _ t => va_P D vwCl (W_13 ct q_t q_t_times q_t_lows q_t_highs q_t_firsts q_t_lengths q_t_uppers q_t_lowers q_t_middles t_points t_size t_leastUpper t_leastLower t_mostUpper t_mostLower t_times t_lows t_highs) t.heap) (va_A (W_13 ct q_t q_t_times q_t_lows q_t_highs q_t_firsts q_t_lengths q_t_uppers q_t_lowers q_t_middles t_points t_size t_leastUpper t_leastLower t_mostUpper t_mostLower t_times t_lows t_highs) sz)) 0 0 (va_A (W_13 ct q_t q_t_times q_t_lows q_t_highs q_t_firsts q_t_lengths q_t_uppers q_t_lowers q_t_middles t_points t_size t_leastUpper t_leastLower t_mostUpper t_mostLower t_times t_lows t_highs) sz) := by
  refine Met.ofW (cc := cX1_middleOf) (maxL := 12) (ret := (some .long)) (by decide) rfl ?_
  intro p e s m args below meth c s₁ B hml hv
  obtain ⟨rfl, hsz, hP, hE, hD0⟩ := hv
  have hx := B.exec
  have hb := B.bytes
  have hr := B.returns
  have hts := atoms_spec (ws := wsX1_middleOf) B.pre
  have hown : s.vm.findClass RX1 = some m.cls := findClass_of_methodNamed B.named
  have hlocks := B.notSynchronized
  subst hsz
  have hD := hD0.self (sz := s.heap.size)
  generalize hAe : va_A (W_13 ct q_t q_t_times q_t_lows q_t_highs q_t_firsts q_t_lengths q_t_uppers q_t_lowers q_t_middles t_points t_size t_leastUpper t_leastLower t_mostUpper t_mostLower t_times t_lows t_highs) s.heap.size = A at hD ⊢
  have hA : ∀ q : Nat, s.heap.size ≤ q → A q := fun q h => by rw [← hAe]; exact Or.inr h
  have hl := lv_entry ([.ref q_t, .int p1, .int p2, .long p3, .long p4]) (n := 12) (Nat.le_of_ble_eq_true rfl)
  rw [lg_entry_eq]
  generalize (lg_sl ([.ref q_t, .int p1, .int p2, .long p3, .long p4]) ++ List.replicate (12 - (lg_sl ([.ref q_t, .int p1, .int p2, .long p3, .long p4])).length) Slot.unset).toArray = ls at hl ⊢
  have hl : lv_has ls 12 [(0, .ref q_t), (1, .int p1), (2, .int p2), (3, .long p3), (5, .long p4)] := hl
  have C0 : Cx RX1 cX1_middleOf 12 (some .long) wsX1_middleOf D ct A p s m ([.ref q_t, .int p1, .int p2, .long p3, .long p4]).toArray meth c := ⟨hx, hb, hml, hown, hts, hr, hlocks, hE, hA⟩
  have hS : ∀ H : Heap, s.heap = H → va_S A s.heap H [] := fun H h => h ▸ va_S.rf
  generalize hH : s.heap = H at hP ⊢
  have hS := hS H hH
  unfold FX1_middleOf at hF
  refine lv_aload_n hx hb dX1_middleOf_0 rfl (lv_at hl 0 rfl) ?_
  refine va_get (D := D) (ci := 1) (v := .ref q_t_lows) (C := RX1) (T := TX1) (N := 14) hx hb hts i_X1_middleOf_X1 hown hE.1 hP 0 rfl rfl 1 (by decide) (hts (.fieldLink RX1 15 "NeedleHouse$Pieces" "lows" "[I") (by decide +kernel)) (fun _ h9 => h9) rfl dX1_middleOf_1 ?_
  refine lv_iload_n hx hb dX1_middleOf_4 rfl (lv_at hl 1 rfl) ?_
  obtain ⟨h1, hF⟩ := gd_ex hF
  refine va_iald hx hb hE.1 hP 2 0 rfl rfl h1 dX1_middleOf_5 ?_
  refine lv_i2l hx hb dX1_middleOf_6 rfl ?_
  refine lv_lload hx hb dX1_middleOf_7 (lv_at hl 4 rfl) ?_
  refine lv_lmul hx hb dX1_middleOf_9 ?_
  refine lv_lload_n hx hb dX1_middleOf_10 rfl (lv_at hl 3 rfl) ?_
  refine lv_aload_n hx hb dX1_middleOf_11 rfl (lv_at hl 0 rfl) ?_
  refine va_get (D := D) (ci := 1) (v := .ref q_t_times) (C := RX1) (T := TX1) (N := 14) hx hb hts i_X1_middleOf_X1 hown hE.1 hP 0 rfl rfl 0 (by decide) (hts (.fieldLink RX1 9 "NeedleHouse$Pieces" "times" "[I") (by decide +kernel)) (fun _ h9 => h9) rfl dX1_middleOf_12 ?_
  refine lv_iload_n hx hb dX1_middleOf_15 rfl (lv_at hl 1 rfl) ?_
  obtain ⟨h2, hF⟩ := gd_ex hF
  refine va_iald hx hb hE.1 hP 1 0 rfl rfl h2 dX1_middleOf_16 ?_
  refine lv_i2l hx hb dX1_middleOf_17 rfl ?_
  refine lv_lmul hx hb dX1_middleOf_18 ?_
  refine lv_lsub hx hb dX1_middleOf_19 ?_
  refine lv_topl (fun x3 ex3 => ?_)
  have hF := bn_as ex3 hF
  refine lv_lstore (lv' := [(7, .long x3), (0, .ref q_t), (1, .int p1), (2, .int p2), (3, .long p3), (5, .long p4)]) hx hb dX1_middleOf_20 hl (by decide) rfl (fun ls hl => ?_)
  refine lv_aload_n hx hb dX1_middleOf_22 rfl (lv_at hl 1 rfl) ?_
  refine va_get (D := D) (ci := 1) (v := .ref q_t_highs) (C := RX1) (T := TX1) (N := 14) hx hb hts i_X1_middleOf_X1 hown hE.1 hP 0 rfl rfl 2 (by decide) (hts (.fieldLink RX1 18 "NeedleHouse$Pieces" "highs" "[I") (by decide +kernel)) (fun _ h9 => h9) rfl dX1_middleOf_23 ?_
  refine lv_iload_n hx hb dX1_middleOf_26 rfl (lv_at hl 2 rfl) ?_
  obtain ⟨h4, hF⟩ := gd_ex hF
  refine va_iald hx hb hE.1 hP 3 0 rfl rfl h4 dX1_middleOf_27 ?_
  refine lv_i2l hx hb dX1_middleOf_28 rfl ?_
  refine lv_lload hx hb dX1_middleOf_29 (lv_at hl 5 rfl) ?_
  refine lv_lmul hx hb dX1_middleOf_31 ?_
  refine lv_lload_n hx hb dX1_middleOf_32 rfl (lv_at hl 4 rfl) ?_
  refine lv_aload_n hx hb dX1_middleOf_33 rfl (lv_at hl 1 rfl) ?_
  refine va_get (D := D) (ci := 1) (v := .ref q_t_times) (C := RX1) (T := TX1) (N := 14) hx hb hts i_X1_middleOf_X1 hown hE.1 hP 0 rfl rfl 0 (by decide) (hts (.fieldLink RX1 9 "NeedleHouse$Pieces" "times" "[I") (by decide +kernel)) (fun _ h9 => h9) rfl dX1_middleOf_34 ?_
  refine lv_iload_n hx hb dX1_middleOf_37 rfl (lv_at hl 2 rfl) ?_
  obtain ⟨h5, hF⟩ := gd_ex hF
  refine va_iald hx hb hE.1 hP 1 0 rfl rfl h5 dX1_middleOf_38 ?_
  refine lv_i2l hx hb dX1_middleOf_39 rfl ?_
  refine lv_lmul hx hb dX1_middleOf_40 ?_
  refine lv_lsub hx hb dX1_middleOf_41 ?_
  refine lv_topl (fun x6 ex6 => ?_)
  have hF := bn_as ex6 hF
  refine lv_lstore (lv' := [(9, .long x6), (7, .long x3), (0, .ref q_t), (1, .int p1), (2, .int p2), (3, .long p3), (5, .long p4)]) hx hb dX1_middleOf_42 hl (by decide) rfl (fun ls hl => ?_)
  refine lv_iload_n hx hb dX1_middleOf_44 rfl (lv_at hl 3 rfl) ?_
  refine lv_iconst (v := 1) hx hb dX1_middleOf_45 (by decide) ?_
  refine lv_iadd hx hb dX1_middleOf_46 ?_
  refine lv_topi (fun x7 ex7 => ?_)
  have hF := bn_as ex7 hF
  refine lv_istore (lv' := [(11, .int x7), (9, .long x6), (7, .long x3), (0, .ref q_t), (1, .int p1), (2, .int p2), (3, .long p3), (5, .long p4)]) hx hb dX1_middleOf_47 hl (by decide) rfl (fun ls hl => ?_)
  exact lX1_middleOf_49 C0 n p2 p3 p4 x3 x6 x7 _ _ _ hF hP hD hS (lv_sub hl [3, 5, 6, 7, 2, 1, 0] rfl)
def W_14 (ct : Nat → ClassId) (a0 a1 a2 a3 a4 a5 a6 a7 a8 : Nat) (v0 : Int32) (v1 : Int32) (v2 : Int64) (v3 : Int64) (v4 : Int64) (v5 : Int64) (v6 : Nat → Int32) (v7 : Nat → Int32) (v8 : Nat → Int32) (v9 : Nat → Int32) (v10 : Nat → Int32) (v11 : Nat → Int32) (v12 : Nat → Int32) (v13 : Nat → Int64) : va_W := [(a0, .inr (1, [.ref a1, .ref a2, .ref a3, .int v0, .ref a4, .ref a5, .ref a6, .ref a7, .ref a8, .int v1, .long v2, .long v3, .long v4, .long v5])), (a1, .inl (ct 0, 20, .inl v6)), (a2, .inl (ct 0, 20, .inl v7)), (a3, .inl (ct 0, 20, .inl v8)), (a4, .inl (ct 0, 20, .inl v9)), (a5, .inl (ct 0, 20, .inl v10)), (a6, .inl (ct 0, 20, .inl v11)), (a7, .inl (ct 0, 20, .inl v12)), (a8, .inl (ct 1, 20, .inr (.inl v13)))]
/-! NeedleHouse$Pieces.keepPiece(III)V -/
theorem i_X1_keepPiece_X1 : ∀ w ∈ wsX10, w ∈ wsX1_keepPiece := by decide +kernel
set_option maxHeartbeats 4000000 in
set_option maxRecDepth 100000 in
theorem jX1_keepPiece_105 {p : Program} {l : Launch} {e : Env} {s : State} {m : MethodId} {args : Array Value} {below : List Frame} {meth : Method} {c : Code} {D : va_G} {ct : Nat → ClassId} {A : Nat → Prop} {q_t q_t_times q_t_lows q_t_highs q_t_firsts q_t_lengths q_t_uppers q_t_lowers q_t_middles : Nat} {t_points : Int32} {t_times : Nat → Int32} {t_lows : Nat → Int32} {t_highs : Nat → Int32} {o_t_size : Int32} {o_t_leastUpper : Int64} {o_t_leastLower : Int64} {o_t_mostUpper : Int64} {o_t_mostLower : Int64} {o_t_firsts : Nat → Int32} {o_t_lengths : Nat → Int32} {o_t_uppers : Nat → Int32} {o_t_lowers : Nat → Int32} {o_t_middles : Nat → Int64} (C0 : Cx RX1 cX1_keepPiece 10 none wsX1_keepPiece D ct A p s m args meth c) (n : Nat) (t_size : Int32) (t_leastUpper : Int64) (t_leastLower : Int64) (t_mostUpper : Int64) (t_mostLower : Int64) (t_firsts : Nat → Int32) (t_lengths : Nat → Int32) (t_uppers : Nat → Int32) (t_lowers : Nat → Int32) (t_middles : Nat → Int64) (x_1 : Int32) (x_2 : Int32) (x_3 : Int32) (x_4 : Int64) (x_6 : Int64) (H : Heap) (locs : List Loc) (ls : Array Slot) : JX1_keepPiece_105 n t_size t_leastUpper t_leastLower t_mostUpper t_mostLower t_times t_lows t_highs t_firsts t_lengths t_uppers t_lowers t_middles x_1 x_2 x_3 x_4 x_6 = some (o_t_size, o_t_leastUpper, o_t_leastLower, o_t_mostUpper, o_t_mostLower, o_t_firsts, o_t_lengths, o_t_uppers, o_t_lowers, o_t_middles) → va_P D vwCl (W_14 ct q_t q_t_times q_t_lows q_t_highs q_t_firsts q_t_lengths q_t_uppers q_t_lowers q_t_middles t_points t_size t_leastUpper t_leastLower t_mostUpper t_mostLower t_times t_lows t_highs t_firsts t_lengths t_uppers t_lowers t_middles) H → va_D A (W_14 ct q_t q_t_times q_t_lows q_t_highs q_t_firsts q_t_lengths q_t_uppers q_t_lowers q_t_middles t_points t_size t_leastUpper t_leastLower t_mostUpper t_mostLower t_times t_lows t_highs t_firsts t_lengths t_uppers t_lowers t_middles) → va_S A s.heap H locs → lv_has ls 10 [(0, .ref q_t), (1, .int x_1), (2, .int x_2), (3, .int x_3), (4, .long x_4), (6, .long x_6)] → W p l e ({ frames := 2, cells := 0, slots := 0, locals := 48 } : Room) s m args below meth c H locs 0 0 (MQ below (va_Qv (fun (_ : Unit) => True) (fun _ t => va_P D vwCl (W_14 ct q_t q_t_times q_t_lows q_t_highs q_t_firsts q_t_lengths q_t_uppers q_t_lowers q_t_middles t_points o_t_size o_t_leastUpper o_t_leastLower o_t_mostUpper o_t_mostLower t_times t_lows t_highs o_t_firsts o_t_lengths o_t_uppers o_t_lowers o_t_middles) t.heap) A) args s 0 0 A) (F0 m 105 ls []) := by
  intro hF hP hD hS hl
  obtain ⟨hx, hb, hml, hown, hts, hr, hlocks, hE, hA⟩ := id C0
  unfold JX1_keepPiece_105 at hF
  refine lv_aload_n hx hb dX1_keepPiece_105 rfl (lv_at hl 0 rfl) ?_
  refine va_get (D := D) (ci := 1) (v := .ref q_t_firsts) (C := RX1) (T := TX1) (N := 14) hx hb hts i_X1_keepPiece_X1 hown hE.1 hP 0 rfl rfl 4 (by decide) (hts (.fieldLink RX1 21 "NeedleHouse$Pieces" "firsts" "[I") (by decide +kernel)) (fun _ h9 => h9) rfl dX1_keepPiece_106 ?_
  refine lv_iload_n hx hb dX1_keepPiece_109 rfl (lv_at hl 1 rfl) ?_
  refine lv_aload_n hx hb dX1_keepPiece_110 rfl (lv_at hl 0 rfl) ?_
  refine va_get (D := D) (ci := 1) (v := .ref q_t_times) (C := RX1) (T := TX1) (N := 14) hx hb hts i_X1_keepPiece_X1 hown hE.1 hP 0 rfl rfl 0 (by decide) (hts (.fieldLink RX1 9 "NeedleHouse$Pieces" "times" "[I") (by decide +kernel)) (fun _ h9 => h9) rfl dX1_keepPiece_111 ?_
  refine lv_iload_n hx hb dX1_keepPiece_114 rfl (lv_at hl 2 rfl) ?_
  obtain ⟨h18, hF⟩ := gd_ex hF
  refine va_iald hx hb hE.1 hP 1 0 rfl rfl h18 dX1_keepPiece_115 ?_
  obtain ⟨h19, hF⟩ := gd_ex hF
  obtain ⟨f20, ef20, hF⟩ := bn_ex hF
  refine va_iast hx hb hE.1 hP hD hS 4 0 rfl rfl h19 dX1_keepPiece_116 (fun H locs hP hD hS => ?_)
  have hP : va_P D vwCl (W_14 ct q_t q_t_times q_t_lows q_t_highs q_t_firsts q_t_lengths q_t_uppers q_t_lowers q_t_middles t_points t_size t_leastUpper t_leastLower t_mostUpper t_mostLower t_times t_lows t_highs f20 t_lengths t_uppers t_lowers t_middles) H := by rw [ef20]; exact hP
  have hD : va_D A (W_14 ct q_t q_t_times q_t_lows q_t_highs q_t_firsts q_t_lengths q_t_uppers q_t_lowers q_t_middles t_points t_size t_leastUpper t_leastLower t_mostUpper t_mostLower t_times t_lows t_highs f20 t_lengths t_uppers t_lowers t_middles) := by rw [ef20]; exact hD
  refine lv_aload_n hx hb dX1_keepPiece_117 rfl (lv_at hl 0 rfl) ?_
  refine va_get (D := D) (ci := 1) (v := .ref q_t_lengths) (C := RX1) (T := TX1) (N := 14) hx hb hts i_X1_keepPiece_X1 hown hE.1 hP 0 rfl rfl 5 (by decide) (hts (.fieldLink RX1 24 "NeedleHouse$Pieces" "lengths" "[I") (by decide +kernel)) (fun _ h9 => h9) rfl dX1_keepPiece_118 ?_
  refine lv_iload_n hx hb dX1_keepPiece_121 rfl (lv_at hl 1 rfl) ?_
  refine lv_iload_n hx hb dX1_keepPiece_122 rfl (lv_at hl 3 rfl) ?_
  refine lv_iload_n hx hb dX1_keepPiece_123 rfl (lv_at hl 2 rfl) ?_
  refine lv_isub hx hb dX1_keepPiece_124 ?_
  obtain ⟨h21, hF⟩ := gd_ex hF
  obtain ⟨f22, ef22, hF⟩ := bn_ex hF
  refine va_iast hx hb hE.1 hP hD hS 5 0 rfl rfl h21 dX1_keepPiece_125 (fun H locs hP hD hS => ?_)
  have hP : va_P D vwCl (W_14 ct q_t q_t_times q_t_lows q_t_highs q_t_firsts q_t_lengths q_t_uppers q_t_lowers q_t_middles t_points t_size t_leastUpper t_leastLower t_mostUpper t_mostLower t_times t_lows t_highs f20 f22 t_uppers t_lowers t_middles) H := by rw [ef22]; exact hP
  have hD : va_D A (W_14 ct q_t q_t_times q_t_lows q_t_highs q_t_firsts q_t_lengths q_t_uppers q_t_lowers q_t_middles t_points t_size t_leastUpper t_leastLower t_mostUpper t_mostLower t_times t_lows t_highs f20 f22 t_uppers t_lowers t_middles) := by rw [ef22]; exact hD
  refine lv_aload_n hx hb dX1_keepPiece_126 rfl (lv_at hl 0 rfl) ?_
  refine va_get (D := D) (ci := 1) (v := .ref q_t_uppers) (C := RX1) (T := TX1) (N := 14) hx hb hts i_X1_keepPiece_X1 hown hE.1 hP 0 rfl rfl 6 (by decide) (hts (.fieldLink RX1 27 "NeedleHouse$Pieces" "uppers" "[I") (by decide +kernel)) (fun _ h9 => h9) rfl dX1_keepPiece_127 ?_
  refine lv_iload_n hx hb dX1_keepPiece_130 rfl (lv_at hl 1 rfl) ?_
  refine lv_lload hx hb dX1_keepPiece_131 (lv_at hl 4 rfl) ?_
  refine lv_l2i hx hb dX1_keepPiece_133 rfl ?_
  obtain ⟨h23, hF⟩ := gd_ex hF
  obtain ⟨f24, ef24, hF⟩ := bn_ex hF
  refine va_iast hx hb hE.1 hP hD hS 6 0 rfl rfl h23 dX1_keepPiece_134 (fun H locs hP hD hS => ?_)
  have hP : va_P D vwCl (W_14 ct q_t q_t_times q_t_lows q_t_highs q_t_firsts q_t_lengths q_t_uppers q_t_lowers q_t_middles t_points t_size t_leastUpper t_leastLower t_mostUpper t_mostLower t_times t_lows t_highs f20 f22 f24 t_lowers t_middles) H := by rw [ef24]; exact hP
  have hD : va_D A (W_14 ct q_t q_t_times q_t_lows q_t_highs q_t_firsts q_t_lengths q_t_uppers q_t_lowers q_t_middles t_points t_size t_leastUpper t_leastLower t_mostUpper t_mostLower t_times t_lows t_highs f20 f22 f24 t_lowers t_middles) := by rw [ef24]; exact hD
  refine lv_aload_n hx hb dX1_keepPiece_135 rfl (lv_at hl 0 rfl) ?_
  refine va_get (D := D) (ci := 1) (v := .ref q_t_lowers) (C := RX1) (T := TX1) (N := 14) hx hb hts i_X1_keepPiece_X1 hown hE.1 hP 0 rfl rfl 7 (by decide) (hts (.fieldLink RX1 30 "NeedleHouse$Pieces" "lowers" "[I") (by decide +kernel)) (fun _ h9 => h9) rfl dX1_keepPiece_136 ?_
  refine lv_iload_n hx hb dX1_keepPiece_139 rfl (lv_at hl 1 rfl) ?_
  refine lv_lload hx hb dX1_keepPiece_140 (lv_at hl 5 rfl) ?_
  refine lv_l2i hx hb dX1_keepPiece_142 rfl ?_
  obtain ⟨h25, hF⟩ := gd_ex hF
  obtain ⟨f26, ef26, hF⟩ := bn_ex hF
  refine va_iast hx hb hE.1 hP hD hS 7 0 rfl rfl h25 dX1_keepPiece_143 (fun H locs hP hD hS => ?_)
  have hP : va_P D vwCl (W_14 ct q_t q_t_times q_t_lows q_t_highs q_t_firsts q_t_lengths q_t_uppers q_t_lowers q_t_middles t_points t_size t_leastUpper t_leastLower t_mostUpper t_mostLower t_times t_lows t_highs f20 f22 f24 f26 t_middles) H := by rw [ef26]; exact hP
  have hD : va_D A (W_14 ct q_t q_t_times q_t_lows q_t_highs q_t_firsts q_t_lengths q_t_uppers q_t_lowers q_t_middles t_points t_size t_leastUpper t_leastLower t_mostUpper t_mostLower t_times t_lows t_highs f20 f22 f24 f26 t_middles) := by rw [ef26]; exact hD
  refine lv_aload_n hx hb dX1_keepPiece_144 rfl (lv_at hl 0 rfl) ?_
  refine va_get (D := D) (ci := 1) (v := .ref q_t_middles) (C := RX1) (T := TX1) (N := 14) hx hb hts i_X1_keepPiece_X1 hown hE.1 hP 0 rfl rfl 8 (by decide) (hts (.fieldLink RX1 33 "NeedleHouse$Pieces" "middles" "[J") (by decide +kernel)) (fun _ h9 => h9) rfl dX1_keepPiece_145 ?_
  refine lv_iload_n hx hb dX1_keepPiece_148 rfl (lv_at hl 1 rfl) ?_
  refine lv_aload_n hx hb dX1_keepPiece_149 rfl (lv_at hl 0 rfl) ?_
  refine lv_iload_n hx hb dX1_keepPiece_150 rfl (lv_at hl 2 rfl) ?_
  refine lv_iload_n hx hb dX1_keepPiece_151 rfl (lv_at hl 3 rfl) ?_
  refine lv_lload hx hb dX1_keepPiece_152 (lv_at hl 4 rfl) ?_
  refine lv_lload hx hb dX1_keepPiece_154 (lv_at hl 5 rfl) ?_
  obtain ⟨r27, h28, hF⟩ := ob1_ex hF
  refine xlR (va_runV (As := [.int x_2, .int x_3, .long x_4, .long x_6]) (rest := [.int x_1, .ref q_t_middles]) ⟨hx, hb, hml, hown, hts⟩ (met_X1_middleOf l D ct q_t q_t_times q_t_lows q_t_highs q_t_firsts q_t_lengths q_t_uppers q_t_lowers q_t_middles H.size t_points t_size t_leastUpper t_leastLower t_mostUpper t_mostLower t_times t_lows t_highs x_2 x_3 x_4 x_6 n r27 h28) (cwV 4 hts gX1_keepPiece_X1_middleOf rfl rfl rfl (by decide +kernel) ⟨Nat.le_of_ble_eq_true rfl, Nat.le_of_ble_eq_true rfl⟩) ⟨blind_, va_recv hE.1 hP (ci := 1) (q0 := 0) rfl rfl, mkpre_ hE (hP.sub [0, 1, 2, 3] rfl) (hD.sub [0, 1, 2, 3] (by decide) rfl)⟩ rfl rfl hl.1 rfl (lv_room (Nat.le_of_ble_eq_true rfl)) dX1_keepPiece_156 ⟨Nat.le_of_ble_eq_true rfl, Nat.le_of_ble_eq_true rfl⟩) hP hD hS hA [0, 1, 2, 3] rfl (fun H locs hP hD hS => ?_)
  obtain ⟨h29, hF⟩ := gd_ex hF
  obtain ⟨f30, ef30, hF⟩ := bn_ex hF
  refine va_last hx hb hE.1 hP hD hS 8 1 rfl rfl h29 dX1_keepPiece_159 (fun H locs hP hD hS => ?_)
  have hP : va_P D vwCl (W_14 ct q_t q_t_times q_t_lows q_t_highs q_t_firsts q_t_lengths q_t_uppers q_t_lowers q_t_middles t_points t_size t_leastUpper t_leastLower t_mostUpper t_mostLower t_times t_lows t_highs f20 f22 f24 f26 f30) H := by rw [ef30]; exact hP
  have hD : va_D A (W_14 ct q_t q_t_times q_t_lows q_t_highs q_t_firsts q_t_lengths q_t_uppers q_t_lowers q_t_middles t_points t_size t_leastUpper t_leastLower t_mostUpper t_mostLower t_times t_lows t_highs f20 f22 f24 f26 f30) := by rw [ef30]; exact hD
  refine lv_aload_n hx hb dX1_keepPiece_160 rfl (lv_at hl 0 rfl) ?_
  refine lv_iload_n hx hb dX1_keepPiece_161 rfl (lv_at hl 1 rfl) ?_
  refine lv_iconst (v := 1) hx hb dX1_keepPiece_162 (by decide) ?_
  refine lv_iadd hx hb dX1_keepPiece_163 ?_
  refine lv_topi (fun x31 ex31 => ?_)
  have hF := bn_as ex31 hF
  refine va_put (D := D) (ci := 1) (v := .int x31) (ty := .int) (C := RX1) (T := TX1) (N := 14) hx hb hts i_X1_keepPiece_X1 tyX1 tyX1_ok nmX1 hown hE.1 hP hD hS 0 rfl rfl 9 (by decide) (hts (.fieldLink RX1 41 "NeedleHouse$Pieces" "size" "I") (by decide +kernel)) (fun _ h9 => h9) rfl (by decide +kernel) rfl rfl (Nat.le_of_ble_eq_true rfl) dX1_keepPiece_164 (fun H locs hP hD hS => ?_)
  have hP : va_P D vwCl (W_14 ct q_t q_t_times q_t_lows q_t_highs q_t_firsts q_t_lengths q_t_uppers q_t_lowers q_t_middles t_points x31 t_leastUpper t_leastLower t_mostUpper t_mostLower t_times t_lows t_highs f20 f22 f24 f26 f30) H := hP
  have hD : va_D A (W_14 ct q_t q_t_times q_t_lows q_t_highs q_t_firsts q_t_lengths q_t_uppers q_t_lowers q_t_middles t_points x31 t_leastUpper t_leastLower t_mostUpper t_mostLower t_times t_lows t_highs f20 f22 f24 f26 f30) := hD
  obtain ⟨rfl, rfl, rfl, rfl, rfl, rfl, rfl, rfl, rfl, rfl⟩ := in10 hF
  exact W.vret hx hb hr (fun t ht hW => ⟨⟨(), rfl, trivial, vaP_at ht hP⟩, hS.F ht⟩) hS.2.2 dX1_keepPiece_167
set_option maxHeartbeats 4000000 in
set_option maxRecDepth 100000 in
theorem jX1_keepPiece_72 {p : Program} {l : Launch} {e : Env} {s : State} {m : MethodId} {args : Array Value} {below : List Frame} {meth : Method} {c : Code} {D : va_G} {ct : Nat → ClassId} {A : Nat → Prop} {q_t q_t_times q_t_lows q_t_highs q_t_firsts q_t_lengths q_t_uppers q_t_lowers q_t_middles : Nat} {t_points : Int32} {t_times : Nat → Int32} {t_lows : Nat → Int32} {t_highs : Nat → Int32} {o_t_size : Int32} {o_t_leastUpper : Int64} {o_t_leastLower : Int64} {o_t_mostUpper : Int64} {o_t_mostLower : Int64} {o_t_firsts : Nat → Int32} {o_t_lengths : Nat → Int32} {o_t_uppers : Nat → Int32} {o_t_lowers : Nat → Int32} {o_t_middles : Nat → Int64} (C0 : Cx RX1 cX1_keepPiece 10 none wsX1_keepPiece D ct A p s m args meth c) (n : Nat) (t_size : Int32) (t_leastUpper : Int64) (t_leastLower : Int64) (t_mostUpper : Int64) (t_mostLower : Int64) (t_firsts : Nat → Int32) (t_lengths : Nat → Int32) (t_uppers : Nat → Int32) (t_lowers : Nat → Int32) (t_middles : Nat → Int64) (x_1 : Int32) (x_2 : Int32) (x_3 : Int32) (x_4 : Int64) (x_6 : Int64) (H : Heap) (locs : List Loc) (ls : Array Slot) : JX1_keepPiece_72 n t_size t_leastUpper t_leastLower t_mostUpper t_mostLower t_times t_lows t_highs t_firsts t_lengths t_uppers t_lowers t_middles x_1 x_2 x_3 x_4 x_6 = some (o_t_size, o_t_leastUpper, o_t_leastLower, o_t_mostUpper, o_t_mostLower, o_t_firsts, o_t_lengths, o_t_uppers, o_t_lowers, o_t_middles) → va_P D vwCl (W_14 ct q_t q_t_times q_t_lows q_t_highs q_t_firsts q_t_lengths q_t_uppers q_t_lowers q_t_middles t_points t_size t_leastUpper t_leastLower t_mostUpper t_mostLower t_times t_lows t_highs t_firsts t_lengths t_uppers t_lowers t_middles) H → va_D A (W_14 ct q_t q_t_times q_t_lows q_t_highs q_t_firsts q_t_lengths q_t_uppers q_t_lowers q_t_middles t_points t_size t_leastUpper t_leastLower t_mostUpper t_mostLower t_times t_lows t_highs t_firsts t_lengths t_uppers t_lowers t_middles) → va_S A s.heap H locs → lv_has ls 10 [(0, .ref q_t), (1, .int x_1), (2, .int x_2), (3, .int x_3), (4, .long x_4), (6, .long x_6)] → W p l e ({ frames := 2, cells := 0, slots := 0, locals := 48 } : Room) s m args below meth c H locs 0 0 (MQ below (va_Qv (fun (_ : Unit) => True) (fun _ t => va_P D vwCl (W_14 ct q_t q_t_times q_t_lows q_t_highs q_t_firsts q_t_lengths q_t_uppers q_t_lowers q_t_middles t_points o_t_size o_t_leastUpper o_t_leastLower o_t_mostUpper o_t_mostLower t_times t_lows t_highs o_t_firsts o_t_lengths o_t_uppers o_t_lowers o_t_middles) t.heap) A) args s 0 0 A) (F0 m 72 ls []) := by
  intro hF hP hD hS hl
  obtain ⟨hx, hb, hml, hown, hts, hr, hlocks, hE, hA⟩ := id C0
  unfold JX1_keepPiece_72 at hF
  refine lv_lload hx hb dX1_keepPiece_72 (lv_at hl 4 rfl) ?_
  refine va_mabs_long hx hb (hml.trans hl.1.symm) hown (hts (.methodLink RX1 65 Lib.MathLoose.abs_long.x) (by decide +kernel)) (hts (.static Lib.MathLoose.abs_long.x) (by decide +kernel)) (hts (.initialized "java/lang/Math") (by decide +kernel)) (hts (.code Lib.MathLoose.abs_long.x Lib.MathLoose.abs_long.code 2 (some .long)) (by decide +kernel)) (Nat.le_of_ble_eq_true rfl) (Nat.le_of_ble_eq_true rfl) (Nat.zero_le _) (Nat.zero_le _) dX1_keepPiece_74 ?_
  refine lv_lload hx hb dX1_keepPiece_77 (lv_at hl 5 rfl) ?_
  obtain ⟨r11, h12, hF⟩ := ob1_ex hF
  refine xlR (va_runS (As := [.long (if 0 < x_4 then x_4 else -x_4), .long x_6]) (rest := []) ⟨hx, hb, hml, hown, hts⟩ (met_X1_commonDivisor l D ct H.size (if 0 < x_4 then x_4 else -x_4) x_6 n r11 h12) (va_cwS 2 hts gX1_keepPiece_X1_commonDivisor rfl rfl rfl (by decide +kernel) ⟨Nat.le_of_ble_eq_true rfl, Nat.le_of_ble_eq_true rfl⟩) ⟨blind_, mkpre_ hE (hP.sub [] rfl) (hD.sub [] (by decide) rfl)⟩ rfl rfl hl.1 rfl (lv_room (Nat.le_of_ble_eq_true rfl)) dX1_keepPiece_79 ⟨Nat.le_of_ble_eq_true rfl, Nat.le_of_ble_eq_true rfl⟩) hP hD hS hA [] rfl (fun H locs hP hD hS => ?_)
  refine lv_lstore (lv' := [(8, .long r11), (0, .ref q_t), (1, .int x_1), (2, .int x_2), (3, .int x_3), (4, .long x_4), (6, .long x_6)]) hx hb dX1_keepPiece_82 hl (by decide) rfl (fun ls hl => ?_)
  refine lv_lload hx hb dX1_keepPiece_84 (lv_at hl 0 rfl) ?_
  refine lv_lconst (v := 1) hx hb dX1_keepPiece_86 (by decide) ?_
  refine W.lcmp hx hb dX1_keepPiece_87 ?_
  refine lv_if_le (tgt := 105) hx hb dX1_keepPiece_88 (by decide) (fun c13 => ?_) (fun c13 => ?_)
  · have hF := ifT c13 hF
    exact jX1_keepPiece_105 C0 n t_size t_leastUpper t_leastLower t_mostUpper t_mostLower t_firsts t_lengths t_uppers t_lowers t_middles x_1 x_2 x_3 x_4 x_6 _ _ _ hF hP hD hS (lv_sub hl [1, 2, 3, 4, 5, 6] rfl)
  · have hF := ifF c13 hF
    refine lv_lload hx hb dX1_keepPiece_91 (lv_at hl 5 rfl) ?_
    refine lv_lload hx hb dX1_keepPiece_93 (lv_at hl 0 rfl) ?_
    obtain ⟨h14, hF⟩ := gd_ex hF
    refine lv_ldiv hx hb dX1_keepPiece_95 h14 ?_
    refine lv_topl (fun x15 ex15 => ?_)
    have hF := bn_as ex15 hF
    refine lv_lstore (lv' := [(4, .long x15), (8, .long r11), (0, .ref q_t), (1, .int x_1), (2, .int x_2), (3, .int x_3), (6, .long x_6)]) hx hb dX1_keepPiece_96 hl (by decide) rfl (fun ls hl => ?_)
    refine lv_lload hx hb dX1_keepPiece_98 (lv_at hl 6 rfl) ?_
    refine lv_lload hx hb dX1_keepPiece_100 (lv_at hl 1 rfl) ?_
    obtain ⟨h16, hF⟩ := gd_ex hF
    refine lv_ldiv hx hb dX1_keepPiece_102 h16 ?_
    refine lv_topl (fun x17 ex17 => ?_)
    have hF := bn_as ex17 hF
    refine lv_lstore (lv' := [(6, .long x17), (4, .long x15), (8, .long r11), (0, .ref q_t), (1, .int x_1), (2, .int x_2), (3, .int x_3)]) hx hb dX1_keepPiece_103 hl (by decide) rfl (fun ls hl => ?_)
    exact jX1_keepPiece_105 C0 n t_size t_leastUpper t_leastLower t_mostUpper t_mostLower t_firsts t_lengths t_uppers t_lowers t_middles x_1 x_2 x_3 x15 x17 _ _ _ hF hP hD hS (lv_sub hl [3, 4, 5, 6, 1, 0] rfl)
set_option maxHeartbeats 4000000 in
set_option maxRecDepth 100000 in
theorem jX1_keepPiece_44 {p : Program} {l : Launch} {e : Env} {s : State} {m : MethodId} {args : Array Value} {below : List Frame} {meth : Method} {c : Code} {D : va_G} {ct : Nat → ClassId} {A : Nat → Prop} {q_t q_t_times q_t_lows q_t_highs q_t_firsts q_t_lengths q_t_uppers q_t_lowers q_t_middles : Nat} {t_points : Int32} {t_times : Nat → Int32} {t_lows : Nat → Int32} {t_highs : Nat → Int32} {o_t_size : Int32} {o_t_leastUpper : Int64} {o_t_leastLower : Int64} {o_t_mostUpper : Int64} {o_t_mostLower : Int64} {o_t_firsts : Nat → Int32} {o_t_lengths : Nat → Int32} {o_t_uppers : Nat → Int32} {o_t_lowers : Nat → Int32} {o_t_middles : Nat → Int64} (C0 : Cx RX1 cX1_keepPiece 10 none wsX1_keepPiece D ct A p s m args meth c) (n : Nat) (t_size : Int32) (t_leastUpper : Int64) (t_leastLower : Int64) (t_mostUpper : Int64) (t_mostLower : Int64) (t_firsts : Nat → Int32) (t_lengths : Nat → Int32) (t_uppers : Nat → Int32) (t_lowers : Nat → Int32) (t_middles : Nat → Int64) (x_1 : Int32) (x_2 : Int32) (x_3 : Int32) (x_4 : Int64) (x_6 : Int64) (H : Heap) (locs : List Loc) (ls : Array Slot) : JX1_keepPiece_44 n t_size t_leastUpper t_leastLower t_mostUpper t_mostLower t_times t_lows t_highs t_firsts t_lengths t_uppers t_lowers t_middles x_1 x_2 x_3 x_4 x_6 = some (o_t_size, o_t_leastUpper, o_t_leastLower, o_t_mostUpper, o_t_mostLower, o_t_firsts, o_t_lengths, o_t_uppers, o_t_lowers, o_t_middles) → va_P D vwCl (W_14 ct q_t q_t_times q_t_lows q_t_highs q_t_firsts q_t_lengths q_t_uppers q_t_lowers q_t_middles t_points t_size t_leastUpper t_leastLower t_mostUpper t_mostLower t_times t_lows t_highs t_firsts t_lengths t_uppers t_lowers t_middles) H → va_D A (W_14 ct q_t q_t_times q_t_lows q_t_highs q_t_firsts q_t_lengths q_t_uppers q_t_lowers q_t_middles t_points t_size t_leastUpper t_leastLower t_mostUpper t_mostLower t_times t_lows t_highs t_firsts t_lengths t_uppers t_lowers t_middles) → va_S A s.heap H locs → lv_has ls 10 [(0, .ref q_t), (1, .int x_1), (2, .int x_2), (3, .int x_3), (4, .long x_4), (6, .long x_6)] → W p l e ({ frames := 2, cells := 0, slots := 0, locals := 48 } : Room) s m args below meth c H locs 0 0 (MQ below (va_Qv (fun (_ : Unit) => True) (fun _ t => va_P D vwCl (W_14 ct q_t q_t_times q_t_lows q_t_highs q_t_firsts q_t_lengths q_t_uppers q_t_lowers q_t_middles t_points o_t_size o_t_leastUpper o_t_leastLower o_t_mostUpper o_t_mostLower t_times t_lows t_highs o_t_firsts o_t_lengths o_t_uppers o_t_lowers o_t_middles) t.heap) A) args s 0 0 A) (F0 m 44 ls []) := by
  intro hF hP hD hS hl
  obtain ⟨hx, hb, hml, hown, hts, hr, hlocks, hE, hA⟩ := id C0
  unfold JX1_keepPiece_44 at hF
  refine lv_iload_n hx hb dX1_keepPiece_44 rfl (lv_at hl 3 rfl) ?_
  refine lv_iload_n hx hb dX1_keepPiece_45 rfl (lv_at hl 2 rfl) ?_
  refine lv_isub hx hb dX1_keepPiece_46 ?_
  refine lv_iconst (v := 1) hx hb dX1_keepPiece_47 (by decide) ?_
  refine lv_icmp_le (tgt := 72) hx hb dX1_keepPiece_48 (by decide) (fun c9 => ?_) (fun c9 => ?_)
  · have hF := ifT c9 hF
    exact jX1_keepPiece_72 C0 n t_size t_leastUpper t_leastLower t_mostUpper t_mostLower t_firsts t_lengths t_uppers t_lowers t_middles x_1 x_2 x_3 x_4 x_6 _ _ _ hF hP hD hS (lv_sub hl [0, 1, 2, 3, 4, 5] rfl)
  · have hF := ifF c9 hF
    refine lv_aload_n hx hb dX1_keepPiece_51 rfl (lv_at hl 0 rfl) ?_
    refine va_get (D := D) (ci := 1) (v := .long t_mostUpper) (C := RX1) (T := TX1) (N := 14) hx hb hts i_X1_keepPiece_X1 hown hE.1 hP 0 rfl rfl 12 (by decide) (hts (.fieldLink RX1 62 "NeedleHouse$Pieces" "mostUpper" "J") (by decide +kernel)) (fun _ h9 => h9) rfl dX1_keepPiece_52 ?_
    refine lv_lconst (v := 0) hx hb dX1_keepPiece_55 (by decide) ?_
    refine W.lcmp hx hb dX1_keepPiece_56 ?_
    refine lv_if_ge (tgt := 72) hx hb dX1_keepPiece_57 (by decide) (fun c10 => ?_) (fun c10 => ?_)
    · have hF := ifT c10 hF
      exact jX1_keepPiece_72 C0 n t_size t_leastUpper t_leastLower t_mostUpper t_mostLower t_firsts t_lengths t_uppers t_lowers t_middles x_1 x_2 x_3 x_4 x_6 _ _ _ hF hP hD hS (lv_sub hl [0, 1, 2, 3, 4, 5] rfl)
    · have hF := ifF c10 hF
      refine lv_aload_n hx hb dX1_keepPiece_60 rfl (lv_at hl 0 rfl) ?_
      refine va_get (D := D) (ci := 1) (v := .long t_mostUpper) (C := RX1) (T := TX1) (N := 14) hx hb hts i_X1_keepPiece_X1 hown hE.1 hP 0 rfl rfl 12 (by decide) (hts (.fieldLink RX1 62 "NeedleHouse$Pieces" "mostUpper" "J") (by decide +kernel)) (fun _ h9 => h9) rfl dX1_keepPiece_61 ?_
      refine lv_lstore (lv' := [(4, .long t_mostUpper), (0, .ref q_t), (1, .int x_1), (2, .int x_2), (3, .int x_3), (6, .long x_6)]) hx hb dX1_keepPiece_64 hl (by decide) rfl (fun ls hl => ?_)
      refine lv_aload_n hx hb dX1_keepPiece_66 rfl (lv_at hl 1 rfl) ?_
      refine va_get (D := D) (ci := 1) (v := .long t_mostLower) (C := RX1) (T := TX1) (N := 14) hx hb hts i_X1_keepPiece_X1 hown hE.1 hP 0 rfl rfl 13 (by decide) (hts (.fieldLink RX1 59 "NeedleHouse$Pieces" "mostLower" "J") (by decide +kernel)) (fun _ h9 => h9) rfl dX1_keepPiece_67 ?_
      refine lv_lstore (lv' := [(6, .long t_mostLower), (4, .long t_mostUpper), (0, .ref q_t), (1, .int x_1), (2, .int x_2), (3, .int x_3)]) hx hb dX1_keepPiece_70 hl (by decide) rfl (fun ls hl => ?_)
      exact jX1_keepPiece_72 C0 n t_size t_leastUpper t_leastLower t_mostUpper t_mostLower t_firsts t_lengths t_uppers t_lowers t_middles x_1 x_2 x_3 t_mostUpper t_mostLower _ _ _ hF hP hD hS (lv_sub hl [2, 3, 4, 5, 1, 0] rfl)
set_option maxHeartbeats 4000000 in
set_option maxRecDepth 100000 in
theorem met_X1_keepPiece (l : Launch) (D : va_G) (ct : Nat → ClassId) (q_t : Nat) (q_t_times : Nat) (q_t_lows : Nat) (q_t_highs : Nat) (q_t_firsts : Nat) (q_t_lengths : Nat) (q_t_uppers : Nat) (q_t_lowers : Nat) (q_t_middles : Nat) (sz : Nat) (t_points : Int32) (t_size : Int32) (t_leastUpper : Int64) (t_leastLower : Int64) (t_mostUpper : Int64) (t_mostLower : Int64) (t_times : Nat → Int32) (t_lows : Nat → Int32) (t_highs : Nat → Int32) (t_firsts : Nat → Int32) (t_lengths : Nat → Int32) (t_uppers : Nat → Int32) (t_lowers : Nat → Int32) (t_middles : Nat → Int64) (p1 : Int32) (p2 : Int32) (p3 : Int32) (n : Nat) (o_t_size : Int32) (o_t_leastUpper : Int64) (o_t_leastLower : Int64) (o_t_mostUpper : Int64) (o_t_mostLower : Int64) (o_t_firsts : Nat → Int32) (o_t_lengths : Nat → Int32) (o_t_uppers : Nat → Int32) (o_t_lowers : Nat → Int32) (o_t_middles : Nat → Int64) (hF : FX1_keepPiece n t_size t_leastUpper t_leastLower t_mostUpper t_mostLower t_times t_lows t_highs t_firsts t_lengths t_uppers t_lowers t_middles p1 p2 p3 = some (o_t_size, o_t_leastUpper, o_t_leastLower, o_t_mostUpper, o_t_mostLower, o_t_firsts, o_t_lengths, o_t_uppers, o_t_lowers, o_t_middles)) : Met l yX1_keepPiece wsX1_keepPiece ({ frames := 2, cells := 0, slots := 0, locals := 48 } : Room) (va_Pc [.ref q_t, .int p1, .int p2, .int p3] (pre_ D ct sz (W_14 ct q_t q_t_times q_t_lows q_t_highs q_t_firsts q_t_lengths q_t_uppers q_t_lowers q_t_middles t_points t_size t_leastUpper t_leastLower t_mostUpper t_mostLower t_times t_lows t_highs t_firsts t_lengths t_uppers t_lowers t_middles))) (va_Qv (fun (_ : Unit) => True) (fun _ t => va_P D vwCl (W_14 ct q_t q_t_times q_t_lows q_t_highs q_t_firsts q_t_lengths q_t_uppers q_t_lowers q_t_middles t_points o_t_size o_t_leastUpper o_t_leastLower o_t_mostUpper o_t_mostLower t_times t_lows t_highs o_t_firsts o_t_lengths o_t_uppers o_t_lowers o_t_middles) t.heap) (va_A (W_14 ct q_t q_t_times q_t_lows q_t_highs q_t_firsts q_t_lengths q_t_uppers q_t_lowers q_t_middles t_points t_size t_leastUpper t_leastLower t_mostUpper t_mostLower t_times t_lows t_highs t_firsts t_lengths t_uppers t_lowers t_middles) sz)) 0 0 (va_A (W_14 ct q_t q_t_times q_t_lows q_t_highs q_t_firsts q_t_lengths q_t_uppers q_t_lowers q_t_middles t_points t_size t_leastUpper t_leastLower t_mostUpper t_mostLower t_times t_lows t_highs t_firsts t_lengths t_uppers t_lowers t_middles) sz) := by
  refine Met.ofW (cc := cX1_keepPiece) (maxL := 10) (ret := none) (by decide) rfl ?_
  intro p e s m args below meth c s₁ B hml hv
  obtain ⟨rfl, hsz, hP, hE, hD0⟩ := hv
  have hx := B.exec
  have hb := B.bytes
  have hr := B.returns
  have hts := atoms_spec (ws := wsX1_keepPiece) B.pre
  have hown : s.vm.findClass RX1 = some m.cls := findClass_of_methodNamed B.named
  have hlocks := B.notSynchronized
  subst hsz
  have hD := hD0.self (sz := s.heap.size)
  generalize hAe : va_A (W_14 ct q_t q_t_times q_t_lows q_t_highs q_t_firsts q_t_lengths q_t_uppers q_t_lowers q_t_middles t_points t_size t_leastUpper t_leastLower t_mostUpper t_mostLower t_times t_lows t_highs t_firsts t_lengths t_uppers t_lowers t_middles) s.heap.size = A at hD ⊢
  have hA : ∀ q : Nat, s.heap.size ≤ q → A q := fun q h => by rw [← hAe]; exact Or.inr h
  have hl := lv_entry ([.ref q_t, .int p1, .int p2, .int p3]) (n := 10) (Nat.le_of_ble_eq_true rfl)
  rw [lg_entry_eq]
  generalize (lg_sl ([.ref q_t, .int p1, .int p2, .int p3]) ++ List.replicate (10 - (lg_sl ([.ref q_t, .int p1, .int p2, .int p3])).length) Slot.unset).toArray = ls at hl ⊢
  have hl : lv_has ls 10 [(0, .ref q_t), (1, .int p1), (2, .int p2), (3, .int p3)] := hl
  have C0 : Cx RX1 cX1_keepPiece 10 none wsX1_keepPiece D ct A p s m ([.ref q_t, .int p1, .int p2, .int p3]).toArray meth c := ⟨hx, hb, hml, hown, hts, hr, hlocks, hE, hA⟩
  have hS : ∀ H : Heap, s.heap = H → va_S A s.heap H [] := fun H h => h ▸ va_S.rf
  generalize hH : s.heap = H at hP ⊢
  have hS := hS H hH
  unfold FX1_keepPiece at hF
  refine lv_aload_n hx hb dX1_keepPiece_0 rfl (lv_at hl 0 rfl) ?_
  refine lv_iload_n hx hb dX1_keepPiece_1 rfl (lv_at hl 2 rfl) ?_
  refine lv_iload_n hx hb dX1_keepPiece_2 rfl (lv_at hl 3 rfl) ?_
  obtain ⟨r1, v2, v3, v4, v5, h6, hF⟩ := ob5_ex hF
  refine xiM (ws1 := (W_14 ct q_t q_t_times q_t_lows q_t_highs q_t_firsts q_t_lengths q_t_uppers q_t_lowers q_t_middles t_points t_size v2 v3 v4 v5 t_times t_lows t_highs t_firsts t_lengths t_uppers t_lowers t_middles)) (va_runV (As := [.int p2, .int p3]) (rest := []) ⟨hx, hb, hml, hown, hts⟩ (met_X1_fits l D ct q_t q_t_times q_t_lows q_t_highs q_t_firsts q_t_lengths q_t_uppers q_t_lowers q_t_middles H.size t_points t_size t_leastUpper t_leastLower t_mostUpper t_mostLower t_times t_lows t_highs p2 p3 n r1 v2 v3 v4 v5 h6) (cwV 2 hts gX1_keepPiece_X1_fits rfl rfl rfl (by decide +kernel) ⟨Nat.le_of_ble_eq_true rfl, Nat.le_of_ble_eq_true rfl⟩) ⟨blind_, va_recv hE.1 hP (ci := 1) (q0 := 0) rfl rfl, mkpre_ hE (hP.sub [0, 1, 2, 3] rfl) (hD.sub [0, 1, 2, 3] (by decide) rfl)⟩ rfl rfl hl.1 rfl (lv_room (Nat.le_of_ble_eq_true rfl)) dX1_keepPiece_3 ⟨Nat.le_of_ble_eq_true rfl, Nat.le_of_ble_eq_true rfl⟩) hP hD hS hA [0, 1, 2, 3] [4, 5, 6, 7, 8] 9 rfl rfl rfl rfl (by decide) rfl (fun H locs hP hD hS => ?_)
  refine lv_pop hx hb dX1_keepPiece_6 rfl ?_
  refine lv_lconst (v := 0) hx hb dX1_keepPiece_7 (by decide) ?_
  refine lv_lstore (lv' := [(4, .long 0), (0, .ref q_t), (1, .int p1), (2, .int p2), (3, .int p3)]) hx hb dX1_keepPiece_8 hl (by decide) rfl (fun ls hl => ?_)
  refine lv_lconst (v := 1) hx hb dX1_keepPiece_10 (by decide) ?_
  refine lv_lstore (lv' := [(6, .long 1), (4, .long 0), (0, .ref q_t), (1, .int p1), (2, .int p2), (3, .int p3)]) hx hb dX1_keepPiece_11 hl (by decide) rfl (fun ls hl => ?_)
  refine lv_iload_n hx hb dX1_keepPiece_13 rfl (lv_at hl 5 rfl) ?_
  refine lv_iload_n hx hb dX1_keepPiece_14 rfl (lv_at hl 4 rfl) ?_
  refine lv_isub hx hb dX1_keepPiece_15 ?_
  refine lv_iconst (v := 1) hx hb dX1_keepPiece_16 (by decide) ?_
  refine lv_icmp_le (tgt := 44) hx hb dX1_keepPiece_17 (by decide) (fun c7 => ?_) (fun c7 => ?_)
  · have hF := ifT c7 hF
    exact jX1_keepPiece_44 C0 n t_size v2 v3 v4 v5 t_firsts t_lengths t_uppers t_lowers t_middles p1 p2 p3 0 1 _ _ _ hF hP hD hS (lv_sub hl [2, 3, 4, 5, 1, 0] rfl)
  · have hF := ifF c7 hF
    refine lv_aload_n hx hb dX1_keepPiece_20 rfl (lv_at hl 2 rfl) ?_
    refine va_get (D := D) (ci := 1) (v := .long v2) (C := RX1) (T := TX1) (N := 14) hx hb hts i_X1_keepPiece_X1 hown hE.1 hP 0 rfl rfl 10 (by decide) (hts (.fieldLink RX1 56 "NeedleHouse$Pieces" "leastUpper" "J") (by decide +kernel)) (fun _ h9 => h9) rfl dX1_keepPiece_21 ?_
    refine lv_lconst (v := 0) hx hb dX1_keepPiece_24 (by decide) ?_
    refine W.lcmp hx hb dX1_keepPiece_25 ?_
    refine lv_if_le (tgt := 44) hx hb dX1_keepPiece_26 (by decide) (fun c8 => ?_) (fun c8 => ?_)
    · have hF := ifT c8 hF
      exact jX1_keepPiece_44 C0 n t_size v2 v3 v4 v5 t_firsts t_lengths t_uppers t_lowers t_middles p1 p2 p3 0 1 _ _ _ hF hP hD hS (lv_sub hl [2, 3, 4, 5, 1, 0] rfl)
    · have hF := ifF c8 hF
      refine lv_aload_n hx hb dX1_keepPiece_29 rfl (lv_at hl 2 rfl) ?_
      refine va_get (D := D) (ci := 1) (v := .long v2) (C := RX1) (T := TX1) (N := 14) hx hb hts i_X1_keepPiece_X1 hown hE.1 hP 0 rfl rfl 10 (by decide) (hts (.fieldLink RX1 56 "NeedleHouse$Pieces" "leastUpper" "J") (by decide +kernel)) (fun _ h9 => h9) rfl dX1_keepPiece_30 ?_
      refine lv_lstore (lv' := [(4, .long v2), (6, .long 1), (0, .ref q_t), (1, .int p1), (2, .int p2), (3, .int p3)]) hx hb dX1_keepPiece_33 hl (by decide) rfl (fun ls hl => ?_)
      refine lv_aload_n hx hb dX1_keepPiece_35 rfl (lv_at hl 2 rfl) ?_
      refine va_get (D := D) (ci := 1) (v := .long v3) (C := RX1) (T := TX1) (N := 14) hx hb hts i_X1_keepPiece_X1 hown hE.1 hP 0 rfl rfl 11 (by decide) (hts (.fieldLink RX1 52 "NeedleHouse$Pieces" "leastLower" "J") (by decide +kernel)) (fun _ h9 => h9) rfl dX1_keepPiece_36 ?_
      refine lv_lstore (lv' := [(6, .long v3), (4, .long v2), (0, .ref q_t), (1, .int p1), (2, .int p2), (3, .int p3)]) hx hb dX1_keepPiece_39 hl (by decide) rfl (fun ls hl => ?_)
      refine lv_goto (tgt := 72) hx hb dX1_keepPiece_41 (by decide) ?_
      exact jX1_keepPiece_72 C0 n t_size v2 v3 v4 v5 t_firsts t_lengths t_uppers t_lowers t_middles p1 p2 p3 v2 v3 _ _ _ hF hP hD hS (lv_sub hl [2, 3, 4, 5, 1, 0] rfl)
/-! NeedleHouse$Pieces.lay()V -/
theorem i_X1_lay_X1 : ∀ w ∈ wsX10, w ∈ wsX1_lay := by decide +kernel
set_option maxHeartbeats 4000000 in
set_option maxRecDepth 100000 in
theorem jX1_lay_22 {p : Program} {l : Launch} {e : Env} {s : State} {m : MethodId} {args : Array Value} {below : List Frame} {meth : Method} {c : Code} {D : va_G} {ct : Nat → ClassId} {A : Nat → Prop} {q_t q_t_times q_t_lows q_t_highs q_t_firsts q_t_lengths q_t_uppers q_t_lowers q_t_middles : Nat} {t_points : Int32} {t_times : Nat → Int32} {t_lows : Nat → Int32} {t_highs : Nat → Int32} {o_t_size : Int32} {o_t_leastUpper : Int64} {o_t_leastLower : Int64} {o_t_mostUpper : Int64} {o_t_mostLower : Int64} {o_t_firsts : Nat → Int32} {o_t_lengths : Nat → Int32} {o_t_uppers : Nat → Int32} {o_t_lowers : Nat → Int32} {o_t_middles : Nat → Int64} (C0 : Cx RX1 cX1_lay 4 none wsX1_lay D ct A p s m args meth c) (k4 : Int32 → Int32 → Int64 → Int64 → Int64 → Int64 → (Nat → Int32) → (Nat → Int32) → (Nat → Int32) → (Nat → Int32) → (Nat → Int32) → (Nat → Int32) → (Nat → Int32) → (Nat → Int64) → Int32 → Int32 → Option (Int32 × Int64 × Int64 × Int64 × Int64 × (Nat → Int32) × (Nat → Int32) × (Nat → Int32) × (Nat → Int32) × (Nat → Int64))) (hk4 : ∀ (t_size : Int32) (t_leastUpper : Int64) (t_leastLower : Int64) (t_mostUpper : Int64) (t_mostLower : Int64) (t_firsts : Nat → Int32) (t_lengths : Nat → Int32) (t_uppers : Nat → Int32) (t_lowers : Nat → Int32) (t_middles : Nat → Int64) (x_1 : Int32) (x_2 : Int32) (H : Heap) (locs : List Loc) (ls : Array Slot), k4 t_points t_size t_leastUpper t_leastLower t_mostUpper t_mostLower t_times t_lows t_highs t_firsts t_lengths t_uppers t_lowers t_middles x_1 x_2 = some (o_t_size, o_t_leastUpper, o_t_leastLower, o_t_mostUpper, o_t_mostLower, o_t_firsts, o_t_lengths, o_t_uppers, o_t_lowers, o_t_middles) → va_P D vwCl (W_14 ct q_t q_t_times q_t_lows q_t_highs q_t_firsts q_t_lengths q_t_uppers q_t_lowers q_t_middles t_points t_size t_leastUpper t_leastLower t_mostUpper t_mostLower t_times t_lows t_highs t_firsts t_lengths t_uppers t_lowers t_middles) H → va_D A (W_14 ct q_t q_t_times q_t_lows q_t_highs q_t_firsts q_t_lengths q_t_uppers q_t_lowers q_t_middles t_points t_size t_leastUpper t_leastLower t_mostUpper t_mostLower t_times t_lows t_highs t_firsts t_lengths t_uppers t_lowers t_middles) → va_S A s.heap H locs → lv_has ls 4 [(0, .ref q_t), (1, .int x_1), (2, .int x_2)] → W p l e ({ frames := 3, cells := 0, slots := 0, locals := 77 } : Room) s m args below meth c H locs 0 0 (MQ below (va_Qv (fun (_ : Unit) => True) (fun _ t => va_P D vwCl (W_14 ct q_t q_t_times q_t_lows q_t_highs q_t_firsts q_t_lengths q_t_uppers q_t_lowers q_t_middles t_points o_t_size o_t_leastUpper o_t_leastLower o_t_mostUpper o_t_mostLower t_times t_lows t_highs o_t_firsts o_t_lengths o_t_uppers o_t_lowers o_t_middles) t.heap) A) args s 0 0 A) (F0 m 4 ls [])) (k22 : Int32 → Int32 → Int64 → Int64 → Int64 → Int64 → (Nat → Int32) → (Nat → Int32) → (Nat → Int32) → (Nat → Int32) → (Nat → Int32) → (Nat → Int32) → (Nat → Int32) → (Nat → Int64) → Int32 → Int32 → Int32 → Option (Int32 × Int64 × Int64 × Int64 × Int64 × (Nat → Int32) × (Nat → Int32) × (Nat → Int32) × (Nat → Int32) × (Nat → Int64))) (hk22 : ∀ (t_size : Int32) (t_leastUpper : Int64) (t_leastLower : Int64) (t_mostUpper : Int64) (t_mostLower : Int64) (t_firsts : Nat → Int32) (t_lengths : Nat → Int32) (t_uppers : Nat → Int32) (t_lowers : Nat → Int32) (t_middles : Nat → Int64) (x_1 : Int32) (x_2 : Int32) (x_3 : Int32) (H : Heap) (locs : List Loc) (ls : Array Slot), k22 t_points t_size t_leastUpper t_leastLower t_mostUpper t_mostLower t_times t_lows t_highs t_firsts t_lengths t_uppers t_lowers t_middles x_1 x_2 x_3 = some (o_t_size, o_t_leastUpper, o_t_leastLower, o_t_mostUpper, o_t_mostLower, o_t_firsts, o_t_lengths, o_t_uppers, o_t_lowers, o_t_middles) → va_P D vwCl (W_14 ct q_t q_t_times q_t_lows q_t_highs q_t_firsts q_t_lengths q_t_uppers q_t_lowers q_t_middles t_points t_size t_leastUpper t_leastLower t_mostUpper t_mostLower t_times t_lows t_highs t_firsts t_lengths t_uppers t_lowers t_middles) H → va_D A (W_14 ct q_t q_t_times q_t_lows q_t_highs q_t_firsts q_t_lengths q_t_uppers q_t_lowers q_t_middles t_points t_size t_leastUpper t_leastLower t_mostUpper t_mostLower t_times t_lows t_highs t_firsts t_lengths t_uppers t_lowers t_middles) → va_S A s.heap H locs → lv_has ls 4 [(0, .ref q_t), (1, .int x_1), (2, .int x_2), (3, .int x_3)] → W p l e ({ frames := 3, cells := 0, slots := 0, locals := 77 } : Room) s m args below meth c H locs 0 0 (MQ below (va_Qv (fun (_ : Unit) => True) (fun _ t => va_P D vwCl (W_14 ct q_t q_t_times q_t_lows q_t_highs q_t_firsts q_t_lengths q_t_uppers q_t_lowers q_t_middles t_points o_t_size o_t_leastUpper o_t_leastLower o_t_mostUpper o_t_mostLower t_times t_lows t_highs o_t_firsts o_t_lengths o_t_uppers o_t_lowers o_t_middles) t.heap) A) args s 0 0 A) (F0 m 22 ls [])) (n : Nat) (t_size : Int32) (t_leastUpper : Int64) (t_leastLower : Int64) (t_mostUpper : Int64) (t_mostLower : Int64) (t_firsts : Nat → Int32) (t_lengths : Nat → Int32) (t_uppers : Nat → Int32) (t_lowers : Nat → Int32) (t_middles : Nat → Int64) (x_1 : Int32) (x_2 : Int32) (x_3 : Int32) (H : Heap) (locs : List Loc) (ls : Array Slot) : JX1_lay_22 k4 k22 n t_points t_size t_leastUpper t_leastLower t_mostUpper t_mostLower t_times t_lows t_highs t_firsts t_lengths t_uppers t_lowers t_middles x_1 x_2 x_3 = some (o_t_size, o_t_leastUpper, o_t_leastLower, o_t_mostUpper, o_t_mostLower, o_t_firsts, o_t_lengths, o_t_uppers, o_t_lowers, o_t_middles) → va_P D vwCl (W_14 ct q_t q_t_times q_t_lows q_t_highs q_t_firsts q_t_lengths q_t_uppers q_t_lowers q_t_middles t_points t_size t_leastUpper t_leastLower t_mostUpper t_mostLower t_times t_lows t_highs t_firsts t_lengths t_uppers t_lowers t_middles) H → va_D A (W_14 ct q_t q_t_times q_t_lows q_t_highs q_t_firsts q_t_lengths q_t_uppers q_t_lowers q_t_middles t_points t_size t_leastUpper t_leastLower t_mostUpper t_mostLower t_times t_lows t_highs t_firsts t_lengths t_uppers t_lowers t_middles) → va_S A s.heap H locs → lv_has ls 4 [(0, .ref q_t), (1, .int x_1), (2, .int x_2), (3, .int x_3)] → W p l e ({ frames := 3, cells := 0, slots := 0, locals := 77 } : Room) s m args below meth c H locs 0 0 (MQ below (va_Qv (fun (_ : Unit) => True) (fun _ t => va_P D vwCl (W_14 ct q_t q_t_times q_t_lows q_t_highs q_t_firsts q_t_lengths q_t_uppers q_t_lowers q_t_middles t_points o_t_size o_t_leastUpper o_t_leastLower o_t_mostUpper o_t_mostLower t_times t_lows t_highs o_t_firsts o_t_lengths o_t_uppers o_t_lowers o_t_middles) t.heap) A) args s 0 0 A) (F0 m 22 ls []) := by
  intro hF hP hD hS hl
  obtain ⟨hx, hb, hml, hown, hts, hr, hlocks, hE, hA⟩ := id C0
  unfold JX1_lay_22 at hF
  refine lv_iload_n hx hb dX1_lay_22 rfl (lv_at hl 3 rfl) ?_
  refine lv_aload_n hx hb dX1_lay_23 rfl (lv_at hl 0 rfl) ?_
  refine va_get (D := D) (ci := 1) (v := .int t_points) (C := RX1) (T := TX1) (N := 14) hx hb hts i_X1_lay_X1 hown hE.1 hP 0 rfl rfl 3 (by decide) (hts (.fieldLink RX1 37 "NeedleHouse$Pieces" "points" "I") (by decide +kernel)) (fun _ h9 => h9) rfl dX1_lay_24 ?_
  refine lv_icmp_ge (tgt := 47) hx hb dX1_lay_27 (by decide) (fun c4 => ?_) (fun c4 => ?_)
  · have hF := ifT c4 hF
    refine lv_aload_n hx hb dX1_lay_47 rfl (lv_at hl 0 rfl) ?_
    refine lv_iload_n hx hb dX1_lay_48 rfl (lv_at hl 2 rfl) ?_
    refine lv_iload_n hx hb dX1_lay_49 rfl (lv_at hl 1 rfl) ?_
    refine lv_iload_n hx hb dX1_lay_50 rfl (lv_at hl 3 rfl) ?_
    obtain ⟨v5, v6, v7, v8, v9, f10, f11, f12, f13, f14, h15, hF⟩ := ob10_ex hF
    refine xvA (va_runV (As := [.int x_2, .int x_1, .int x_3]) (rest := []) ⟨hx, hb, hml, hown, hts⟩ (met_X1_keepPiece l D ct q_t q_t_times q_t_lows q_t_highs q_t_firsts q_t_lengths q_t_uppers q_t_lowers q_t_middles H.size t_points t_size t_leastUpper t_leastLower t_mostUpper t_mostLower t_times t_lows t_highs t_firsts t_lengths t_uppers t_lowers t_middles x_2 x_1 x_3 n v5 v6 v7 v8 v9 f10 f11 f12 f13 f14 h15) (cwV 3 hts gX1_lay_X1_keepPiece rfl rfl rfl (by decide +kernel) ⟨Nat.le_of_ble_eq_true rfl, Nat.le_of_ble_eq_true rfl⟩) ⟨blind_, va_recv hE.1 hP (ci := 1) (q0 := 0) rfl rfl, mkpre_ hE hP hD⟩ rfl rfl hl.1 rfl (lv_room (Nat.le_of_ble_eq_true rfl)) dX1_lay_51 ⟨Nat.le_of_ble_eq_true rfl, Nat.le_of_ble_eq_true rfl⟩) hP hD hS hA rfl (fun H locs hP hD hS => ?_)
    refine lv_iload_n hx hb dX1_lay_54 rfl (lv_at hl 3 rfl) ?_
    refine lv_istore_n (lv' := [(1, .int x_3), (0, .ref q_t), (2, .int x_2), (3, .int x_3)]) hx hb dX1_lay_55 rfl hl (by decide) rfl (fun ls hl => ?_)
    obtain ⟨x16, ex16⟩ : ∃ y : Int32, y = x_2 + 1 := ⟨_, rfl⟩
    refine lv_iinc (v := x16) (lv' := [(2, .int x16), (1, .int x_3), (0, .ref q_t), (3, .int x_3)]) hx hb dX1_lay_56 hl (k := 2) rfl (by rw [ex16]; rfl) (by decide) rfl (fun ls hl => ?_)
    have hF := bn_as ex16 hF
    refine lv_goto (tgt := 4) hx hb dX1_lay_59 (by decide) ?_
    exact hk4 v5 v6 v7 v8 v9 f10 f11 f12 f13 f14 x_3 x16 _ _ _ hF hP hD hS (lv_sub hl [2, 1, 0] rfl)
  · have hF := ifF c4 hF
    refine lv_aload_n hx hb dX1_lay_30 rfl (lv_at hl 0 rfl) ?_
    refine lv_iload_n hx hb dX1_lay_31 rfl (lv_at hl 1 rfl) ?_
    refine lv_iload_n hx hb dX1_lay_32 rfl (lv_at hl 3 rfl) ?_
    refine lv_iconst (v := 1) hx hb dX1_lay_33 (by decide) ?_
    refine lv_iadd hx hb dX1_lay_34 ?_
    obtain ⟨r17, v18, v19, v20, v21, h22, hF⟩ := ob5_ex hF
    refine xiM (ws1 := (W_14 ct q_t q_t_times q_t_lows q_t_highs q_t_firsts q_t_lengths q_t_uppers q_t_lowers q_t_middles t_points t_size v18 v19 v20 v21 t_times t_lows t_highs t_firsts t_lengths t_uppers t_lowers t_middles)) (va_runV (As := [.int x_1, .int (x_3 + 1)]) (rest := []) ⟨hx, hb, hml, hown, hts⟩ (met_X1_fits l D ct q_t q_t_times q_t_lows q_t_highs q_t_firsts q_t_lengths q_t_uppers q_t_lowers q_t_middles H.size t_points t_size t_leastUpper t_leastLower t_mostUpper t_mostLower t_times t_lows t_highs x_1 (x_3 + 1) n r17 v18 v19 v20 v21 h22) (cwV 2 hts gX1_lay_X1_fits rfl rfl rfl (by decide +kernel) ⟨Nat.le_of_ble_eq_true rfl, Nat.le_of_ble_eq_true rfl⟩) ⟨blind_, va_recv hE.1 hP (ci := 1) (q0 := 0) rfl rfl, mkpre_ hE (hP.sub [0, 1, 2, 3] rfl) (hD.sub [0, 1, 2, 3] (by decide) rfl)⟩ rfl rfl hl.1 rfl (lv_room (Nat.le_of_ble_eq_true rfl)) dX1_lay_35 ⟨Nat.le_of_ble_eq_true rfl, Nat.le_of_ble_eq_true rfl⟩) hP hD hS hA [0, 1, 2, 3] [4, 5, 6, 7, 8] 9 rfl rfl rfl rfl (by decide) rfl (fun H locs hP hD hS => ?_)
    refine lv_if_eq (tgt := 47) hx hb dX1_lay_38 (by decide) (fun c23 => ?_) (fun c23 => ?_)
    · have hF := ifT c23 hF
      refine lv_aload_n hx hb dX1_lay_47 rfl (lv_at hl 0 rfl) ?_
      refine lv_iload_n hx hb dX1_lay_48 rfl (lv_at hl 2 rfl) ?_
      refine lv_iload_n hx hb dX1_lay_49 rfl (lv_at hl 1 rfl) ?_
      refine lv_iload_n hx hb dX1_lay_50 rfl (lv_at hl 3 rfl) ?_
      obtain ⟨v24, v25, v26, v27, v28, f29, f30, f31, f32, f33, h34, hF⟩ := ob10_ex hF
      refine xvA (va_runV (As := [.int x_2, .int x_1, .int x_3]) (rest := []) ⟨hx, hb, hml, hown, hts⟩ (met_X1_keepPiece l D ct q_t q_t_times q_t_lows q_t_highs q_t_firsts q_t_lengths q_t_uppers q_t_lowers q_t_middles H.size t_points t_size v18 v19 v20 v21 t_times t_lows t_highs t_firsts t_lengths t_uppers t_lowers t_middles x_2 x_1 x_3 n v24 v25 v26 v27 v28 f29 f30 f31 f32 f33 h34) (cwV 3 hts gX1_lay_X1_keepPiece rfl rfl rfl (by decide +kernel) ⟨Nat.le_of_ble_eq_true rfl, Nat.le_of_ble_eq_true rfl⟩) ⟨blind_, va_recv hE.1 hP (ci := 1) (q0 := 0) rfl rfl, mkpre_ hE hP hD⟩ rfl rfl hl.1 rfl (lv_room (Nat.le_of_ble_eq_true rfl)) dX1_lay_51 ⟨Nat.le_of_ble_eq_true rfl, Nat.le_of_ble_eq_true rfl⟩) hP hD hS hA rfl (fun H locs hP hD hS => ?_)
      refine lv_iload_n hx hb dX1_lay_54 rfl (lv_at hl 3 rfl) ?_
      refine lv_istore_n (lv' := [(1, .int x_3), (0, .ref q_t), (2, .int x_2), (3, .int x_3)]) hx hb dX1_lay_55 rfl hl (by decide) rfl (fun ls hl => ?_)
      obtain ⟨x35, ex35⟩ : ∃ y : Int32, y = x_2 + 1 := ⟨_, rfl⟩
      refine lv_iinc (v := x35) (lv' := [(2, .int x35), (1, .int x_3), (0, .ref q_t), (3, .int x_3)]) hx hb dX1_lay_56 hl (k := 2) rfl (by rw [ex35]; rfl) (by decide) rfl (fun ls hl => ?_)
      have hF := bn_as ex35 hF
      refine lv_goto (tgt := 4) hx hb dX1_lay_59 (by decide) ?_
      exact hk4 v24 v25 v26 v27 v28 f29 f30 f31 f32 f33 x_3 x35 _ _ _ hF hP hD hS (lv_sub hl [2, 1, 0] rfl)
    · have hF := ifF c23 hF
      obtain ⟨x36, ex36⟩ : ∃ y : Int32, y = x_3 + 1 := ⟨_, rfl⟩
      refine lv_iinc (v := x36) (lv' := [(3, .int x36), (0, .ref q_t), (1, .int x_1), (2, .int x_2)]) hx hb dX1_lay_41 hl (k := 3) rfl (by rw [ex36]; rfl) (by decide) rfl (fun ls hl => ?_)
      have hF := bn_as ex36 hF
      refine lv_goto (tgt := 22) hx hb dX1_lay_44 (by decide) ?_
      exact hk22 t_size v18 v19 v20 v21 t_firsts t_lengths t_uppers t_lowers t_middles x_1 x_2 x36 _ _ _ hF hP hD hS (lv_sub hl [1, 2, 3, 0] rfl)
theorem lX1_lay_22 {p : Program} {l : Launch} {e : Env} {s : State} {m : MethodId} {args : Array Value} {below : List Frame} {meth : Method} {c : Code} {D : va_G} {ct : Nat → ClassId} {A : Nat → Prop} {q_t q_t_times q_t_lows q_t_highs q_t_firsts q_t_lengths q_t_uppers q_t_lowers q_t_middles : Nat} {t_points : Int32} {t_times : Nat → Int32} {t_lows : Nat → Int32} {t_highs : Nat → Int32} {o_t_size : Int32} {o_t_leastUpper : Int64} {o_t_leastLower : Int64} {o_t_mostUpper : Int64} {o_t_mostLower : Int64} {o_t_firsts : Nat → Int32} {o_t_lengths : Nat → Int32} {o_t_uppers : Nat → Int32} {o_t_lowers : Nat → Int32} {o_t_middles : Nat → Int64} (C0 : Cx RX1 cX1_lay 4 none wsX1_lay D ct A p s m args meth c) (k4 : Int32 → Int32 → Int64 → Int64 → Int64 → Int64 → (Nat → Int32) → (Nat → Int32) → (Nat → Int32) → (Nat → Int32) → (Nat → Int32) → (Nat → Int32) → (Nat → Int32) → (Nat → Int64) → Int32 → Int32 → Option (Int32 × Int64 × Int64 × Int64 × Int64 × (Nat → Int32) × (Nat → Int32) × (Nat → Int32) × (Nat → Int32) × (Nat → Int64))) (hk4 : ∀ (t_size : Int32) (t_leastUpper : Int64) (t_leastLower : Int64) (t_mostUpper : Int64) (t_mostLower : Int64) (t_firsts : Nat → Int32) (t_lengths : Nat → Int32) (t_uppers : Nat → Int32) (t_lowers : Nat → Int32) (t_middles : Nat → Int64) (x_1 : Int32) (x_2 : Int32) (H : Heap) (locs : List Loc) (ls : Array Slot), k4 t_points t_size t_leastUpper t_leastLower t_mostUpper t_mostLower t_times t_lows t_highs t_firsts t_lengths t_uppers t_lowers t_middles x_1 x_2 = some (o_t_size, o_t_leastUpper, o_t_leastLower, o_t_mostUpper, o_t_mostLower, o_t_firsts, o_t_lengths, o_t_uppers, o_t_lowers, o_t_middles) → va_P D vwCl (W_14 ct q_t q_t_times q_t_lows q_t_highs q_t_firsts q_t_lengths q_t_uppers q_t_lowers q_t_middles t_points t_size t_leastUpper t_leastLower t_mostUpper t_mostLower t_times t_lows t_highs t_firsts t_lengths t_uppers t_lowers t_middles) H → va_D A (W_14 ct q_t q_t_times q_t_lows q_t_highs q_t_firsts q_t_lengths q_t_uppers q_t_lowers q_t_middles t_points t_size t_leastUpper t_leastLower t_mostUpper t_mostLower t_times t_lows t_highs t_firsts t_lengths t_uppers t_lowers t_middles) → va_S A s.heap H locs → lv_has ls 4 [(0, .ref q_t), (1, .int x_1), (2, .int x_2)] → W p l e ({ frames := 3, cells := 0, slots := 0, locals := 77 } : Room) s m args below meth c H locs 0 0 (MQ below (va_Qv (fun (_ : Unit) => True) (fun _ t => va_P D vwCl (W_14 ct q_t q_t_times q_t_lows q_t_highs q_t_firsts q_t_lengths q_t_uppers q_t_lowers q_t_middles t_points o_t_size o_t_leastUpper o_t_leastLower o_t_mostUpper o_t_mostLower t_times t_lows t_highs o_t_firsts o_t_lengths o_t_uppers o_t_lowers o_t_middles) t.heap) A) args s 0 0 A) (F0 m 4 ls [])) : ∀ (n : Nat) (t_size : Int32) (t_leastUpper : Int64) (t_leastLower : Int64) (t_mostUpper : Int64) (t_mostLower : Int64) (t_firsts : Nat → Int32) (t_lengths : Nat → Int32) (t_uppers : Nat → Int32) (t_lowers : Nat → Int32) (t_middles : Nat → Int64) (x_1 : Int32) (x_2 : Int32) (x_3 : Int32) (H : Heap) (locs : List Loc) (ls : Array Slot), LX1_lay_22 k4 n t_points t_size t_leastUpper t_leastLower t_mostUpper t_mostLower t_times t_lows t_highs t_firsts t_lengths t_uppers t_lowers t_middles x_1 x_2 x_3 = some (o_t_size, o_t_leastUpper, o_t_leastLower, o_t_mostUpper, o_t_mostLower, o_t_firsts, o_t_lengths, o_t_uppers, o_t_lowers, o_t_middles) → va_P D vwCl (W_14 ct q_t q_t_times q_t_lows q_t_highs q_t_firsts q_t_lengths q_t_uppers q_t_lowers q_t_middles t_points t_size t_leastUpper t_leastLower t_mostUpper t_mostLower t_times t_lows t_highs t_firsts t_lengths t_uppers t_lowers t_middles) H → va_D A (W_14 ct q_t q_t_times q_t_lows q_t_highs q_t_firsts q_t_lengths q_t_uppers q_t_lowers q_t_middles t_points t_size t_leastUpper t_leastLower t_mostUpper t_mostLower t_times t_lows t_highs t_firsts t_lengths t_uppers t_lowers t_middles) → va_S A s.heap H locs → lv_has ls 4 [(0, .ref q_t), (1, .int x_1), (2, .int x_2), (3, .int x_3)] → W p l e ({ frames := 3, cells := 0, slots := 0, locals := 77 } : Room) s m args below meth c H locs 0 0 (MQ below (va_Qv (fun (_ : Unit) => True) (fun _ t => va_P D vwCl (W_14 ct q_t q_t_times q_t_lows q_t_highs q_t_firsts q_t_lengths q_t_uppers q_t_lowers q_t_middles t_points o_t_size o_t_leastUpper o_t_leastLower o_t_mostUpper o_t_mostLower t_times t_lows t_highs o_t_firsts o_t_lengths o_t_uppers o_t_lowers o_t_middles) t.heap) A) args s 0 0 A) (F0 m 22 ls []) := by
  intro n
  induction n with
  | zero => intro t_size t_leastUpper t_leastLower t_mostUpper t_mostLower t_firsts t_lengths t_uppers t_lowers t_middles x_1 x_2 x_3 H locs ls hF; exact nomatch (show (none : Option (Int32 × Int64 × Int64 × Int64 × Int64 × (Nat → Int32) × (Nat → Int32) × (Nat → Int32) × (Nat → Int32) × (Nat → Int64))) = _ from hF)
  | succ n ih => intro t_size t_leastUpper t_leastLower t_mostUpper t_mostLower t_firsts t_lengths t_uppers t_lowers t_middles x_1 x_2 x_3 H locs ls hF; exact jX1_lay_22 C0 k4 hk4 (LX1_lay_22 k4 n) ih n t_size t_leastUpper t_leastLower t_mostUpper t_mostLower t_firsts t_lengths t_uppers t_lowers t_middles x_1 x_2 x_3 H locs ls hF
set_option maxHeartbeats 4000000 in
set_option maxRecDepth 100000 in
theorem jX1_lay_4 {p : Program} {l : Launch} {e : Env} {s : State} {m : MethodId} {args : Array Value} {below : List Frame} {meth : Method} {c : Code} {D : va_G} {ct : Nat → ClassId} {A : Nat → Prop} {q_t q_t_times q_t_lows q_t_highs q_t_firsts q_t_lengths q_t_uppers q_t_lowers q_t_middles : Nat} {t_points : Int32} {t_times : Nat → Int32} {t_lows : Nat → Int32} {t_highs : Nat → Int32} {o_t_size : Int32} {o_t_leastUpper : Int64} {o_t_leastLower : Int64} {o_t_mostUpper : Int64} {o_t_mostLower : Int64} {o_t_firsts : Nat → Int32} {o_t_lengths : Nat → Int32} {o_t_uppers : Nat → Int32} {o_t_lowers : Nat → Int32} {o_t_middles : Nat → Int64} (C0 : Cx RX1 cX1_lay 4 none wsX1_lay D ct A p s m args meth c) (k4 : Int32 → Int32 → Int64 → Int64 → Int64 → Int64 → (Nat → Int32) → (Nat → Int32) → (Nat → Int32) → (Nat → Int32) → (Nat → Int32) → (Nat → Int32) → (Nat → Int32) → (Nat → Int64) → Int32 → Int32 → Option (Int32 × Int64 × Int64 × Int64 × Int64 × (Nat → Int32) × (Nat → Int32) × (Nat → Int32) × (Nat → Int32) × (Nat → Int64))) (hk4 : ∀ (t_size : Int32) (t_leastUpper : Int64) (t_leastLower : Int64) (t_mostUpper : Int64) (t_mostLower : Int64) (t_firsts : Nat → Int32) (t_lengths : Nat → Int32) (t_uppers : Nat → Int32) (t_lowers : Nat → Int32) (t_middles : Nat → Int64) (x_1 : Int32) (x_2 : Int32) (H : Heap) (locs : List Loc) (ls : Array Slot), k4 t_points t_size t_leastUpper t_leastLower t_mostUpper t_mostLower t_times t_lows t_highs t_firsts t_lengths t_uppers t_lowers t_middles x_1 x_2 = some (o_t_size, o_t_leastUpper, o_t_leastLower, o_t_mostUpper, o_t_mostLower, o_t_firsts, o_t_lengths, o_t_uppers, o_t_lowers, o_t_middles) → va_P D vwCl (W_14 ct q_t q_t_times q_t_lows q_t_highs q_t_firsts q_t_lengths q_t_uppers q_t_lowers q_t_middles t_points t_size t_leastUpper t_leastLower t_mostUpper t_mostLower t_times t_lows t_highs t_firsts t_lengths t_uppers t_lowers t_middles) H → va_D A (W_14 ct q_t q_t_times q_t_lows q_t_highs q_t_firsts q_t_lengths q_t_uppers q_t_lowers q_t_middles t_points t_size t_leastUpper t_leastLower t_mostUpper t_mostLower t_times t_lows t_highs t_firsts t_lengths t_uppers t_lowers t_middles) → va_S A s.heap H locs → lv_has ls 4 [(0, .ref q_t), (1, .int x_1), (2, .int x_2)] → W p l e ({ frames := 3, cells := 0, slots := 0, locals := 77 } : Room) s m args below meth c H locs 0 0 (MQ below (va_Qv (fun (_ : Unit) => True) (fun _ t => va_P D vwCl (W_14 ct q_t q_t_times q_t_lows q_t_highs q_t_firsts q_t_lengths q_t_uppers q_t_lowers q_t_middles t_points o_t_size o_t_leastUpper o_t_leastLower o_t_mostUpper o_t_mostLower t_times t_lows t_highs o_t_firsts o_t_lengths o_t_uppers o_t_lowers o_t_middles) t.heap) A) args s 0 0 A) (F0 m 4 ls [])) (n : Nat) (t_size : Int32) (t_leastUpper : Int64) (t_leastLower : Int64) (t_mostUpper : Int64) (t_mostLower : Int64) (t_firsts : Nat → Int32) (t_lengths : Nat → Int32) (t_uppers : Nat → Int32) (t_lowers : Nat → Int32) (t_middles : Nat → Int64) (x_1 : Int32) (x_2 : Int32) (H : Heap) (locs : List Loc) (ls : Array Slot) : JX1_lay_4 k4 n t_points t_size t_leastUpper t_leastLower t_mostUpper t_mostLower t_times t_lows t_highs t_firsts t_lengths t_uppers t_lowers t_middles x_1 x_2 = some (o_t_size, o_t_leastUpper, o_t_leastLower, o_t_mostUpper, o_t_mostLower, o_t_firsts, o_t_lengths, o_t_uppers, o_t_lowers, o_t_middles) → va_P D vwCl (W_14 ct q_t q_t_times q_t_lows q_t_highs q_t_firsts q_t_lengths q_t_uppers q_t_lowers q_t_middles t_points t_size t_leastUpper t_leastLower t_mostUpper t_mostLower t_times t_lows t_highs t_firsts t_lengths t_uppers t_lowers t_middles) H → va_D A (W_14 ct q_t q_t_times q_t_lows q_t_highs q_t_firsts q_t_lengths q_t_uppers q_t_lowers q_t_middles t_points t_size t_leastUpper t_leastLower t_mostUpper t_mostLower t_times t_lows t_highs t_firsts t_lengths t_uppers t_lowers t_middles) → va_S A s.heap H locs → lv_has ls 4 [(0, .ref q_t), (1, .int x_1), (2, .int x_2)] → W p l e ({ frames := 3, cells := 0, slots := 0, locals := 77 } : Room) s m args below meth c H locs 0 0 (MQ below (va_Qv (fun (_ : Unit) => True) (fun _ t => va_P D vwCl (W_14 ct q_t q_t_times q_t_lows q_t_highs q_t_firsts q_t_lengths q_t_uppers q_t_lowers q_t_middles t_points o_t_size o_t_leastUpper o_t_leastLower o_t_mostUpper o_t_mostLower t_times t_lows t_highs o_t_firsts o_t_lengths o_t_uppers o_t_lowers o_t_middles) t.heap) A) args s 0 0 A) (F0 m 4 ls []) := by
  intro hF hP hD hS hl
  obtain ⟨hx, hb, hml, hown, hts, hr, hlocks, hE, hA⟩ := id C0
  unfold JX1_lay_4 at hF
  refine lv_iload_n hx hb dX1_lay_4 rfl (lv_at hl 2 rfl) ?_
  refine lv_bipush (v := 20) hx hb dX1_lay_5 (by decide) ?_
  refine lv_icmp_ge (tgt := 62) hx hb dX1_lay_7 (by decide) (fun c1 => ?_) (fun c1 => ?_)
  · have hF := ifT c1 hF
    obtain ⟨rfl, rfl, rfl, rfl, rfl, rfl, rfl, rfl, rfl, rfl⟩ := in10 hF
    exact W.vret hx hb hr (fun t ht hW => ⟨⟨(), rfl, trivial, vaP_at ht hP⟩, hS.F ht⟩) hS.2.2 dX1_lay_62
  · have hF := ifF c1 hF
    refine lv_iload_n hx hb dX1_lay_10 rfl (lv_at hl 1 rfl) ?_
    refine lv_aload_n hx hb dX1_lay_11 rfl (lv_at hl 0 rfl) ?_
    refine va_get (D := D) (ci := 1) (v := .int t_points) (C := RX1) (T := TX1) (N := 14) hx hb hts i_X1_lay_X1 hown hE.1 hP 0 rfl rfl 3 (by decide) (hts (.fieldLink RX1 37 "NeedleHouse$Pieces" "points" "I") (by decide +kernel)) (fun _ h9 => h9) rfl dX1_lay_12 ?_
    refine lv_icmp_ge (tgt := 62) hx hb dX1_lay_15 (by decide) (fun c2 => ?_) (fun c2 => ?_)
    · have hF := ifT c2 hF
      obtain ⟨rfl, rfl, rfl, rfl, rfl, rfl, rfl, rfl, rfl, rfl⟩ := in10 hF
      exact W.vret hx hb hr (fun t ht hW => ⟨⟨(), rfl, trivial, vaP_at ht hP⟩, hS.F ht⟩) hS.2.2 dX1_lay_62
    · have hF := ifF c2 hF
      refine lv_iload_n hx hb dX1_lay_18 rfl (lv_at hl 1 rfl) ?_
      refine lv_iconst (v := 1) hx hb dX1_lay_19 (by decide) ?_
      refine lv_iadd hx hb dX1_lay_20 ?_
      refine lv_topi (fun x3 ex3 => ?_)
      have hF := bn_as ex3 hF
      refine lv_istore_n (lv' := [(3, .int x3), (0, .ref q_t), (1, .int x_1), (2, .int x_2)]) hx hb dX1_lay_21 rfl hl (by decide) rfl (fun ls hl => ?_)
      exact lX1_lay_22 C0 k4 hk4 n t_size t_leastUpper t_leastLower t_mostUpper t_mostLower t_firsts t_lengths t_uppers t_lowers t_middles x_1 x_2 x3 _ _ _ hF hP hD hS (lv_sub hl [1, 2, 3, 0] rfl)
theorem lX1_lay_4 {p : Program} {l : Launch} {e : Env} {s : State} {m : MethodId} {args : Array Value} {below : List Frame} {meth : Method} {c : Code} {D : va_G} {ct : Nat → ClassId} {A : Nat → Prop} {q_t q_t_times q_t_lows q_t_highs q_t_firsts q_t_lengths q_t_uppers q_t_lowers q_t_middles : Nat} {t_points : Int32} {t_times : Nat → Int32} {t_lows : Nat → Int32} {t_highs : Nat → Int32} {o_t_size : Int32} {o_t_leastUpper : Int64} {o_t_leastLower : Int64} {o_t_mostUpper : Int64} {o_t_mostLower : Int64} {o_t_firsts : Nat → Int32} {o_t_lengths : Nat → Int32} {o_t_uppers : Nat → Int32} {o_t_lowers : Nat → Int32} {o_t_middles : Nat → Int64} (C0 : Cx RX1 cX1_lay 4 none wsX1_lay D ct A p s m args meth c) : ∀ (n : Nat) (t_size : Int32) (t_leastUpper : Int64) (t_leastLower : Int64) (t_mostUpper : Int64) (t_mostLower : Int64) (t_firsts : Nat → Int32) (t_lengths : Nat → Int32) (t_uppers : Nat → Int32) (t_lowers : Nat → Int32) (t_middles : Nat → Int64) (x_1 : Int32) (x_2 : Int32) (H : Heap) (locs : List Loc) (ls : Array Slot), LX1_lay_4 n t_points t_size t_leastUpper t_leastLower t_mostUpper t_mostLower t_times t_lows t_highs t_firsts t_lengths t_uppers t_lowers t_middles x_1 x_2 = some (o_t_size, o_t_leastUpper, o_t_leastLower, o_t_mostUpper, o_t_mostLower, o_t_firsts, o_t_lengths, o_t_uppers, o_t_lowers, o_t_middles) → va_P D vwCl (W_14 ct q_t q_t_times q_t_lows q_t_highs q_t_firsts q_t_lengths q_t_uppers q_t_lowers q_t_middles t_points t_size t_leastUpper t_leastLower t_mostUpper t_mostLower t_times t_lows t_highs t_firsts t_lengths t_uppers t_lowers t_middles) H → va_D A (W_14 ct q_t q_t_times q_t_lows q_t_highs q_t_firsts q_t_lengths q_t_uppers q_t_lowers q_t_middles t_points t_size t_leastUpper t_leastLower t_mostUpper t_mostLower t_times t_lows t_highs t_firsts t_lengths t_uppers t_lowers t_middles) → va_S A s.heap H locs → lv_has ls 4 [(0, .ref q_t), (1, .int x_1), (2, .int x_2)] → W p l e ({ frames := 3, cells := 0, slots := 0, locals := 77 } : Room) s m args below meth c H locs 0 0 (MQ below (va_Qv (fun (_ : Unit) => True) (fun _ t => va_P D vwCl (W_14 ct q_t q_t_times q_t_lows q_t_highs q_t_firsts q_t_lengths q_t_uppers q_t_lowers q_t_middles t_points o_t_size o_t_leastUpper o_t_leastLower o_t_mostUpper o_t_mostLower t_times t_lows t_highs o_t_firsts o_t_lengths o_t_uppers o_t_lowers o_t_middles) t.heap) A) args s 0 0 A) (F0 m 4 ls []) := by
  intro n
  induction n with
  | zero => intro t_size t_leastUpper t_leastLower t_mostUpper t_mostLower t_firsts t_lengths t_uppers t_lowers t_middles x_1 x_2 H locs ls hF; exact nomatch (show (none : Option (Int32 × Int64 × Int64 × Int64 × Int64 × (Nat → Int32) × (Nat → Int32) × (Nat → Int32) × (Nat → Int32) × (Nat → Int64))) = _ from hF)
  | succ n ih => intro t_size t_leastUpper t_leastLower t_mostUpper t_mostLower t_firsts t_lengths t_uppers t_lowers t_middles x_1 x_2 H locs ls hF; exact jX1_lay_4 C0 (LX1_lay_4 n) ih n t_size t_leastUpper t_leastLower t_mostUpper t_mostLower t_firsts t_lengths t_uppers t_lowers t_middles x_1 x_2 H locs ls hF
set_option maxHeartbeats 4000000 in
set_option maxRecDepth 100000 in
theorem met_X1_lay (l : Launch) (D : va_G) (ct : Nat → ClassId) (q_t : Nat) (q_t_times : Nat) (q_t_lows : Nat) (q_t_highs : Nat) (q_t_firsts : Nat) (q_t_lengths : Nat) (q_t_uppers : Nat) (q_t_lowers : Nat) (q_t_middles : Nat) (sz : Nat) (t_points : Int32) (t_size : Int32) (t_leastUpper : Int64) (t_leastLower : Int64) (t_mostUpper : Int64) (t_mostLower : Int64) (t_times : Nat → Int32) (t_lows : Nat → Int32) (t_highs : Nat → Int32) (t_firsts : Nat → Int32) (t_lengths : Nat → Int32) (t_uppers : Nat → Int32) (t_lowers : Nat → Int32) (t_middles : Nat → Int64) (n : Nat) (o_t_size : Int32) (o_t_leastUpper : Int64) (o_t_leastLower : Int64) (o_t_mostUpper : Int64) (o_t_mostLower : Int64) (o_t_firsts : Nat → Int32) (o_t_lengths : Nat → Int32) (o_t_uppers : Nat → Int32) (o_t_lowers : Nat → Int32) (o_t_middles : Nat → Int64) (hF : FX1_lay n t_points t_size t_leastUpper t_leastLower t_mostUpper t_mostLower t_times t_lows t_highs t_firsts t_lengths t_uppers t_lowers t_middles = some (o_t_size, o_t_leastUpper, o_t_leastLower, o_t_mostUpper, o_t_mostLower, o_t_firsts, o_t_lengths, o_t_uppers, o_t_lowers, o_t_middles)) : Met l yX1_lay wsX1_lay ({ frames := 3, cells := 0, slots := 0, locals := 77 } : Room) (va_Pc [.ref q_t] (pre_ D ct sz (W_14 ct q_t q_t_times q_t_lows q_t_highs q_t_firsts q_t_lengths q_t_uppers q_t_lowers q_t_middles t_points t_size t_leastUpper t_leastLower t_mostUpper t_mostLower t_times t_lows t_highs t_firsts t_lengths t_uppers t_lowers t_middles))) (va_Qv (fun (_ : Unit) => True) (fun _ t => va_P D vwCl (W_14 ct q_t q_t_times q_t_lows q_t_highs q_t_firsts q_t_lengths q_t_uppers q_t_lowers q_t_middles t_points o_t_size o_t_leastUpper o_t_leastLower o_t_mostUpper o_t_mostLower t_times t_lows t_highs o_t_firsts o_t_lengths o_t_uppers o_t_lowers o_t_middles) t.heap) (va_A (W_14 ct q_t q_t_times q_t_lows q_t_highs q_t_firsts q_t_lengths q_t_uppers q_t_lowers q_t_middles t_points t_size t_leastUpper t_leastLower t_mostUpper t_mostLower t_times t_lows t_highs t_firsts t_lengths t_uppers t_lowers t_middles) sz)) 0 0 (va_A (W_14 ct q_t q_t_times q_t_lows q_t_highs q_t_firsts q_t_lengths q_t_uppers q_t_lowers q_t_middles t_points t_size t_leastUpper t_leastLower t_mostUpper t_mostLower t_times t_lows t_highs t_firsts t_lengths t_uppers t_lowers t_middles) sz) := by
  refine Met.ofW (cc := cX1_lay) (maxL := 4) (ret := none) (by decide) rfl ?_
  intro p e s m args below meth c s₁ B hml hv
  obtain ⟨rfl, hsz, hP, hE, hD0⟩ := hv
  have hx := B.exec
  have hb := B.bytes
  have hr := B.returns
  have hts := atoms_spec (ws := wsX1_lay) B.pre
  have hown : s.vm.findClass RX1 = some m.cls := findClass_of_methodNamed B.named
  have hlocks := B.notSynchronized
  subst hsz
  have hD := hD0.self (sz := s.heap.size)
  generalize hAe : va_A (W_14 ct q_t q_t_times q_t_lows q_t_highs q_t_firsts q_t_lengths q_t_uppers q_t_lowers q_t_middles t_points t_size t_leastUpper t_leastLower t_mostUpper t_mostLower t_times t_lows t_highs t_firsts t_lengths t_uppers t_lowers t_middles) s.heap.size = A at hD ⊢
  have hA : ∀ q : Nat, s.heap.size ≤ q → A q := fun q h => by rw [← hAe]; exact Or.inr h
  have hl := lv_entry ([.ref q_t]) (n := 4) (Nat.le_of_ble_eq_true rfl)
  rw [lg_entry_eq]
  generalize (lg_sl ([.ref q_t]) ++ List.replicate (4 - (lg_sl ([.ref q_t])).length) Slot.unset).toArray = ls at hl ⊢
  have hl : lv_has ls 4 [(0, .ref q_t)] := hl
  have C0 : Cx RX1 cX1_lay 4 none wsX1_lay D ct A p s m ([.ref q_t]).toArray meth c := ⟨hx, hb, hml, hown, hts, hr, hlocks, hE, hA⟩
  have hS : ∀ H : Heap, s.heap = H → va_S A s.heap H [] := fun H h => h ▸ va_S.rf
  generalize hH : s.heap = H at hP ⊢
  have hS := hS H hH
  unfold FX1_lay at hF
  refine lv_iconst (v := 0) hx hb dX1_lay_0 (by decide) ?_
  refine lv_istore_n (lv' := [(1, .int 0), (0, .ref q_t)]) hx hb dX1_lay_1 rfl hl (by decide) rfl (fun ls hl => ?_)
  refine lv_iconst (v := 0) hx hb dX1_lay_2 (by decide) ?_
  refine lv_istore_n (lv' := [(2, .int 0), (1, .int 0), (0, .ref q_t)]) hx hb dX1_lay_3 rfl hl (by decide) rfl (fun ls hl => ?_)
  exact lX1_lay_4 C0 n t_size t_leastUpper t_leastLower t_mostUpper t_mostLower t_firsts t_lengths t_uppers t_lowers t_middles 0 0 _ _ _ hF hP hD hS (lv_sub hl [2, 1, 0] rfl)
def W_15 (ct : Nat → ClassId) (a0 a1 a2 a3 a4 a5 a6 a7 a8 : Nat) (v0 : Int32) (v1 : Int32) (v2 : Int64) (v3 : Int64) (v4 : Int64) (v5 : Int64) (v6 : Nat → Int32) (v7 : Nat → Int32) (v8 : Nat → Int32) (v9 : Nat → Int32) : va_W := [(a0, .inr (1, [.ref a1, .ref a2, .ref a3, .int v0, .ref a4, .ref a5, .ref a6, .ref a7, .ref a8, .int v1, .long v2, .long v3, .long v4, .long v5])), (a4, .inl (ct 0, 20, .inl v6)), (a5, .inl (ct 0, 20, .inl v7)), (a6, .inl (ct 0, 20, .inl v8)), (a7, .inl (ct 0, 20, .inl v9))]
/-! NeedleHouse$Pieces.tell(II)I -/
theorem i_X1_tell_X1 : ∀ w ∈ wsX10, w ∈ wsX1_tell := by decide +kernel
set_option maxHeartbeats 4000000 in
set_option maxRecDepth 100000 in
theorem met_X1_tell (l : Launch) (D : va_G) (ct : Nat → ClassId) (q_t : Nat) (q_t_times : Nat) (q_t_lows : Nat) (q_t_highs : Nat) (q_t_firsts : Nat) (q_t_lengths : Nat) (q_t_uppers : Nat) (q_t_lowers : Nat) (q_t_middles : Nat) (sz : Nat) (t_points : Int32) (t_size : Int32) (t_leastUpper : Int64) (t_leastLower : Int64) (t_mostUpper : Int64) (t_mostLower : Int64) (t_firsts : Nat → Int32) (t_lengths : Nat → Int32) (t_uppers : Nat → Int32) (t_lowers : Nat → Int32) (p1 : Int32) (p2 : Int32) (n : Nat) (o_r : Int32) (hF : FX1_tell n t_size t_firsts t_lengths t_uppers t_lowers p1 p2 = some (o_r)) : Met l yX1_tell wsX1_tell ({ frames := 0, cells := 0, slots := 0, locals := 0 } : Room) (va_Pc [.ref q_t, .int p1, .int p2] (pre_ D ct sz (W_15 ct q_t q_t_times q_t_lows q_t_highs q_t_firsts q_t_lengths q_t_uppers q_t_lowers q_t_middles t_points t_size t_leastUpper t_leastLower t_mostUpper t_mostLower t_firsts t_lengths t_uppers t_lowers))) (va_Qi (fun r (_ : Unit) => r = o_r) (fun _ t => va_P D vwCl (W_15 ct q_t q_t_times q_t_lows q_t_highs q_t_firsts q_t_lengths q_t_uppers q_t_lowers q_t_middles t_points t_size t_leastUpper t_leastLower t_mostUpper t_mostLower t_firsts t_lengths t_uppers t_lowers) t.heap) (va_A (W_15 ct q_t q_t_times q_t_lows q_t_highs q_t_firsts q_t_lengths q_t_uppers q_t_lowers q_t_middles t_points t_size t_leastUpper t_leastLower t_mostUpper t_mostLower t_firsts t_lengths t_uppers t_lowers) sz)) 0 0 (va_A (W_15 ct q_t q_t_times q_t_lows q_t_highs q_t_firsts q_t_lengths q_t_uppers q_t_lowers q_t_middles t_points t_size t_leastUpper t_leastLower t_mostUpper t_mostLower t_firsts t_lengths t_uppers t_lowers) sz) := by
  refine Met.ofW (cc := cX1_tell) (maxL := 3) (ret := (some .int)) (by decide) rfl ?_
  intro p e s m args below meth c s₁ B hml hv
  obtain ⟨rfl, hsz, hP, hE, hD0⟩ := hv
  have hx := B.exec
  have hb := B.bytes
  have hr := B.returns
  have hts := atoms_spec (ws := wsX1_tell) B.pre
  have hown : s.vm.findClass RX1 = some m.cls := findClass_of_methodNamed B.named
  have hlocks := B.notSynchronized
  subst hsz
  have hD := hD0.self (sz := s.heap.size)
  generalize hAe : va_A (W_15 ct q_t q_t_times q_t_lows q_t_highs q_t_firsts q_t_lengths q_t_uppers q_t_lowers q_t_middles t_points t_size t_leastUpper t_leastLower t_mostUpper t_mostLower t_firsts t_lengths t_uppers t_lowers) s.heap.size = A at hD ⊢
  have hA : ∀ q : Nat, s.heap.size ≤ q → A q := fun q h => by rw [← hAe]; exact Or.inr h
  have hl := lv_entry ([.ref q_t, .int p1, .int p2]) (n := 3) (Nat.le_of_ble_eq_true rfl)
  rw [lg_entry_eq]
  generalize (lg_sl ([.ref q_t, .int p1, .int p2]) ++ List.replicate (3 - (lg_sl ([.ref q_t, .int p1, .int p2])).length) Slot.unset).toArray = ls at hl ⊢
  have hl : lv_has ls 3 [(0, .ref q_t), (1, .int p1), (2, .int p2)] := hl
  have C0 : Cx RX1 cX1_tell 3 (some .int) wsX1_tell D ct A p s m ([.ref q_t, .int p1, .int p2]).toArray meth c := ⟨hx, hb, hml, hown, hts, hr, hlocks, hE, hA⟩
  have hS : ∀ H : Heap, s.heap = H → va_S A s.heap H [] := fun H h => h ▸ va_S.rf
  generalize hH : s.heap = H at hP ⊢
  have hS := hS H hH
  unfold FX1_tell at hF
  refine lv_iload_n hx hb dX1_tell_0 rfl (lv_at hl 1 rfl) ?_
  refine lv_if_lt (tgt := 12) hx hb dX1_tell_1 (by decide) (fun c1 => ?_) (fun c1 => ?_)
  · have hF := ifT c1 hF
    refine lv_ldc hx hb hown (hts (.constant RX1 85 (-2000000000)) (by decide +kernel)) dX1_tell_12 ?_
    obtain rfl := Option.some.inj hF
    exact W.iret hx hb hr (fun t ht hW => ⟨⟨_, (), rfl, rfl, vaP_at ht hP⟩, hS.F ht⟩) hS.2.2 dX1_tell_14
  · have hF := ifF c1 hF
    refine lv_iload_n hx hb dX1_tell_4 rfl (lv_at hl 1 rfl) ?_
    refine lv_aload_n hx hb dX1_tell_5 rfl (lv_at hl 0 rfl) ?_
    refine va_get (D := D) (ci := 1) (v := .int t_size) (C := RX1) (T := TX1) (N := 14) hx hb hts i_X1_tell_X1 hown hE.1 hP 0 rfl rfl 9 (by decide) (hts (.fieldLink RX1 41 "NeedleHouse$Pieces" "size" "I") (by decide +kernel)) (fun _ h9 => h9) rfl dX1_tell_6 ?_
    refine lv_icmp_lt (tgt := 15) hx hb dX1_tell_9 (by decide) (fun c2 => ?_) (fun c2 => ?_)
    · have hF := ifT c2 hF
      refine lv_iload_n hx hb dX1_tell_15 rfl (lv_at hl 2 rfl) ?_
      by_cases c3 : p2 = 0
      · have hF := ifT c3 hF
        refine lv_tableIn (off := 32) (tgt := 48) hx hb dX1_tell_16 (by rw [c3]; decide) (by rw [c3]; decide) (by rw [c3]; decide) (by decide) ?_
        refine lv_aload_n hx hb dX1_tell_48 rfl (lv_at hl 0 rfl) ?_
        refine va_get (D := D) (ci := 1) (v := .ref q_t_firsts) (C := RX1) (T := TX1) (N := 14) hx hb hts i_X1_tell_X1 hown hE.1 hP 0 rfl rfl 4 (by decide) (hts (.fieldLink RX1 21 "NeedleHouse$Pieces" "firsts" "[I") (by decide +kernel)) (fun _ h9 => h9) rfl dX1_tell_49 ?_
        refine lv_iload_n hx hb dX1_tell_52 rfl (lv_at hl 1 rfl) ?_
        obtain ⟨h4, hF⟩ := gd_ex hF
        refine va_iald hx hb hE.1 hP 1 0 rfl rfl h4 dX1_tell_53 ?_
        obtain rfl := Option.some.inj hF
        exact W.iret hx hb hr (fun t ht hW => ⟨⟨_, (), rfl, rfl, vaP_at ht hP⟩, hS.F ht⟩) hS.2.2 dX1_tell_54
      have hF := ifF c3 hF
      by_cases c5 : p2 = 1
      · have hF := ifT c5 hF
        refine lv_tableIn (off := 39) (tgt := 55) hx hb dX1_tell_16 (by rw [c5]; decide) (by rw [c5]; decide) (by rw [c5]; decide) (by decide) ?_
        refine lv_aload_n hx hb dX1_tell_55 rfl (lv_at hl 0 rfl) ?_
        refine va_get (D := D) (ci := 1) (v := .ref q_t_lengths) (C := RX1) (T := TX1) (N := 14) hx hb hts i_X1_tell_X1 hown hE.1 hP 0 rfl rfl 5 (by decide) (hts (.fieldLink RX1 24 "NeedleHouse$Pieces" "lengths" "[I") (by decide +kernel)) (fun _ h9 => h9) rfl dX1_tell_56 ?_
        refine lv_iload_n hx hb dX1_tell_59 rfl (lv_at hl 1 rfl) ?_
        obtain ⟨h6, hF⟩ := gd_ex hF
        refine va_iald hx hb hE.1 hP 2 0 rfl rfl h6 dX1_tell_60 ?_
        obtain rfl := Option.some.inj hF
        exact W.iret hx hb hr (fun t ht hW => ⟨⟨_, (), rfl, rfl, vaP_at ht hP⟩, hS.F ht⟩) hS.2.2 dX1_tell_61
      have hF := ifF c5 hF
      by_cases c7 : p2 = 2
      · have hF := ifT c7 hF
        refine lv_tableIn (off := 46) (tgt := 62) hx hb dX1_tell_16 (by rw [c7]; decide) (by rw [c7]; decide) (by rw [c7]; decide) (by decide) ?_
        refine lv_aload_n hx hb dX1_tell_62 rfl (lv_at hl 0 rfl) ?_
        refine va_get (D := D) (ci := 1) (v := .ref q_t_uppers) (C := RX1) (T := TX1) (N := 14) hx hb hts i_X1_tell_X1 hown hE.1 hP 0 rfl rfl 6 (by decide) (hts (.fieldLink RX1 27 "NeedleHouse$Pieces" "uppers" "[I") (by decide +kernel)) (fun _ h9 => h9) rfl dX1_tell_63 ?_
        refine lv_iload_n hx hb dX1_tell_66 rfl (lv_at hl 1 rfl) ?_
        obtain ⟨h8, hF⟩ := gd_ex hF
        refine va_iald hx hb hE.1 hP 3 0 rfl rfl h8 dX1_tell_67 ?_
        obtain rfl := Option.some.inj hF
        exact W.iret hx hb hr (fun t ht hW => ⟨⟨_, (), rfl, rfl, vaP_at ht hP⟩, hS.F ht⟩) hS.2.2 dX1_tell_68
      have hF := ifF c7 hF
      by_cases c9 : p2 = 3
      · have hF := ifT c9 hF
        refine lv_tableIn (off := 53) (tgt := 69) hx hb dX1_tell_16 (by rw [c9]; decide) (by rw [c9]; decide) (by rw [c9]; decide) (by decide) ?_
        refine lv_aload_n hx hb dX1_tell_69 rfl (lv_at hl 0 rfl) ?_
        refine va_get (D := D) (ci := 1) (v := .ref q_t_lowers) (C := RX1) (T := TX1) (N := 14) hx hb hts i_X1_tell_X1 hown hE.1 hP 0 rfl rfl 7 (by decide) (hts (.fieldLink RX1 30 "NeedleHouse$Pieces" "lowers" "[I") (by decide +kernel)) (fun _ h9 => h9) rfl dX1_tell_70 ?_
        refine lv_iload_n hx hb dX1_tell_73 rfl (lv_at hl 1 rfl) ?_
        obtain ⟨h10, hF⟩ := gd_ex hF
        refine va_iald hx hb hE.1 hP 4 0 rfl rfl h10 dX1_tell_74 ?_
        obtain rfl := Option.some.inj hF
        exact W.iret hx hb hr (fun t ht hW => ⟨⟨_, (), rfl, rfl, vaP_at ht hP⟩, hS.F ht⟩) hS.2.2 dX1_tell_75
      have hF := ifF c9 hF
      refine lv_tableOut (tgt := 76) hx hb dX1_tell_16 (tsw4 c3 c5 c7 c9) (by decide) ?_
      refine lv_ldc hx hb hown (hts (.constant RX1 85 (-2000000000)) (by decide +kernel)) dX1_tell_76 ?_
      obtain rfl := Option.some.inj hF
      exact W.iret hx hb hr (fun t ht hW => ⟨⟨_, (), rfl, rfl, vaP_at ht hP⟩, hS.F ht⟩) hS.2.2 dX1_tell_78
    · have hF := ifF c2 hF
      refine lv_ldc hx hb hown (hts (.constant RX1 85 (-2000000000)) (by decide +kernel)) dX1_tell_12 ?_
      obtain rfl := Option.some.inj hF
      exact W.iret hx hb hr (fun t ht hW => ⟨⟨_, (), rfl, rfl, vaP_at ht hP⟩, hS.F ht⟩) hS.2.2 dX1_tell_14
def W_16 (ct : Nat → ClassId) (a0 a1 a2 a3 a4 a5 a6 a7 a8 : Nat) (v0 : Int32) (v1 : Int32) (v2 : Int64) (v3 : Int64) (v4 : Int64) (v5 : Int64) (v6 : Nat → Int32) (v7 : Nat → Int32) (v8 : Nat → Int32) (v9 : Nat → Int64) : va_W := [(a0, .inr (1, [.ref a1, .ref a2, .ref a3, .int v0, .ref a4, .ref a5, .ref a6, .ref a7, .ref a8, .int v1, .long v2, .long v3, .long v4, .long v5])), (a4, .inl (ct 0, 20, .inl v6)), (a6, .inl (ct 0, 20, .inl v7)), (a7, .inl (ct 0, 20, .inl v8)), (a8, .inl (ct 1, 20, .inr (.inl v9)))]
/-! NeedleHouse$Pieces.height(I)I -/
theorem i_X1_height_X1 : ∀ w ∈ wsX10, w ∈ wsX1_height := by decide +kernel
set_option maxHeartbeats 4000000 in
set_option maxRecDepth 100000 in
theorem jX1_height_51 {p : Program} {l : Launch} {e : Env} {s : State} {m : MethodId} {args : Array Value} {below : List Frame} {meth : Method} {c : Code} {D : va_G} {ct : Nat → ClassId} {A : Nat → Prop} {q_t q_t_times q_t_lows q_t_highs q_t_firsts q_t_lengths q_t_uppers q_t_lowers q_t_middles : Nat} {t_points : Int32} {t_size : Int32} {t_leastUpper : Int64} {t_leastLower : Int64} {t_mostUpper : Int64} {t_mostLower : Int64} {t_firsts : Nat → Int32} {t_uppers : Nat → Int32} {t_lowers : Nat → Int32} {t_middles : Nat → Int64} {o_r : Int32} (C0 : Cx RX1 cX1_height 3 (some .int) wsX1_height D ct A p s m args meth c) (n : Nat) (x_1 : Int32) (x_2 : Int32) (H : Heap) (locs : List Loc) (ls : Array Slot) : JX1_height_51 n t_size t_firsts t_uppers t_lowers t_middles x_1 x_2 = some (o_r) → va_P D vwCl (W_16 ct q_t q_t_times q_t_lows q_t_highs q_t_firsts q_t_lengths q_t_uppers q_t_lowers q_t_middles t_points t_size t_leastUpper t_leastLower t_mostUpper t_mostLower t_firsts t_uppers t_lowers t_middles) H → va_D A (W_16 ct q_t q_t_times q_t_lows q_t_highs q_t_firsts q_t_lengths q_t_uppers q_t_lowers q_t_middles t_points t_size t_leastUpper t_leastLower t_mostUpper t_mostLower t_firsts t_uppers t_lowers t_middles) → va_S A s.heap H locs → lv_has ls 3 [(0, .ref q_t), (1, .int x_1), (2, .int x_2)] → W p l e ({ frames := 1, cells := 0, slots := 0, locals := 25 } : Room) s m args below meth c H locs 0 0 (MQ below (va_Qi (fun r (_ : Unit) => r = o_r) (fun _ t => va_P D vwCl (W_16 ct q_t q_t_times q_t_lows q_t_highs q_t_firsts q_t_lengths q_t_uppers q_t_lowers q_t_middles t_points t_size t_leastUpper t_leastLower t_mostUpper t_mostLower t_firsts t_uppers t_lowers t_middles) t.heap) A) args s 0 0 A) (F0 m 51 ls []) := by
  intro hF hP hD hS hl
  obtain ⟨hx, hb, hml, hown, hts, hr, hlocks, hE, hA⟩ := id C0
  unfold JX1_height_51 at hF
  refine lv_aload_n hx hb dX1_height_51 rfl (lv_at hl 0 rfl) ?_
  refine va_get (D := D) (ci := 1) (v := .ref q_t_lowers) (C := RX1) (T := TX1) (N := 14) hx hb hts i_X1_height_X1 hown hE.1 hP 0 rfl rfl 7 (by decide) (hts (.fieldLink RX1 30 "NeedleHouse$Pieces" "lowers" "[I") (by decide +kernel)) (fun _ h9 => h9) rfl dX1_height_52 ?_
  refine lv_iload_n hx hb dX1_height_55 rfl (lv_at hl 2 rfl) ?_
  obtain ⟨h8, hF⟩ := gd_ex hF
  refine va_iald hx hb hE.1 hP 3 0 rfl rfl h8 dX1_height_56 ?_
  refine lv_iconst (v := 1) hx hb dX1_height_57 (by decide) ?_
  refine lv_icmp_ge (tgt := 64) hx hb dX1_height_58 (by decide) (fun c9 => ?_) (fun c9 => ?_)
  · have hF := ifT c9 hF
    refine lv_ldc2 hx hb hown (hts (.constantLong RX1 86 2) (by decide +kernel)) dX1_height_64 ?_
    refine lv_aload_n hx hb dX1_height_67 rfl (lv_at hl 0 rfl) ?_
    refine va_get (D := D) (ci := 1) (v := .ref q_t_uppers) (C := RX1) (T := TX1) (N := 14) hx hb hts i_X1_height_X1 hown hE.1 hP 0 rfl rfl 6 (by decide) (hts (.fieldLink RX1 27 "NeedleHouse$Pieces" "uppers" "[I") (by decide +kernel)) (fun _ h9 => h9) rfl dX1_height_68 ?_
    refine lv_iload_n hx hb dX1_height_71 rfl (lv_at hl 2 rfl) ?_
    obtain ⟨h10, hF⟩ := gd_ex hF
    refine va_iald hx hb hE.1 hP 2 0 rfl rfl h10 dX1_height_72 ?_
    refine lv_i2l hx hb dX1_height_73 rfl ?_
    refine lv_lmul hx hb dX1_height_74 ?_
    refine lv_iload_n hx hb dX1_height_75 rfl (lv_at hl 1 rfl) ?_
    refine lv_i2l hx hb dX1_height_76 rfl ?_
    refine lv_lmul hx hb dX1_height_77 ?_
    refine lv_aload_n hx hb dX1_height_78 rfl (lv_at hl 0 rfl) ?_
    refine va_get (D := D) (ci := 1) (v := .ref q_t_middles) (C := RX1) (T := TX1) (N := 14) hx hb hts i_X1_height_X1 hown hE.1 hP 0 rfl rfl 8 (by decide) (hts (.fieldLink RX1 33 "NeedleHouse$Pieces" "middles" "[J") (by decide +kernel)) (fun _ h9 => h9) rfl dX1_height_79 ?_
    refine lv_iload_n hx hb dX1_height_82 rfl (lv_at hl 2 rfl) ?_
    obtain ⟨h11, hF⟩ := gd_ex hF
    refine va_lald hx hb hE.1 hP 4 1 rfl rfl h11 dX1_height_83 ?_
    refine lv_ladd hx hb dX1_height_84 ?_
    refine lv_ldc2 hx hb hown (hts (.constantLong RX1 86 2) (by decide +kernel)) dX1_height_85 ?_
    refine lv_aload_n hx hb dX1_height_88 rfl (lv_at hl 0 rfl) ?_
    refine va_get (D := D) (ci := 1) (v := .ref q_t_lowers) (C := RX1) (T := TX1) (N := 14) hx hb hts i_X1_height_X1 hown hE.1 hP 0 rfl rfl 7 (by decide) (hts (.fieldLink RX1 30 "NeedleHouse$Pieces" "lowers" "[I") (by decide +kernel)) (fun _ h9 => h9) rfl dX1_height_89 ?_
    refine lv_iload_n hx hb dX1_height_92 rfl (lv_at hl 2 rfl) ?_
    obtain ⟨h12, hF⟩ := gd_ex hF
    refine va_iald hx hb hE.1 hP 3 0 rfl rfl h12 dX1_height_93 ?_
    refine lv_i2l hx hb dX1_height_94 rfl ?_
    refine lv_lmul hx hb dX1_height_95 ?_
    obtain ⟨r13, h14, hF⟩ := ob1_ex hF
    refine xlR (va_runS (As := [.long (((2 * ((t_uppers (x_2).toNatClampNeg : Int32).toInt64)) * ((x_1 : Int32).toInt64)) + (t_middles (x_2).toNatClampNeg)), .long (2 * ((t_lowers (x_2).toNatClampNeg : Int32).toInt64))]) (rest := []) ⟨hx, hb, hml, hown, hts⟩ (met_J9_floorDiv_f86c9 l D ct H.size (((2 * ((t_uppers (x_2).toNatClampNeg : Int32).toInt64)) * ((x_1 : Int32).toInt64)) + (t_middles (x_2).toNatClampNeg)) (2 * ((t_lowers (x_2).toNatClampNeg : Int32).toInt64)) n r13 h14) (va_cwS 2 hts gX1_height_J9_floorDiv_f86c9 rfl rfl rfl (by decide +kernel) ⟨Nat.le_of_ble_eq_true rfl, Nat.le_of_ble_eq_true rfl⟩) ⟨blind_, mkpre_ hE (hP.sub [] rfl) (hD.sub [] (by decide) rfl)⟩ rfl rfl hl.1 rfl (lv_room (Nat.le_of_ble_eq_true rfl)) dX1_height_96 ⟨Nat.le_of_ble_eq_true rfl, Nat.le_of_ble_eq_true rfl⟩) hP hD hS hA [] rfl (fun H locs hP hD hS => ?_)
    refine lv_l2i hx hb dX1_height_99 rfl ?_
    obtain rfl := Option.some.inj hF
    exact W.iret hx hb hr (fun t ht hW => ⟨⟨_, (), rfl, rfl, vaP_at ht hP⟩, hS.F ht⟩) hS.2.2 dX1_height_100
  · have hF := ifF c9 hF
    refine lv_ldc hx hb hown (hts (.constant RX1 85 (-2000000000)) (by decide +kernel)) dX1_height_61 ?_
    obtain rfl := Option.some.inj hF
    exact W.iret hx hb hr (fun t ht hW => ⟨⟨_, (), rfl, rfl, vaP_at ht hP⟩, hS.F ht⟩) hS.2.2 dX1_height_63
set_option maxHeartbeats 4000000 in
set_option maxRecDepth 100000 in
theorem jX1_height_23 {p : Program} {l : Launch} {e : Env} {s : State} {m : MethodId} {args : Array Value} {below : List Frame} {meth : Method} {c : Code} {D : va_G} {ct : Nat → ClassId} {A : Nat → Prop} {q_t q_t_times q_t_lows q_t_highs q_t_firsts q_t_lengths q_t_uppers q_t_lowers q_t_middles : Nat} {t_points : Int32} {t_size : Int32} {t_leastUpper : Int64} {t_leastLower : Int64} {t_mostUpper : Int64} {t_mostLower : Int64} {t_firsts : Nat → Int32} {t_uppers : Nat → Int32} {t_lowers : Nat → Int32} {t_middles : Nat → Int64} {o_r : Int32} (C0 : Cx RX1 cX1_height 3 (some .int) wsX1_height D ct A p s m args meth c) (k23 : Int32 → (Nat → Int32) → (Nat → Int32) → (Nat → Int32) → (Nat → Int64) → Int32 → Int32 → Option (Int32)) (hk23 : ∀ (x_1 : Int32) (x_2 : Int32) (H : Heap) (locs : List Loc) (ls : Array Slot), k23 t_size t_firsts t_uppers t_lowers t_middles x_1 x_2 = some (o_r) → va_P D vwCl (W_16 ct q_t q_t_times q_t_lows q_t_highs q_t_firsts q_t_lengths q_t_uppers q_t_lowers q_t_middles t_points t_size t_leastUpper t_leastLower t_mostUpper t_mostLower t_firsts t_uppers t_lowers t_middles) H → va_D A (W_16 ct q_t q_t_times q_t_lows q_t_highs q_t_firsts q_t_lengths q_t_uppers q_t_lowers q_t_middles t_points t_size t_leastUpper t_leastLower t_mostUpper t_mostLower t_firsts t_uppers t_lowers t_middles) → va_S A s.heap H locs → lv_has ls 3 [(0, .ref q_t), (1, .int x_1), (2, .int x_2)] → W p l e ({ frames := 1, cells := 0, slots := 0, locals := 25 } : Room) s m args below meth c H locs 0 0 (MQ below (va_Qi (fun r (_ : Unit) => r = o_r) (fun _ t => va_P D vwCl (W_16 ct q_t q_t_times q_t_lows q_t_highs q_t_firsts q_t_lengths q_t_uppers q_t_lowers q_t_middles t_points t_size t_leastUpper t_leastLower t_mostUpper t_mostLower t_firsts t_uppers t_lowers t_middles) t.heap) A) args s 0 0 A) (F0 m 23 ls [])) (n : Nat) (x_1 : Int32) (x_2 : Int32) (H : Heap) (locs : List Loc) (ls : Array Slot) : JX1_height_23 k23 n t_size t_firsts t_uppers t_lowers t_middles x_1 x_2 = some (o_r) → va_P D vwCl (W_16 ct q_t q_t_times q_t_lows q_t_highs q_t_firsts q_t_lengths q_t_uppers q_t_lowers q_t_middles t_points t_size t_leastUpper t_leastLower t_mostUpper t_mostLower t_firsts t_uppers t_lowers t_middles) H → va_D A (W_16 ct q_t q_t_times q_t_lows q_t_highs q_t_firsts q_t_lengths q_t_uppers q_t_lowers q_t_middles t_points t_size t_leastUpper t_leastLower t_mostUpper t_mostLower t_firsts t_uppers t_lowers t_middles) → va_S A s.heap H locs → lv_has ls 3 [(0, .ref q_t), (1, .int x_1), (2, .int x_2)] → W p l e ({ frames := 1, cells := 0, slots := 0, locals := 25 } : Room) s m args below meth c H locs 0 0 (MQ below (va_Qi (fun r (_ : Unit) => r = o_r) (fun _ t => va_P D vwCl (W_16 ct q_t q_t_times q_t_lows q_t_highs q_t_firsts q_t_lengths q_t_uppers q_t_lowers q_t_middles t_points t_size t_leastUpper t_leastLower t_mostUpper t_mostLower t_firsts t_uppers t_lowers t_middles) t.heap) A) args s 0 0 A) (F0 m 23 ls []) := by
  intro hF hP hD hS hl
  obtain ⟨hx, hb, hml, hown, hts, hr, hlocks, hE, hA⟩ := id C0
  unfold JX1_height_23 at hF
  refine lv_iload_n hx hb dX1_height_23 rfl (lv_at hl 2 rfl) ?_
  refine lv_iconst (v := 1) hx hb dX1_height_24 (by decide) ?_
  refine lv_iadd hx hb dX1_height_25 ?_
  refine lv_aload_n hx hb dX1_height_26 rfl (lv_at hl 0 rfl) ?_
  refine va_get (D := D) (ci := 1) (v := .int t_size) (C := RX1) (T := TX1) (N := 14) hx hb hts i_X1_height_X1 hown hE.1 hP 0 rfl rfl 9 (by decide) (hts (.fieldLink RX1 41 "NeedleHouse$Pieces" "size" "I") (by decide +kernel)) (fun _ h9 => h9) rfl dX1_height_27 ?_
  refine lv_icmp_ge (tgt := 51) hx hb dX1_height_30 (by decide) (fun c4 => ?_) (fun c4 => ?_)
  · have hF := ifT c4 hF
    exact jX1_height_51 C0 n x_1 x_2 _ _ _ hF hP hD hS (lv_sub hl [0, 1, 2] rfl)
  · have hF := ifF c4 hF
    refine lv_aload_n hx hb dX1_height_33 rfl (lv_at hl 0 rfl) ?_
    refine va_get (D := D) (ci := 1) (v := .ref q_t_firsts) (C := RX1) (T := TX1) (N := 14) hx hb hts i_X1_height_X1 hown hE.1 hP 0 rfl rfl 4 (by decide) (hts (.fieldLink RX1 21 "NeedleHouse$Pieces" "firsts" "[I") (by decide +kernel)) (fun _ h9 => h9) rfl dX1_height_34 ?_
    refine lv_iload_n hx hb dX1_height_37 rfl (lv_at hl 2 rfl) ?_
    refine lv_iconst (v := 1) hx hb dX1_height_38 (by decide) ?_
    refine lv_iadd hx hb dX1_height_39 ?_
    obtain ⟨h5, hF⟩ := gd_ex hF
    refine va_iald hx hb hE.1 hP 1 0 rfl rfl h5 dX1_height_40 ?_
    refine lv_iload_n hx hb dX1_height_41 rfl (lv_at hl 1 rfl) ?_
    refine lv_icmp_gt (tgt := 51) hx hb dX1_height_42 (by decide) (fun c6 => ?_) (fun c6 => ?_)
    · have hF := ifT c6 hF
      exact jX1_height_51 C0 n x_1 x_2 _ _ _ hF hP hD hS (lv_sub hl [0, 1, 2] rfl)
    · have hF := ifF c6 hF
      obtain ⟨x7, ex7⟩ : ∃ y : Int32, y = x_2 + 1 := ⟨_, rfl⟩
      refine lv_iinc (v := x7) (lv' := [(2, .int x7), (0, .ref q_t), (1, .int x_1)]) hx hb dX1_height_45 hl (k := 2) rfl (by rw [ex7]; rfl) (by decide) rfl (fun ls hl => ?_)
      have hF := bn_as ex7 hF
      refine lv_goto (tgt := 23) hx hb dX1_height_48 (by decide) ?_
      exact hk23 x_1 x7 _ _ _ hF hP hD hS (lv_sub hl [1, 2, 0] rfl)
theorem lX1_height_23 {p : Program} {l : Launch} {e : Env} {s : State} {m : MethodId} {args : Array Value} {below : List Frame} {meth : Method} {c : Code} {D : va_G} {ct : Nat → ClassId} {A : Nat → Prop} {q_t q_t_times q_t_lows q_t_highs q_t_firsts q_t_lengths q_t_uppers q_t_lowers q_t_middles : Nat} {t_points : Int32} {t_size : Int32} {t_leastUpper : Int64} {t_leastLower : Int64} {t_mostUpper : Int64} {t_mostLower : Int64} {t_firsts : Nat → Int32} {t_uppers : Nat → Int32} {t_lowers : Nat → Int32} {t_middles : Nat → Int64} {o_r : Int32} (C0 : Cx RX1 cX1_height 3 (some .int) wsX1_height D ct A p s m args meth c) : ∀ (n : Nat) (x_1 : Int32) (x_2 : Int32) (H : Heap) (locs : List Loc) (ls : Array Slot), LX1_height_23 n t_size t_firsts t_uppers t_lowers t_middles x_1 x_2 = some (o_r) → va_P D vwCl (W_16 ct q_t q_t_times q_t_lows q_t_highs q_t_firsts q_t_lengths q_t_uppers q_t_lowers q_t_middles t_points t_size t_leastUpper t_leastLower t_mostUpper t_mostLower t_firsts t_uppers t_lowers t_middles) H → va_D A (W_16 ct q_t q_t_times q_t_lows q_t_highs q_t_firsts q_t_lengths q_t_uppers q_t_lowers q_t_middles t_points t_size t_leastUpper t_leastLower t_mostUpper t_mostLower t_firsts t_uppers t_lowers t_middles) → va_S A s.heap H locs → lv_has ls 3 [(0, .ref q_t), (1, .int x_1), (2, .int x_2)] → W p l e ({ frames := 1, cells := 0, slots := 0, locals := 25 } : Room) s m args below meth c H locs 0 0 (MQ below (va_Qi (fun r (_ : Unit) => r = o_r) (fun _ t => va_P D vwCl (W_16 ct q_t q_t_times q_t_lows q_t_highs q_t_firsts q_t_lengths q_t_uppers q_t_lowers q_t_middles t_points t_size t_leastUpper t_leastLower t_mostUpper t_mostLower t_firsts t_uppers t_lowers t_middles) t.heap) A) args s 0 0 A) (F0 m 23 ls []) := by
  intro n
  induction n with
  | zero => intro x_1 x_2 H locs ls hF; exact nomatch (show (none : Option (Int32)) = _ from hF)
  | succ n ih => intro x_1 x_2 H locs ls hF; exact jX1_height_23 C0 (LX1_height_23 n) ih n x_1 x_2 H locs ls hF
set_option maxHeartbeats 4000000 in
set_option maxRecDepth 100000 in
theorem met_X1_height (l : Launch) (D : va_G) (ct : Nat → ClassId) (q_t : Nat) (q_t_times : Nat) (q_t_lows : Nat) (q_t_highs : Nat) (q_t_firsts : Nat) (q_t_lengths : Nat) (q_t_uppers : Nat) (q_t_lowers : Nat) (q_t_middles : Nat) (sz : Nat) (t_points : Int32) (t_size : Int32) (t_leastUpper : Int64) (t_leastLower : Int64) (t_mostUpper : Int64) (t_mostLower : Int64) (t_firsts : Nat → Int32) (t_uppers : Nat → Int32) (t_lowers : Nat → Int32) (t_middles : Nat → Int64) (p1 : Int32) (n : Nat) (o_r : Int32) (hF : FX1_height n t_size t_firsts t_uppers t_lowers t_middles p1 = some (o_r)) : Met l yX1_height wsX1_height ({ frames := 1, cells := 0, slots := 0, locals := 25 } : Room) (va_Pc [.ref q_t, .int p1] (pre_ D ct sz (W_16 ct q_t q_t_times q_t_lows q_t_highs q_t_firsts q_t_lengths q_t_uppers q_t_lowers q_t_middles t_points t_size t_leastUpper t_leastLower t_mostUpper t_mostLower t_firsts t_uppers t_lowers t_middles))) (va_Qi (fun r (_ : Unit) => r = o_r) (fun _ t => va_P D vwCl (W_16 ct q_t q_t_times q_t_lows q_t_highs q_t_firsts q_t_lengths q_t_uppers q_t_lowers q_t_middles t_points t_size t_leastUpper t_leastLower t_mostUpper t_mostLower t_firsts t_uppers t_lowers t_middles) t.heap) (va_A (W_16 ct q_t q_t_times q_t_lows q_t_highs q_t_firsts q_t_lengths q_t_uppers q_t_lowers q_t_middles t_points t_size t_leastUpper t_leastLower t_mostUpper t_mostLower t_firsts t_uppers t_lowers t_middles) sz)) 0 0 (va_A (W_16 ct q_t q_t_times q_t_lows q_t_highs q_t_firsts q_t_lengths q_t_uppers q_t_lowers q_t_middles t_points t_size t_leastUpper t_leastLower t_mostUpper t_mostLower t_firsts t_uppers t_lowers t_middles) sz) := by
  refine Met.ofW (cc := cX1_height) (maxL := 3) (ret := (some .int)) (by decide) rfl ?_
  intro p e s m args below meth c s₁ B hml hv
  obtain ⟨rfl, hsz, hP, hE, hD0⟩ := hv
  have hx := B.exec
  have hb := B.bytes
  have hr := B.returns
  have hts := atoms_spec (ws := wsX1_height) B.pre
  have hown : s.vm.findClass RX1 = some m.cls := findClass_of_methodNamed B.named
  have hlocks := B.notSynchronized
  subst hsz
  have hD := hD0.self (sz := s.heap.size)
  generalize hAe : va_A (W_16 ct q_t q_t_times q_t_lows q_t_highs q_t_firsts q_t_lengths q_t_uppers q_t_lowers q_t_middles t_points t_size t_leastUpper t_leastLower t_mostUpper t_mostLower t_firsts t_uppers t_lowers t_middles) s.heap.size = A at hD ⊢
  have hA : ∀ q : Nat, s.heap.size ≤ q → A q := fun q h => by rw [← hAe]; exact Or.inr h
  have hl := lv_entry ([.ref q_t, .int p1]) (n := 3) (Nat.le_of_ble_eq_true rfl)
  rw [lg_entry_eq]
  generalize (lg_sl ([.ref q_t, .int p1]) ++ List.replicate (3 - (lg_sl ([.ref q_t, .int p1])).length) Slot.unset).toArray = ls at hl ⊢
  have hl : lv_has ls 3 [(0, .ref q_t), (1, .int p1)] := hl
  have C0 : Cx RX1 cX1_height 3 (some .int) wsX1_height D ct A p s m ([.ref q_t, .int p1]).toArray meth c := ⟨hx, hb, hml, hown, hts, hr, hlocks, hE, hA⟩
  have hS : ∀ H : Heap, s.heap = H → va_S A s.heap H [] := fun H h => h ▸ va_S.rf
  generalize hH : s.heap = H at hP ⊢
  have hS := hS H hH
  unfold FX1_height at hF
  refine lv_aload_n hx hb dX1_height_0 rfl (lv_at hl 0 rfl) ?_
  refine va_get (D := D) (ci := 1) (v := .int t_size) (C := RX1) (T := TX1) (N := 14) hx hb hts i_X1_height_X1 hown hE.1 hP 0 rfl rfl 9 (by decide) (hts (.fieldLink RX1 41 "NeedleHouse$Pieces" "size" "I") (by decide +kernel)) (fun _ h9 => h9) rfl dX1_height_1 ?_
  refine lv_if_eq (tgt := 18) hx hb dX1_height_4 (by decide) (fun c1 => ?_) (fun c1 => ?_)
  · have hF := ifT c1 hF
    refine lv_ldc hx hb hown (hts (.constant RX1 85 (-2000000000)) (by decide +kernel)) dX1_height_18 ?_
    obtain rfl := Option.some.inj hF
    exact W.iret hx hb hr (fun t ht hW => ⟨⟨_, (), rfl, rfl, vaP_at ht hP⟩, hS.F ht⟩) hS.2.2 dX1_height_20
  · have hF := ifF c1 hF
    refine lv_iload_n hx hb dX1_height_7 rfl (lv_at hl 1 rfl) ?_
    refine lv_if_lt (tgt := 18) hx hb dX1_height_8 (by decide) (fun c2 => ?_) (fun c2 => ?_)
    · have hF := ifT c2 hF
      refine lv_ldc hx hb hown (hts (.constant RX1 85 (-2000000000)) (by decide +kernel)) dX1_height_18 ?_
      obtain rfl := Option.some.inj hF
      exact W.iret hx hb hr (fun t ht hW => ⟨⟨_, (), rfl, rfl, vaP_at ht hP⟩, hS.F ht⟩) hS.2.2 dX1_height_20
    · have hF := ifF c2 hF
      refine lv_iload_n hx hb dX1_height_11 rfl (lv_at hl 1 rfl) ?_
      refine lv_sipush (v := 300) hx hb dX1_height_12 (by decide) ?_
      refine lv_icmp_lt (tgt := 21) hx hb dX1_height_15 (by decide) (fun c3 => ?_) (fun c3 => ?_)
      · have hF := ifT c3 hF
        refine lv_iconst (v := 0) hx hb dX1_height_21 (by decide) ?_
        refine lv_istore_n (lv' := [(2, .int 0), (0, .ref q_t), (1, .int p1)]) hx hb dX1_height_22 rfl hl (by decide) rfl (fun ls hl => ?_)
        exact lX1_height_23 C0 n p1 0 _ _ _ hF hP hD hS (lv_sub hl [1, 2, 0] rfl)
      · have hF := ifF c3 hF
        refine lv_ldc hx hb hown (hts (.constant RX1 85 (-2000000000)) (by decide +kernel)) dX1_height_18 ?_
        obtain rfl := Option.some.inj hF
        exact W.iret hx hb hr (fun t ht hW => ⟨⟨_, (), rfl, rfl, vaP_at ht hP⟩, hS.F ht⟩) hS.2.2 dX1_height_20
