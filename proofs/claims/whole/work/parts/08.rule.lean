def W_9 (ct : Nat → ClassId) (a0 a1 : Nat) (v0 : Int32) (v1 : Int32) (v2 : Int32) (v3 : Int32) (v4 : Int32) (v5 : Int32) (v6 : Int32) (v7 : Int32) : va_W := [(a0, .inr (3, [.int v0, .int v1, .int v2, .int v3, .int v4, .int v5, .ref a1, .int v6, .int v7]))]
/-! NeedleHouse$Rule.clearSteps()V -/
theorem i_X3_clearSteps_X3 : ∀ w ∈ wsX30, w ∈ wsX3_clearSteps := by decide +kernel
set_option maxHeartbeats 4000000 in
set_option maxRecDepth 100000 in
theorem met_X3_clearSteps (l : Launch) (D : va_G) (ct : Nat → ClassId) (q_t : Nat) (q_t_steps : Nat) (sz : Nat) (t_limit : Int32) (t_near : Int32) (t_share : Int32) (t_shareOf : Int32) (t_window : Int32) (t_storm : Int32) (t_stepCount : Int32) (t_clauses : Int32) (n : Nat) (o_t_stepCount : Int32) (hF : FX3_clearSteps n t_stepCount = some (o_t_stepCount)) : Met l yX3_clearSteps wsX3_clearSteps ({ frames := 0, cells := 0, slots := 0, locals := 0 } : Room) (va_Pc [.ref q_t] (pre_ D ct sz (W_9 ct q_t q_t_steps t_limit t_near t_share t_shareOf t_window t_storm t_stepCount t_clauses))) (va_Qv (fun (_ : Unit) => True) (fun _ t => va_P D vwCl (W_9 ct q_t q_t_steps t_limit t_near t_share t_shareOf t_window t_storm o_t_stepCount t_clauses) t.heap) (va_A (W_9 ct q_t q_t_steps t_limit t_near t_share t_shareOf t_window t_storm t_stepCount t_clauses) sz)) 0 0 (va_A (W_9 ct q_t q_t_steps t_limit t_near t_share t_shareOf t_window t_storm t_stepCount t_clauses) sz) := by
  refine Met.ofW (cc := cX3_clearSteps) (maxL := 1) (ret := none) (by decide) rfl ?_
  intro p e s m args below meth c s₁ B hml hv
  obtain ⟨rfl, hsz, hP, hE, hD0⟩ := hv
  have hx := B.exec
  have hb := B.bytes
  have hr := B.returns
  have hts := atoms_spec (ws := wsX3_clearSteps) B.pre
  have hown : s.vm.findClass RX3 = some m.cls := findClass_of_methodNamed B.named
  have hlocks := B.notSynchronized
  subst hsz
  have hD := hD0.self (sz := s.heap.size)
  generalize hAe : va_A (W_9 ct q_t q_t_steps t_limit t_near t_share t_shareOf t_window t_storm t_stepCount t_clauses) s.heap.size = A at hD ⊢
  have hA : ∀ q : Nat, s.heap.size ≤ q → A q := fun q h => by rw [← hAe]; exact Or.inr h
  have hl := lv_entry ([.ref q_t]) (n := 1) (Nat.le_of_ble_eq_true rfl)
  rw [lg_entry_eq]
  generalize (lg_sl ([.ref q_t]) ++ List.replicate (1 - (lg_sl ([.ref q_t])).length) Slot.unset).toArray = ls at hl ⊢
  have hl : lv_has ls 1 [(0, .ref q_t)] := hl
  have C0 : Cx RX3 cX3_clearSteps 1 none wsX3_clearSteps D ct A p s m ([.ref q_t]).toArray meth c := ⟨hx, hb, hml, hown, hts, hr, hlocks, hE, hA⟩
  have hS : ∀ H : Heap, s.heap = H → va_S A s.heap H [] := fun H h => h ▸ va_S.rf
  generalize hH : s.heap = H at hP ⊢
  have hS := hS H hH
  unfold FX3_clearSteps at hF
  refine lv_aload_n hx hb dX3_clearSteps_0 rfl (lv_at hl 0 rfl) ?_
  refine lv_iconst (v := 0) hx hb dX3_clearSteps_1 (by decide) ?_
  refine va_put (D := D) (ci := 3) (v := .int 0) (ty := .int) (C := RX3) (T := TX3) (N := 9) hx hb hts i_X3_clearSteps_X3 tyX3 tyX3_ok nmX3 hown hE.1 hP hD hS 0 rfl rfl 7 (by decide) (hts (.fieldLink RX3 47 "NeedleHouse$Rule" "stepCount" "I") (by decide +kernel)) (fun _ h9 => h9) rfl (by decide +kernel) rfl rfl (Nat.le_of_ble_eq_true rfl) dX3_clearSteps_2 (fun H locs hP hD hS => ?_)
  have hP : va_P D vwCl (W_9 ct q_t q_t_steps t_limit t_near t_share t_shareOf t_window t_storm 0 t_clauses) H := hP
  have hD : va_D A (W_9 ct q_t q_t_steps t_limit t_near t_share t_shareOf t_window t_storm 0 t_clauses) := hD
  obtain rfl := Option.some.inj hF
  exact W.vret hx hb hr (fun t ht hW => ⟨⟨(), rfl, trivial, vaP_at ht hP⟩, hS.F ht⟩) hS.2.2 dX3_clearSteps_5
def W_10 (ct : Nat → ClassId) (a0 a1 : Nat) (v0 : Int32) (v1 : Int32) (v2 : Int32) (v3 : Int32) (v4 : Int32) (v5 : Int32) (v6 : Int32) (v7 : Int32) (v8 : Nat → Int32) : va_W := [(a0, .inr (3, [.int v0, .int v1, .int v2, .int v3, .int v4, .int v5, .ref a1, .int v6, .int v7])), (a1, .inl (ct 0, 9, .inl v8))]
/-! NeedleHouse$Rule.addStep(I)V -/
theorem i_X3_addStep_X3 : ∀ w ∈ wsX30, w ∈ wsX3_addStep := by decide +kernel
set_option maxHeartbeats 4000000 in
set_option maxRecDepth 100000 in
theorem met_X3_addStep (l : Launch) (D : va_G) (ct : Nat → ClassId) (q_t : Nat) (q_t_steps : Nat) (sz : Nat) (t_limit : Int32) (t_near : Int32) (t_share : Int32) (t_shareOf : Int32) (t_window : Int32) (t_storm : Int32) (t_stepCount : Int32) (t_clauses : Int32) (t_steps : Nat → Int32) (p1 : Int32) (n : Nat) (o_t_stepCount : Int32) (o_t_steps : Nat → Int32) (hF : FX3_addStep n t_stepCount t_steps p1 = some (o_t_stepCount, o_t_steps)) : Met l yX3_addStep wsX3_addStep ({ frames := 0, cells := 0, slots := 0, locals := 0 } : Room) (va_Pc [.ref q_t, .int p1] (pre_ D ct sz (W_10 ct q_t q_t_steps t_limit t_near t_share t_shareOf t_window t_storm t_stepCount t_clauses t_steps))) (va_Qv (fun (_ : Unit) => True) (fun _ t => va_P D vwCl (W_10 ct q_t q_t_steps t_limit t_near t_share t_shareOf t_window t_storm o_t_stepCount t_clauses o_t_steps) t.heap) (va_A (W_10 ct q_t q_t_steps t_limit t_near t_share t_shareOf t_window t_storm t_stepCount t_clauses t_steps) sz)) 0 0 (va_A (W_10 ct q_t q_t_steps t_limit t_near t_share t_shareOf t_window t_storm t_stepCount t_clauses t_steps) sz) := by
  refine Met.ofW (cc := cX3_addStep) (maxL := 2) (ret := none) (by decide) rfl ?_
  intro p e s m args below meth c s₁ B hml hv
  obtain ⟨rfl, hsz, hP, hE, hD0⟩ := hv
  have hx := B.exec
  have hb := B.bytes
  have hr := B.returns
  have hts := atoms_spec (ws := wsX3_addStep) B.pre
  have hown : s.vm.findClass RX3 = some m.cls := findClass_of_methodNamed B.named
  have hlocks := B.notSynchronized
  subst hsz
  have hD := hD0.self (sz := s.heap.size)
  generalize hAe : va_A (W_10 ct q_t q_t_steps t_limit t_near t_share t_shareOf t_window t_storm t_stepCount t_clauses t_steps) s.heap.size = A at hD ⊢
  have hA : ∀ q : Nat, s.heap.size ≤ q → A q := fun q h => by rw [← hAe]; exact Or.inr h
  have hl := lv_entry ([.ref q_t, .int p1]) (n := 2) (Nat.le_of_ble_eq_true rfl)
  rw [lg_entry_eq]
  generalize (lg_sl ([.ref q_t, .int p1]) ++ List.replicate (2 - (lg_sl ([.ref q_t, .int p1])).length) Slot.unset).toArray = ls at hl ⊢
  have hl : lv_has ls 2 [(0, .ref q_t), (1, .int p1)] := hl
  have C0 : Cx RX3 cX3_addStep 2 none wsX3_addStep D ct A p s m ([.ref q_t, .int p1]).toArray meth c := ⟨hx, hb, hml, hown, hts, hr, hlocks, hE, hA⟩
  have hS : ∀ H : Heap, s.heap = H → va_S A s.heap H [] := fun H h => h ▸ va_S.rf
  generalize hH : s.heap = H at hP ⊢
  have hS := hS H hH
  unfold FX3_addStep at hF
  refine lv_aload_n hx hb dX3_addStep_0 rfl (lv_at hl 0 rfl) ?_
  refine va_get (D := D) (ci := 3) (v := .int t_stepCount) (C := RX3) (T := TX3) (N := 9) hx hb hts i_X3_addStep_X3 hown hE.1 hP 0 rfl rfl 7 (by decide) (hts (.fieldLink RX3 47 "NeedleHouse$Rule" "stepCount" "I") (by decide +kernel)) (fun _ h9 => h9) rfl dX3_addStep_1 ?_
  refine lv_bipush (v := 9) hx hb dX3_addStep_4 (by decide) ?_
  refine lv_icmp_ge (tgt := 29) hx hb dX3_addStep_6 (by decide) (fun c1 => ?_) (fun c1 => ?_)
  · have hF := ifT c1 hF
    obtain ⟨rfl, rfl⟩ := in2 hF
    exact W.vret hx hb hr (fun t ht hW => ⟨⟨(), rfl, trivial, vaP_at ht hP⟩, hS.F ht⟩) hS.2.2 dX3_addStep_29
  · have hF := ifF c1 hF
    refine lv_aload_n hx hb dX3_addStep_9 rfl (lv_at hl 0 rfl) ?_
    refine va_get (D := D) (ci := 3) (v := .ref q_t_steps) (C := RX3) (T := TX3) (N := 9) hx hb hts i_X3_addStep_X3 hown hE.1 hP 0 rfl rfl 6 (by decide) (hts (.fieldLink RX3 9 "NeedleHouse$Rule" "steps" "[I") (by decide +kernel)) (fun _ h9 => h9) rfl dX3_addStep_10 ?_
    refine lv_aload_n hx hb dX3_addStep_13 rfl (lv_at hl 0 rfl) ?_
    refine va_get (D := D) (ci := 3) (v := .int t_stepCount) (C := RX3) (T := TX3) (N := 9) hx hb hts i_X3_addStep_X3 hown hE.1 hP 0 rfl rfl 7 (by decide) (hts (.fieldLink RX3 47 "NeedleHouse$Rule" "stepCount" "I") (by decide +kernel)) (fun _ h9 => h9) rfl dX3_addStep_14 ?_
    refine lv_iload_n hx hb dX3_addStep_17 rfl (lv_at hl 1 rfl) ?_
    obtain ⟨h2, hF⟩ := gd_ex hF
    obtain ⟨f3, ef3, hF⟩ := bn_ex hF
    refine va_iast hx hb hE.1 hP hD hS 1 0 rfl rfl h2 dX3_addStep_18 (fun H locs hP hD hS => ?_)
    have hP : va_P D vwCl (W_10 ct q_t q_t_steps t_limit t_near t_share t_shareOf t_window t_storm t_stepCount t_clauses f3) H := by rw [ef3]; exact hP
    have hD : va_D A (W_10 ct q_t q_t_steps t_limit t_near t_share t_shareOf t_window t_storm t_stepCount t_clauses f3) := by rw [ef3]; exact hD
    refine lv_aload_n hx hb dX3_addStep_19 rfl (lv_at hl 0 rfl) ?_
    refine lv_dup hx hb dX3_addStep_20 rfl ?_
    refine va_get (D := D) (ci := 3) (v := .int t_stepCount) (C := RX3) (T := TX3) (N := 9) hx hb hts i_X3_addStep_X3 hown hE.1 hP 0 rfl rfl 7 (by decide) (hts (.fieldLink RX3 47 "NeedleHouse$Rule" "stepCount" "I") (by decide +kernel)) (fun _ h9 => h9) rfl dX3_addStep_21 ?_
    refine lv_iconst (v := 1) hx hb dX3_addStep_24 (by decide) ?_
    refine lv_iadd hx hb dX3_addStep_25 ?_
    refine lv_topi (fun x4 ex4 => ?_)
    have hF := bn_as ex4 hF
    refine va_put (D := D) (ci := 3) (v := .int x4) (ty := .int) (C := RX3) (T := TX3) (N := 9) hx hb hts i_X3_addStep_X3 tyX3 tyX3_ok nmX3 hown hE.1 hP hD hS 0 rfl rfl 7 (by decide) (hts (.fieldLink RX3 47 "NeedleHouse$Rule" "stepCount" "I") (by decide +kernel)) (fun _ h9 => h9) rfl (by decide +kernel) rfl rfl (Nat.le_of_ble_eq_true rfl) dX3_addStep_26 (fun H locs hP hD hS => ?_)
    have hP : va_P D vwCl (W_10 ct q_t q_t_steps t_limit t_near t_share t_shareOf t_window t_storm x4 t_clauses f3) H := hP
    have hD : va_D A (W_10 ct q_t q_t_steps t_limit t_near t_share t_shareOf t_window t_storm x4 t_clauses f3) := hD
    obtain ⟨rfl, rfl⟩ := in2 hF
    exact W.vret hx hb hr (fun t ht hW => ⟨⟨(), rfl, trivial, vaP_at ht hP⟩, hS.F ht⟩) hS.2.2 dX3_addStep_29
/-! NeedleHouse$Rule.reset()V -/
theorem i_X3_reset_X3 : ∀ w ∈ wsX30, w ∈ wsX3_reset := by decide +kernel
set_option maxHeartbeats 4000000 in
set_option maxRecDepth 100000 in
theorem met_X3_reset (l : Launch) (D : va_G) (ct : Nat → ClassId) (q_t : Nat) (q_t_steps : Nat) (sz : Nat) (t_limit : Int32) (t_near : Int32) (t_share : Int32) (t_shareOf : Int32) (t_window : Int32) (t_storm : Int32) (t_stepCount : Int32) (t_clauses : Int32) (t_steps : Nat → Int32) (n : Nat) (o_t_limit : Int32) (o_t_near : Int32) (o_t_share : Int32) (o_t_shareOf : Int32) (o_t_window : Int32) (o_t_storm : Int32) (o_t_stepCount : Int32) (o_t_clauses : Int32) (o_t_steps : Nat → Int32) (hF : FX3_reset n t_limit t_near t_share t_shareOf t_window t_storm t_stepCount t_clauses t_steps = some (o_t_limit, o_t_near, o_t_share, o_t_shareOf, o_t_window, o_t_storm, o_t_stepCount, o_t_clauses, o_t_steps)) : Met l yX3_reset wsX3_reset ({ frames := 1, cells := 0, slots := 0, locals := 21 } : Room) (va_Pc [.ref q_t] (pre_ D ct sz (W_10 ct q_t q_t_steps t_limit t_near t_share t_shareOf t_window t_storm t_stepCount t_clauses t_steps))) (va_Qv (fun (_ : Unit) => True) (fun _ t => va_P D vwCl (W_10 ct q_t q_t_steps o_t_limit o_t_near o_t_share o_t_shareOf o_t_window o_t_storm o_t_stepCount o_t_clauses o_t_steps) t.heap) (va_A (W_10 ct q_t q_t_steps t_limit t_near t_share t_shareOf t_window t_storm t_stepCount t_clauses t_steps) sz)) 0 0 (va_A (W_10 ct q_t q_t_steps t_limit t_near t_share t_shareOf t_window t_storm t_stepCount t_clauses t_steps) sz) := by
  refine Met.ofW (cc := cX3_reset) (maxL := 1) (ret := none) (by decide) rfl ?_
  intro p e s m args below meth c s₁ B hml hv
  obtain ⟨rfl, hsz, hP, hE, hD0⟩ := hv
  have hx := B.exec
  have hb := B.bytes
  have hr := B.returns
  have hts := atoms_spec (ws := wsX3_reset) B.pre
  have hown : s.vm.findClass RX3 = some m.cls := findClass_of_methodNamed B.named
  have hlocks := B.notSynchronized
  subst hsz
  have hD := hD0.self (sz := s.heap.size)
  generalize hAe : va_A (W_10 ct q_t q_t_steps t_limit t_near t_share t_shareOf t_window t_storm t_stepCount t_clauses t_steps) s.heap.size = A at hD ⊢
  have hA : ∀ q : Nat, s.heap.size ≤ q → A q := fun q h => by rw [← hAe]; exact Or.inr h
  have hl := lv_entry ([.ref q_t]) (n := 1) (Nat.le_of_ble_eq_true rfl)
  rw [lg_entry_eq]
  generalize (lg_sl ([.ref q_t]) ++ List.replicate (1 - (lg_sl ([.ref q_t])).length) Slot.unset).toArray = ls at hl ⊢
  have hl : lv_has ls 1 [(0, .ref q_t)] := hl
  have C0 : Cx RX3 cX3_reset 1 none wsX3_reset D ct A p s m ([.ref q_t]).toArray meth c := ⟨hx, hb, hml, hown, hts, hr, hlocks, hE, hA⟩
  have hS : ∀ H : Heap, s.heap = H → va_S A s.heap H [] := fun H h => h ▸ va_S.rf
  generalize hH : s.heap = H at hP ⊢
  have hS := hS H hH
  unfold FX3_reset at hF
  refine lv_aload_n hx hb dX3_reset_0 rfl (lv_at hl 0 rfl) ?_
  refine lv_bipush (v := 50) hx hb dX3_reset_1 (by decide) ?_
  refine va_put (D := D) (ci := 3) (v := .int 50) (ty := .int) (C := RX3) (T := TX3) (N := 9) hx hb hts i_X3_reset_X3 tyX3 tyX3_ok nmX3 hown hE.1 hP hD hS 0 rfl rfl 0 (by decide) (hts (.fieldLink RX3 18 "NeedleHouse$Rule" "limit" "I") (by decide +kernel)) (fun _ h9 => h9) rfl (by decide +kernel) rfl rfl (Nat.le_of_ble_eq_true rfl) dX3_reset_3 (fun H locs hP hD hS => ?_)
  have hP : va_P D vwCl (W_10 ct q_t q_t_steps 50 t_near t_share t_shareOf t_window t_storm t_stepCount t_clauses t_steps) H := hP
  have hD : va_D A (W_10 ct q_t q_t_steps 50 t_near t_share t_shareOf t_window t_storm t_stepCount t_clauses t_steps) := hD
  refine lv_aload_n hx hb dX3_reset_6 rfl (lv_at hl 0 rfl) ?_
  refine lv_iconst (v := 5) hx hb dX3_reset_7 (by decide) ?_
  refine va_put (D := D) (ci := 3) (v := .int 5) (ty := .int) (C := RX3) (T := TX3) (N := 9) hx hb hts i_X3_reset_X3 tyX3 tyX3_ok nmX3 hown hE.1 hP hD hS 0 rfl rfl 1 (by decide) (hts (.fieldLink RX3 22 "NeedleHouse$Rule" "near" "I") (by decide +kernel)) (fun _ h9 => h9) rfl (by decide +kernel) rfl rfl (Nat.le_of_ble_eq_true rfl) dX3_reset_8 (fun H locs hP hD hS => ?_)
  have hP : va_P D vwCl (W_10 ct q_t q_t_steps 50 5 t_share t_shareOf t_window t_storm t_stepCount t_clauses t_steps) H := hP
  have hD : va_D A (W_10 ct q_t q_t_steps 50 5 t_share t_shareOf t_window t_storm t_stepCount t_clauses t_steps) := hD
  refine lv_aload_n hx hb dX3_reset_11 rfl (lv_at hl 0 rfl) ?_
  refine lv_iconst (v := 1) hx hb dX3_reset_12 (by decide) ?_
  refine va_put (D := D) (ci := 3) (v := .int 1) (ty := .int) (C := RX3) (T := TX3) (N := 9) hx hb hts i_X3_reset_X3 tyX3 tyX3_ok nmX3 hown hE.1 hP hD hS 0 rfl rfl 2 (by decide) (hts (.fieldLink RX3 25 "NeedleHouse$Rule" "share" "I") (by decide +kernel)) (fun _ h9 => h9) rfl (by decide +kernel) rfl rfl (Nat.le_of_ble_eq_true rfl) dX3_reset_13 (fun H locs hP hD hS => ?_)
  have hP : va_P D vwCl (W_10 ct q_t q_t_steps 50 5 1 t_shareOf t_window t_storm t_stepCount t_clauses t_steps) H := hP
  have hD : va_D A (W_10 ct q_t q_t_steps 50 5 1 t_shareOf t_window t_storm t_stepCount t_clauses t_steps) := hD
  refine lv_aload_n hx hb dX3_reset_16 rfl (lv_at hl 0 rfl) ?_
  refine lv_iconst (v := 2) hx hb dX3_reset_17 (by decide) ?_
  refine va_put (D := D) (ci := 3) (v := .int 2) (ty := .int) (C := RX3) (T := TX3) (N := 9) hx hb hts i_X3_reset_X3 tyX3 tyX3_ok nmX3 hown hE.1 hP hD hS 0 rfl rfl 3 (by decide) (hts (.fieldLink RX3 28 "NeedleHouse$Rule" "shareOf" "I") (by decide +kernel)) (fun _ h9 => h9) rfl (by decide +kernel) rfl rfl (Nat.le_of_ble_eq_true rfl) dX3_reset_18 (fun H locs hP hD hS => ?_)
  have hP : va_P D vwCl (W_10 ct q_t q_t_steps 50 5 1 2 t_window t_storm t_stepCount t_clauses t_steps) H := hP
  have hD : va_D A (W_10 ct q_t q_t_steps 50 5 1 2 t_window t_storm t_stepCount t_clauses t_steps) := hD
  refine lv_aload_n hx hb dX3_reset_21 rfl (lv_at hl 0 rfl) ?_
  refine lv_bipush (v := 10) hx hb dX3_reset_22 (by decide) ?_
  refine va_put (D := D) (ci := 3) (v := .int 10) (ty := .int) (C := RX3) (T := TX3) (N := 9) hx hb hts i_X3_reset_X3 tyX3 tyX3_ok nmX3 hown hE.1 hP hD hS 0 rfl rfl 4 (by decide) (hts (.fieldLink RX3 31 "NeedleHouse$Rule" "window" "I") (by decide +kernel)) (fun _ h9 => h9) rfl (by decide +kernel) rfl rfl (Nat.le_of_ble_eq_true rfl) dX3_reset_24 (fun H locs hP hD hS => ?_)
  have hP : va_P D vwCl (W_10 ct q_t q_t_steps 50 5 1 2 10 t_storm t_stepCount t_clauses t_steps) H := hP
  have hD : va_D A (W_10 ct q_t q_t_steps 50 5 1 2 10 t_storm t_stepCount t_clauses t_steps) := hD
  refine lv_aload_n hx hb dX3_reset_27 rfl (lv_at hl 0 rfl) ?_
  refine lv_iconst (v := 5) hx hb dX3_reset_28 (by decide) ?_
  refine va_put (D := D) (ci := 3) (v := .int 5) (ty := .int) (C := RX3) (T := TX3) (N := 9) hx hb hts i_X3_reset_X3 tyX3 tyX3_ok nmX3 hown hE.1 hP hD hS 0 rfl rfl 5 (by decide) (hts (.fieldLink RX3 34 "NeedleHouse$Rule" "storm" "I") (by decide +kernel)) (fun _ h9 => h9) rfl (by decide +kernel) rfl rfl (Nat.le_of_ble_eq_true rfl) dX3_reset_29 (fun H locs hP hD hS => ?_)
  have hP : va_P D vwCl (W_10 ct q_t q_t_steps 50 5 1 2 10 5 t_stepCount t_clauses t_steps) H := hP
  have hD : va_D A (W_10 ct q_t q_t_steps 50 5 1 2 10 5 t_stepCount t_clauses t_steps) := hD
  refine lv_aload_n hx hb dX3_reset_32 rfl (lv_at hl 0 rfl) ?_
  refine lv_iconst (v := 0) hx hb dX3_reset_33 (by decide) ?_
  refine va_put (D := D) (ci := 3) (v := .int 0) (ty := .int) (C := RX3) (T := TX3) (N := 9) hx hb hts i_X3_reset_X3 tyX3 tyX3_ok nmX3 hown hE.1 hP hD hS 0 rfl rfl 8 (by decide) (hts (.fieldLink RX3 37 "NeedleHouse$Rule" "clauses" "I") (by decide +kernel)) (fun _ h9 => h9) rfl (by decide +kernel) rfl rfl (Nat.le_of_ble_eq_true rfl) dX3_reset_34 (fun H locs hP hD hS => ?_)
  have hP : va_P D vwCl (W_10 ct q_t q_t_steps 50 5 1 2 10 5 t_stepCount 0 t_steps) H := hP
  have hD : va_D A (W_10 ct q_t q_t_steps 50 5 1 2 10 5 t_stepCount 0 t_steps) := hD
  refine lv_aload_n hx hb dX3_reset_37 rfl (lv_at hl 0 rfl) ?_
  obtain ⟨v1, h2, hF⟩ := ob1_ex hF
  refine xvM (ws1 := (W_10 ct q_t q_t_steps 50 5 1 2 10 5 v1 0 t_steps)) (va_runV (As := []) (rest := []) ⟨hx, hb, hml, hown, hts⟩ (met_X3_clearSteps l D ct q_t q_t_steps H.size 50 5 1 2 10 5 t_stepCount 0 n v1 h2) (cwV 0 hts gX3_reset_X3_clearSteps rfl rfl rfl (by decide +kernel) ⟨Nat.le_of_ble_eq_true rfl, Nat.le_of_ble_eq_true rfl⟩) ⟨blind_, va_recv hE.1 hP (ci := 3) (q0 := 0) rfl rfl, mkpre_ hE (hP.sub [0] rfl) (hD.sub [0] (by decide) rfl)⟩ rfl rfl hl.1 rfl (lv_room (Nat.le_of_ble_eq_true rfl)) dX3_reset_38 ⟨Nat.le_of_ble_eq_true rfl, Nat.le_of_ble_eq_true rfl⟩) hP hD hS hA [0] [1] 2 rfl rfl rfl rfl (by decide) rfl (fun H locs hP hD hS => ?_)
  refine lv_aload_n hx hb dX3_reset_41 rfl (lv_at hl 0 rfl) ?_
  refine lv_iconst (v := 5) hx hb dX3_reset_42 (by decide) ?_
  obtain ⟨v3, f4, h5, hF⟩ := ob2_ex hF
  refine xvA (va_runV (As := [.int 5]) (rest := []) ⟨hx, hb, hml, hown, hts⟩ (met_X3_addStep l D ct q_t q_t_steps H.size 50 5 1 2 10 5 v1 0 t_steps 5 n v3 f4 h5) (cwV 1 hts gX3_reset_X3_addStep rfl rfl rfl (by decide +kernel) ⟨Nat.le_of_ble_eq_true rfl, Nat.le_of_ble_eq_true rfl⟩) ⟨blind_, va_recv hE.1 hP (ci := 3) (q0 := 0) rfl rfl, mkpre_ hE hP hD⟩ rfl rfl hl.1 rfl (lv_room (Nat.le_of_ble_eq_true rfl)) dX3_reset_43 ⟨Nat.le_of_ble_eq_true rfl, Nat.le_of_ble_eq_true rfl⟩) hP hD hS hA rfl (fun H locs hP hD hS => ?_)
  refine lv_aload_n hx hb dX3_reset_46 rfl (lv_at hl 0 rfl) ?_
  refine lv_bipush (v := 10) hx hb dX3_reset_47 (by decide) ?_
  obtain ⟨v6, f7, h8, hF⟩ := ob2_ex hF
  refine xvA (va_runV (As := [.int 10]) (rest := []) ⟨hx, hb, hml, hown, hts⟩ (met_X3_addStep l D ct q_t q_t_steps H.size 50 5 1 2 10 5 v3 0 f4 10 n v6 f7 h8) (cwV 1 hts gX3_reset_X3_addStep rfl rfl rfl (by decide +kernel) ⟨Nat.le_of_ble_eq_true rfl, Nat.le_of_ble_eq_true rfl⟩) ⟨blind_, va_recv hE.1 hP (ci := 3) (q0 := 0) rfl rfl, mkpre_ hE hP hD⟩ rfl rfl hl.1 rfl (lv_room (Nat.le_of_ble_eq_true rfl)) dX3_reset_49 ⟨Nat.le_of_ble_eq_true rfl, Nat.le_of_ble_eq_true rfl⟩) hP hD hS hA rfl (fun H locs hP hD hS => ?_)
  refine lv_aload_n hx hb dX3_reset_52 rfl (lv_at hl 0 rfl) ?_
  refine lv_bipush (v := 20) hx hb dX3_reset_53 (by decide) ?_
  obtain ⟨v9, f10, h11, hF⟩ := ob2_ex hF
  refine xvA (va_runV (As := [.int 20]) (rest := []) ⟨hx, hb, hml, hown, hts⟩ (met_X3_addStep l D ct q_t q_t_steps H.size 50 5 1 2 10 5 v6 0 f7 20 n v9 f10 h11) (cwV 1 hts gX3_reset_X3_addStep rfl rfl rfl (by decide +kernel) ⟨Nat.le_of_ble_eq_true rfl, Nat.le_of_ble_eq_true rfl⟩) ⟨blind_, va_recv hE.1 hP (ci := 3) (q0 := 0) rfl rfl, mkpre_ hE hP hD⟩ rfl rfl hl.1 rfl (lv_room (Nat.le_of_ble_eq_true rfl)) dX3_reset_55 ⟨Nat.le_of_ble_eq_true rfl, Nat.le_of_ble_eq_true rfl⟩) hP hD hS hA rfl (fun H locs hP hD hS => ?_)
  refine lv_aload_n hx hb dX3_reset_58 rfl (lv_at hl 0 rfl) ?_
  refine lv_bipush (v := 40) hx hb dX3_reset_59 (by decide) ?_
  obtain ⟨v12, f13, h14, hF⟩ := ob2_ex hF
  refine xvA (va_runV (As := [.int 40]) (rest := []) ⟨hx, hb, hml, hown, hts⟩ (met_X3_addStep l D ct q_t q_t_steps H.size 50 5 1 2 10 5 v9 0 f10 40 n v12 f13 h14) (cwV 1 hts gX3_reset_X3_addStep rfl rfl rfl (by decide +kernel) ⟨Nat.le_of_ble_eq_true rfl, Nat.le_of_ble_eq_true rfl⟩) ⟨blind_, va_recv hE.1 hP (ci := 3) (q0 := 0) rfl rfl, mkpre_ hE hP hD⟩ rfl rfl hl.1 rfl (lv_room (Nat.le_of_ble_eq_true rfl)) dX3_reset_61 ⟨Nat.le_of_ble_eq_true rfl, Nat.le_of_ble_eq_true rfl⟩) hP hD hS hA rfl (fun H locs hP hD hS => ?_)
  refine lv_aload_n hx hb dX3_reset_64 rfl (lv_at hl 0 rfl) ?_
  refine lv_bipush (v := 70) hx hb dX3_reset_65 (by decide) ?_
  obtain ⟨v15, f16, h17, hF⟩ := ob2_ex hF
  refine xvA (va_runV (As := [.int 70]) (rest := []) ⟨hx, hb, hml, hown, hts⟩ (met_X3_addStep l D ct q_t q_t_steps H.size 50 5 1 2 10 5 v12 0 f13 70 n v15 f16 h17) (cwV 1 hts gX3_reset_X3_addStep rfl rfl rfl (by decide +kernel) ⟨Nat.le_of_ble_eq_true rfl, Nat.le_of_ble_eq_true rfl⟩) ⟨blind_, va_recv hE.1 hP (ci := 3) (q0 := 0) rfl rfl, mkpre_ hE hP hD⟩ rfl rfl hl.1 rfl (lv_room (Nat.le_of_ble_eq_true rfl)) dX3_reset_67 ⟨Nat.le_of_ble_eq_true rfl, Nat.le_of_ble_eq_true rfl⟩) hP hD hS hA rfl (fun H locs hP hD hS => ?_)
  refine lv_aload_n hx hb dX3_reset_70 rfl (lv_at hl 0 rfl) ?_
  refine lv_bipush (v := 120) hx hb dX3_reset_71 (by decide) ?_
  obtain ⟨v18, f19, h20, hF⟩ := ob2_ex hF
  refine xvA (va_runV (As := [.int 120]) (rest := []) ⟨hx, hb, hml, hown, hts⟩ (met_X3_addStep l D ct q_t q_t_steps H.size 50 5 1 2 10 5 v15 0 f16 120 n v18 f19 h20) (cwV 1 hts gX3_reset_X3_addStep rfl rfl rfl (by decide +kernel) ⟨Nat.le_of_ble_eq_true rfl, Nat.le_of_ble_eq_true rfl⟩) ⟨blind_, va_recv hE.1 hP (ci := 3) (q0 := 0) rfl rfl, mkpre_ hE hP hD⟩ rfl rfl hl.1 rfl (lv_room (Nat.le_of_ble_eq_true rfl)) dX3_reset_73 ⟨Nat.le_of_ble_eq_true rfl, Nat.le_of_ble_eq_true rfl⟩) hP hD hS hA rfl (fun H locs hP hD hS => ?_)
  refine lv_aload_n hx hb dX3_reset_76 rfl (lv_at hl 0 rfl) ?_
  refine lv_sipush (v := 200) hx hb dX3_reset_77 (by decide) ?_
  obtain ⟨v21, f22, h23, hF⟩ := ob2_ex hF
  refine xvA (va_runV (As := [.int 200]) (rest := []) ⟨hx, hb, hml, hown, hts⟩ (met_X3_addStep l D ct q_t q_t_steps H.size 50 5 1 2 10 5 v18 0 f19 200 n v21 f22 h23) (cwV 1 hts gX3_reset_X3_addStep rfl rfl rfl (by decide +kernel) ⟨Nat.le_of_ble_eq_true rfl, Nat.le_of_ble_eq_true rfl⟩) ⟨blind_, va_recv hE.1 hP (ci := 3) (q0 := 0) rfl rfl, mkpre_ hE hP hD⟩ rfl rfl hl.1 rfl (lv_room (Nat.le_of_ble_eq_true rfl)) dX3_reset_80 ⟨Nat.le_of_ble_eq_true rfl, Nat.le_of_ble_eq_true rfl⟩) hP hD hS hA rfl (fun H locs hP hD hS => ?_)
  refine lv_aload_n hx hb dX3_reset_83 rfl (lv_at hl 0 rfl) ?_
  refine lv_sipush (v := 330) hx hb dX3_reset_84 (by decide) ?_
  obtain ⟨v24, f25, h26, hF⟩ := ob2_ex hF
  refine xvA (va_runV (As := [.int 330]) (rest := []) ⟨hx, hb, hml, hown, hts⟩ (met_X3_addStep l D ct q_t q_t_steps H.size 50 5 1 2 10 5 v21 0 f22 330 n v24 f25 h26) (cwV 1 hts gX3_reset_X3_addStep rfl rfl rfl (by decide +kernel) ⟨Nat.le_of_ble_eq_true rfl, Nat.le_of_ble_eq_true rfl⟩) ⟨blind_, va_recv hE.1 hP (ci := 3) (q0 := 0) rfl rfl, mkpre_ hE hP hD⟩ rfl rfl hl.1 rfl (lv_room (Nat.le_of_ble_eq_true rfl)) dX3_reset_87 ⟨Nat.le_of_ble_eq_true rfl, Nat.le_of_ble_eq_true rfl⟩) hP hD hS hA rfl (fun H locs hP hD hS => ?_)
  refine lv_aload_n hx hb dX3_reset_90 rfl (lv_at hl 0 rfl) ?_
  refine lv_sipush (v := 500) hx hb dX3_reset_91 (by decide) ?_
  obtain ⟨v27, f28, h29, hF⟩ := ob2_ex hF
  refine xvA (va_runV (As := [.int 500]) (rest := []) ⟨hx, hb, hml, hown, hts⟩ (met_X3_addStep l D ct q_t q_t_steps H.size 50 5 1 2 10 5 v24 0 f25 500 n v27 f28 h29) (cwV 1 hts gX3_reset_X3_addStep rfl rfl rfl (by decide +kernel) ⟨Nat.le_of_ble_eq_true rfl, Nat.le_of_ble_eq_true rfl⟩) ⟨blind_, va_recv hE.1 hP (ci := 3) (q0 := 0) rfl rfl, mkpre_ hE hP hD⟩ rfl rfl hl.1 rfl (lv_room (Nat.le_of_ble_eq_true rfl)) dX3_reset_94 ⟨Nat.le_of_ble_eq_true rfl, Nat.le_of_ble_eq_true rfl⟩) hP hD hS hA rfl (fun H locs hP hD hS => ?_)
  obtain ⟨rfl, rfl, rfl, rfl, rfl, rfl, rfl, rfl, rfl⟩ := in9 hF
  exact W.vret hx hb hr (fun t ht hW => ⟨⟨(), rfl, trivial, vaP_at ht hP⟩, hS.F ht⟩) hS.2.2 dX3_reset_97
/-! NeedleHouse$Rule.stepsUpTo(I)I -/
theorem i_X3_stepsUpTo_X3 : ∀ w ∈ wsX30, w ∈ wsX3_stepsUpTo := by decide +kernel
set_option maxHeartbeats 4000000 in
set_option maxRecDepth 100000 in
theorem jX3_stepsUpTo_4 {p : Program} {l : Launch} {e : Env} {s : State} {m : MethodId} {args : Array Value} {below : List Frame} {meth : Method} {c : Code} {D : va_G} {ct : Nat → ClassId} {A : Nat → Prop} {q_t q_t_steps : Nat} {t_limit : Int32} {t_near : Int32} {t_share : Int32} {t_shareOf : Int32} {t_window : Int32} {t_storm : Int32} {t_stepCount : Int32} {t_clauses : Int32} {t_steps : Nat → Int32} {o_r : Int32} (C0 : Cx RX3 cX3_stepsUpTo 4 (some .int) wsX3_stepsUpTo D ct A p s m args meth c) (k4 : Int32 → (Nat → Int32) → Int32 → Int32 → Int32 → Option (Int32)) (hk4 : ∀ (x_1 : Int32) (x_2 : Int32) (x_3 : Int32) (H : Heap) (locs : List Loc) (ls : Array Slot), k4 t_stepCount t_steps x_1 x_2 x_3 = some (o_r) → va_P D vwCl (W_10 ct q_t q_t_steps t_limit t_near t_share t_shareOf t_window t_storm t_stepCount t_clauses t_steps) H → va_D A (W_10 ct q_t q_t_steps t_limit t_near t_share t_shareOf t_window t_storm t_stepCount t_clauses t_steps) → va_S A s.heap H locs → lv_has ls 4 [(0, .ref q_t), (1, .int x_1), (2, .int x_2), (3, .int x_3)] → W p l e ({ frames := 0, cells := 0, slots := 0, locals := 0 } : Room) s m args below meth c H locs 0 0 (MQ below (va_Qi (fun r (_ : Unit) => r = o_r) (fun _ t => va_P D vwCl (W_10 ct q_t q_t_steps t_limit t_near t_share t_shareOf t_window t_storm t_stepCount t_clauses t_steps) t.heap) A) args s 0 0 A) (F0 m 4 ls [])) (n : Nat) (x_1 : Int32) (x_2 : Int32) (x_3 : Int32) (H : Heap) (locs : List Loc) (ls : Array Slot) : JX3_stepsUpTo_4 k4 n t_stepCount t_steps x_1 x_2 x_3 = some (o_r) → va_P D vwCl (W_10 ct q_t q_t_steps t_limit t_near t_share t_shareOf t_window t_storm t_stepCount t_clauses t_steps) H → va_D A (W_10 ct q_t q_t_steps t_limit t_near t_share t_shareOf t_window t_storm t_stepCount t_clauses t_steps) → va_S A s.heap H locs → lv_has ls 4 [(0, .ref q_t), (1, .int x_1), (2, .int x_2), (3, .int x_3)] → W p l e ({ frames := 0, cells := 0, slots := 0, locals := 0 } : Room) s m args below meth c H locs 0 0 (MQ below (va_Qi (fun r (_ : Unit) => r = o_r) (fun _ t => va_P D vwCl (W_10 ct q_t q_t_steps t_limit t_near t_share t_shareOf t_window t_storm t_stepCount t_clauses t_steps) t.heap) A) args s 0 0 A) (F0 m 4 ls []) := by
  intro hF hP hD hS hl
  obtain ⟨hx, hb, hml, hown, hts, hr, hlocks, hE, hA⟩ := id C0
  unfold JX3_stepsUpTo_4 at hF
  refine lv_iload_n hx hb dX3_stepsUpTo_4 rfl (lv_at hl 3 rfl) ?_
  refine lv_aload_n hx hb dX3_stepsUpTo_5 rfl (lv_at hl 0 rfl) ?_
  refine va_get (D := D) (ci := 3) (v := .int t_stepCount) (C := RX3) (T := TX3) (N := 9) hx hb hts i_X3_stepsUpTo_X3 hown hE.1 hP 0 rfl rfl 7 (by decide) (hts (.fieldLink RX3 47 "NeedleHouse$Rule" "stepCount" "I") (by decide +kernel)) (fun _ h9 => h9) rfl dX3_stepsUpTo_6 ?_
  refine lv_icmp_ge (tgt := 31) hx hb dX3_stepsUpTo_9 (by decide) (fun c1 => ?_) (fun c1 => ?_)
  · have hF := ifT c1 hF
    refine lv_iload_n hx hb dX3_stepsUpTo_31 rfl (lv_at hl 2 rfl) ?_
    obtain rfl := Option.some.inj hF
    exact W.iret hx hb hr (fun t ht hW => ⟨⟨_, (), rfl, rfl, vaP_at ht hP⟩, hS.F ht⟩) hS.2.2 dX3_stepsUpTo_32
  · have hF := ifF c1 hF
    refine lv_aload_n hx hb dX3_stepsUpTo_12 rfl (lv_at hl 0 rfl) ?_
    refine va_get (D := D) (ci := 3) (v := .ref q_t_steps) (C := RX3) (T := TX3) (N := 9) hx hb hts i_X3_stepsUpTo_X3 hown hE.1 hP 0 rfl rfl 6 (by decide) (hts (.fieldLink RX3 9 "NeedleHouse$Rule" "steps" "[I") (by decide +kernel)) (fun _ h9 => h9) rfl dX3_stepsUpTo_13 ?_
    refine lv_iload_n hx hb dX3_stepsUpTo_16 rfl (lv_at hl 3 rfl) ?_
    obtain ⟨h2, hF⟩ := gd_ex hF
    refine va_iald hx hb hE.1 hP 1 0 rfl rfl h2 dX3_stepsUpTo_17 ?_
    refine lv_iload_n hx hb dX3_stepsUpTo_18 rfl (lv_at hl 1 rfl) ?_
    refine lv_icmp_gt (tgt := 25) hx hb dX3_stepsUpTo_19 (by decide) (fun c3 => ?_) (fun c3 => ?_)
    · have hF := ifT c3 hF
      obtain ⟨x4, ex4⟩ : ∃ y : Int32, y = x_3 + 1 := ⟨_, rfl⟩
      refine lv_iinc (v := x4) (lv' := [(3, .int x4), (0, .ref q_t), (1, .int x_1), (2, .int x_2)]) hx hb dX3_stepsUpTo_25 hl (k := 3) rfl (by rw [ex4]; rfl) (by decide) rfl (fun ls hl => ?_)
      have hF := bn_as ex4 hF
      refine lv_goto (tgt := 4) hx hb dX3_stepsUpTo_28 (by decide) ?_
      exact hk4 x_1 x_2 x4 _ _ _ hF hP hD hS (lv_sub hl [1, 2, 3, 0] rfl)
    · have hF := ifF c3 hF
      obtain ⟨x5, ex5⟩ : ∃ y : Int32, y = x_2 + 1 := ⟨_, rfl⟩
      refine lv_iinc (v := x5) (lv' := [(2, .int x5), (0, .ref q_t), (1, .int x_1), (3, .int x_3)]) hx hb dX3_stepsUpTo_22 hl (k := 2) rfl (by rw [ex5]; rfl) (by decide) rfl (fun ls hl => ?_)
      have hF := bn_as ex5 hF
      obtain ⟨x6, ex6⟩ : ∃ y : Int32, y = x_3 + 1 := ⟨_, rfl⟩
      refine lv_iinc (v := x6) (lv' := [(3, .int x6), (2, .int x5), (0, .ref q_t), (1, .int x_1)]) hx hb dX3_stepsUpTo_25 hl (k := 3) rfl (by rw [ex6]; rfl) (by decide) rfl (fun ls hl => ?_)
      have hF := bn_as ex6 hF
      refine lv_goto (tgt := 4) hx hb dX3_stepsUpTo_28 (by decide) ?_
      exact hk4 x_1 x5 x6 _ _ _ hF hP hD hS (lv_sub hl [2, 3, 1, 0] rfl)
theorem lX3_stepsUpTo_4 {p : Program} {l : Launch} {e : Env} {s : State} {m : MethodId} {args : Array Value} {below : List Frame} {meth : Method} {c : Code} {D : va_G} {ct : Nat → ClassId} {A : Nat → Prop} {q_t q_t_steps : Nat} {t_limit : Int32} {t_near : Int32} {t_share : Int32} {t_shareOf : Int32} {t_window : Int32} {t_storm : Int32} {t_stepCount : Int32} {t_clauses : Int32} {t_steps : Nat → Int32} {o_r : Int32} (C0 : Cx RX3 cX3_stepsUpTo 4 (some .int) wsX3_stepsUpTo D ct A p s m args meth c) : ∀ (n : Nat) (x_1 : Int32) (x_2 : Int32) (x_3 : Int32) (H : Heap) (locs : List Loc) (ls : Array Slot), LX3_stepsUpTo_4 n t_stepCount t_steps x_1 x_2 x_3 = some (o_r) → va_P D vwCl (W_10 ct q_t q_t_steps t_limit t_near t_share t_shareOf t_window t_storm t_stepCount t_clauses t_steps) H → va_D A (W_10 ct q_t q_t_steps t_limit t_near t_share t_shareOf t_window t_storm t_stepCount t_clauses t_steps) → va_S A s.heap H locs → lv_has ls 4 [(0, .ref q_t), (1, .int x_1), (2, .int x_2), (3, .int x_3)] → W p l e ({ frames := 0, cells := 0, slots := 0, locals := 0 } : Room) s m args below meth c H locs 0 0 (MQ below (va_Qi (fun r (_ : Unit) => r = o_r) (fun _ t => va_P D vwCl (W_10 ct q_t q_t_steps t_limit t_near t_share t_shareOf t_window t_storm t_stepCount t_clauses t_steps) t.heap) A) args s 0 0 A) (F0 m 4 ls []) := by
  intro n
  induction n with
  | zero => intro x_1 x_2 x_3 H locs ls hF; exact nomatch (show (none : Option (Int32)) = _ from hF)
  | succ n ih => intro x_1 x_2 x_3 H locs ls hF; exact jX3_stepsUpTo_4 C0 (LX3_stepsUpTo_4 n) ih n x_1 x_2 x_3 H locs ls hF
set_option maxHeartbeats 4000000 in
set_option maxRecDepth 100000 in
theorem met_X3_stepsUpTo (l : Launch) (D : va_G) (ct : Nat → ClassId) (q_t : Nat) (q_t_steps : Nat) (sz : Nat) (t_limit : Int32) (t_near : Int32) (t_share : Int32) (t_shareOf : Int32) (t_window : Int32) (t_storm : Int32) (t_stepCount : Int32) (t_clauses : Int32) (t_steps : Nat → Int32) (p1 : Int32) (n : Nat) (o_r : Int32) (hF : FX3_stepsUpTo n t_stepCount t_steps p1 = some (o_r)) : Met l yX3_stepsUpTo wsX3_stepsUpTo ({ frames := 0, cells := 0, slots := 0, locals := 0 } : Room) (va_Pc [.ref q_t, .int p1] (pre_ D ct sz (W_10 ct q_t q_t_steps t_limit t_near t_share t_shareOf t_window t_storm t_stepCount t_clauses t_steps))) (va_Qi (fun r (_ : Unit) => r = o_r) (fun _ t => va_P D vwCl (W_10 ct q_t q_t_steps t_limit t_near t_share t_shareOf t_window t_storm t_stepCount t_clauses t_steps) t.heap) (va_A (W_10 ct q_t q_t_steps t_limit t_near t_share t_shareOf t_window t_storm t_stepCount t_clauses t_steps) sz)) 0 0 (va_A (W_10 ct q_t q_t_steps t_limit t_near t_share t_shareOf t_window t_storm t_stepCount t_clauses t_steps) sz) := by
  refine Met.ofW (cc := cX3_stepsUpTo) (maxL := 4) (ret := (some .int)) (by decide) rfl ?_
  intro p e s m args below meth c s₁ B hml hv
  obtain ⟨rfl, hsz, hP, hE, hD0⟩ := hv
  have hx := B.exec
  have hb := B.bytes
  have hr := B.returns
  have hts := atoms_spec (ws := wsX3_stepsUpTo) B.pre
  have hown : s.vm.findClass RX3 = some m.cls := findClass_of_methodNamed B.named
  have hlocks := B.notSynchronized
  subst hsz
  have hD := hD0.self (sz := s.heap.size)
  generalize hAe : va_A (W_10 ct q_t q_t_steps t_limit t_near t_share t_shareOf t_window t_storm t_stepCount t_clauses t_steps) s.heap.size = A at hD ⊢
  have hA : ∀ q : Nat, s.heap.size ≤ q → A q := fun q h => by rw [← hAe]; exact Or.inr h
  have hl := lv_entry ([.ref q_t, .int p1]) (n := 4) (Nat.le_of_ble_eq_true rfl)
  rw [lg_entry_eq]
  generalize (lg_sl ([.ref q_t, .int p1]) ++ List.replicate (4 - (lg_sl ([.ref q_t, .int p1])).length) Slot.unset).toArray = ls at hl ⊢
  have hl : lv_has ls 4 [(0, .ref q_t), (1, .int p1)] := hl
  have C0 : Cx RX3 cX3_stepsUpTo 4 (some .int) wsX3_stepsUpTo D ct A p s m ([.ref q_t, .int p1]).toArray meth c := ⟨hx, hb, hml, hown, hts, hr, hlocks, hE, hA⟩
  have hS : ∀ H : Heap, s.heap = H → va_S A s.heap H [] := fun H h => h ▸ va_S.rf
  generalize hH : s.heap = H at hP ⊢
  have hS := hS H hH
  unfold FX3_stepsUpTo at hF
  refine lv_iconst (v := 0) hx hb dX3_stepsUpTo_0 (by decide) ?_
  refine lv_istore_n (lv' := [(2, .int 0), (0, .ref q_t), (1, .int p1)]) hx hb dX3_stepsUpTo_1 rfl hl (by decide) rfl (fun ls hl => ?_)
  refine lv_iconst (v := 0) hx hb dX3_stepsUpTo_2 (by decide) ?_
  refine lv_istore_n (lv' := [(3, .int 0), (2, .int 0), (0, .ref q_t), (1, .int p1)]) hx hb dX3_stepsUpTo_3 rfl hl (by decide) rfl (fun ls hl => ?_)
  exact lX3_stepsUpTo_4 C0 n p1 0 0 _ _ _ hF hP hD hS (lv_sub hl [2, 3, 1, 0] rfl)
/-! NeedleHouse$Rule.windowsBelow(I)I -/
theorem i_X3_windowsBelow_X3 : ∀ w ∈ wsX30, w ∈ wsX3_windowsBelow := by decide +kernel
set_option maxHeartbeats 4000000 in
set_option maxRecDepth 100000 in
theorem met_X3_windowsBelow (l : Launch) (D : va_G) (ct : Nat → ClassId) (q_t : Nat) (q_t_steps : Nat) (sz : Nat) (t_limit : Int32) (t_near : Int32) (t_share : Int32) (t_shareOf : Int32) (t_window : Int32) (t_storm : Int32) (t_stepCount : Int32) (t_clauses : Int32) (p1 : Int32) (n : Nat) (o_r : Int32) (hF : FX3_windowsBelow n t_window p1 = some (o_r)) : Met l yX3_windowsBelow wsX3_windowsBelow ({ frames := 0, cells := 0, slots := 0, locals := 0 } : Room) (va_Pc [.ref q_t, .int p1] (pre_ D ct sz (W_9 ct q_t q_t_steps t_limit t_near t_share t_shareOf t_window t_storm t_stepCount t_clauses))) (va_Qi (fun r (_ : Unit) => r = o_r) (fun _ t => va_P D vwCl (W_9 ct q_t q_t_steps t_limit t_near t_share t_shareOf t_window t_storm t_stepCount t_clauses) t.heap) (va_A (W_9 ct q_t q_t_steps t_limit t_near t_share t_shareOf t_window t_storm t_stepCount t_clauses) sz)) 0 0 (va_A (W_9 ct q_t q_t_steps t_limit t_near t_share t_shareOf t_window t_storm t_stepCount t_clauses) sz) := by
  refine Met.ofW (cc := cX3_windowsBelow) (maxL := 2) (ret := (some .int)) (by decide) rfl ?_
  intro p e s m args below meth c s₁ B hml hv
  obtain ⟨rfl, hsz, hP, hE, hD0⟩ := hv
  have hx := B.exec
  have hb := B.bytes
  have hr := B.returns
  have hts := atoms_spec (ws := wsX3_windowsBelow) B.pre
  have hown : s.vm.findClass RX3 = some m.cls := findClass_of_methodNamed B.named
  have hlocks := B.notSynchronized
  subst hsz
  have hD := hD0.self (sz := s.heap.size)
  generalize hAe : va_A (W_9 ct q_t q_t_steps t_limit t_near t_share t_shareOf t_window t_storm t_stepCount t_clauses) s.heap.size = A at hD ⊢
  have hA : ∀ q : Nat, s.heap.size ≤ q → A q := fun q h => by rw [← hAe]; exact Or.inr h
  have hl := lv_entry ([.ref q_t, .int p1]) (n := 2) (Nat.le_of_ble_eq_true rfl)
  rw [lg_entry_eq]
  generalize (lg_sl ([.ref q_t, .int p1]) ++ List.replicate (2 - (lg_sl ([.ref q_t, .int p1])).length) Slot.unset).toArray = ls at hl ⊢
  have hl : lv_has ls 2 [(0, .ref q_t), (1, .int p1)] := hl
  have C0 : Cx RX3 cX3_windowsBelow 2 (some .int) wsX3_windowsBelow D ct A p s m ([.ref q_t, .int p1]).toArray meth c := ⟨hx, hb, hml, hown, hts, hr, hlocks, hE, hA⟩
  have hS : ∀ H : Heap, s.heap = H → va_S A s.heap H [] := fun H h => h ▸ va_S.rf
  generalize hH : s.heap = H at hP ⊢
  have hS := hS H hH
  unfold FX3_windowsBelow at hF
  refine lv_aload_n hx hb dX3_windowsBelow_0 rfl (lv_at hl 0 rfl) ?_
  refine va_get (D := D) (ci := 3) (v := .int t_window) (C := RX3) (T := TX3) (N := 9) hx hb hts i_X3_windowsBelow_X3 hown hE.1 hP 0 rfl rfl 4 (by decide) (hts (.fieldLink RX3 31 "NeedleHouse$Rule" "window" "I") (by decide +kernel)) (fun _ h9 => h9) rfl dX3_windowsBelow_1 ?_
  refine lv_iconst (v := 2) hx hb dX3_windowsBelow_4 (by decide) ?_
  refine lv_icmp_ge (tgt := 12) hx hb dX3_windowsBelow_5 (by decide) (fun c1 => ?_) (fun c1 => ?_)
  · have hF := ifT c1 hF
    refine lv_iload_n hx hb dX3_windowsBelow_12 rfl (lv_at hl 1 rfl) ?_
    refine lv_aload_n hx hb dX3_windowsBelow_13 rfl (lv_at hl 0 rfl) ?_
    refine va_get (D := D) (ci := 3) (v := .int t_window) (C := RX3) (T := TX3) (N := 9) hx hb hts i_X3_windowsBelow_X3 hown hE.1 hP 0 rfl rfl 4 (by decide) (hts (.fieldLink RX3 31 "NeedleHouse$Rule" "window" "I") (by decide +kernel)) (fun _ h9 => h9) rfl dX3_windowsBelow_14 ?_
    obtain ⟨h2, hF⟩ := gd_ex hF
    refine lv_idiv hx hb dX3_windowsBelow_17 h2 ?_
    obtain rfl := Option.some.inj hF
    exact W.iret hx hb hr (fun t ht hW => ⟨⟨_, (), rfl, rfl, vaP_at ht hP⟩, hS.F ht⟩) hS.2.2 dX3_windowsBelow_18
  · have hF := ifF c1 hF
    refine lv_iconst (v := 0) hx hb dX3_windowsBelow_8 (by decide) ?_
    refine lv_goto (tgt := 18) hx hb dX3_windowsBelow_9 (by decide) ?_
    obtain rfl := Option.some.inj hF
    exact W.iret hx hb hr (fun t ht hW => ⟨⟨_, (), rfl, rfl, vaP_at ht hP⟩, hS.F ht⟩) hS.2.2 dX3_windowsBelow_18
