/-! NeedleHouse.within(III)Z -/
set_option maxHeartbeats 4000000 in
set_option maxRecDepth 100000 in
theorem met_X9_within (l : Launch) (D : va_G) (ct : Nat → ClassId) (sz : Nat) (p1 : Int32) (p2 : Int32) (p3 : Int32) (n : Nat) (o_r : Int32) (hF : FX9_within n p1 p2 p3 = some (o_r)) : Met l yX9_within wsX9_within ({ frames := 0, cells := 0, slots := 0, locals := 0 } : Room) (va_Pc [.int p1, .int p2, .int p3] (pre_ D ct sz [])) (va_Qi (fun r (_ : Unit) => r = o_r) (fun _ t => va_P D vwCl [] t.heap) (va_A [] sz)) 0 0 (va_A [] sz) := by
  refine Met.ofW (cc := cX9_within) (maxL := 3) (ret := (some .boolean)) (by decide) rfl ?_
  intro p e s m args below meth c s₁ B hml hv
  obtain ⟨rfl, hsz, hP, hE, hD0⟩ := hv
  have hx := B.exec
  have hb := B.bytes
  have hr := B.returns
  have hts := atoms_spec (ws := wsX9_within) B.pre
  have hown : s.vm.findClass RX9 = some m.cls := findClass_of_methodNamed B.named
  have hlocks := B.notSynchronized
  subst hsz
  have hD := hD0.self (sz := s.heap.size)
  generalize hAe : va_A [] s.heap.size = A at hD ⊢
  have hA : ∀ q : Nat, s.heap.size ≤ q → A q := fun q h => by rw [← hAe]; exact Or.inr h
  have hl := lv_entry ([.int p1, .int p2, .int p3]) (n := 3) (Nat.le_of_ble_eq_true rfl)
  rw [lg_entry_eq]
  generalize (lg_sl ([.int p1, .int p2, .int p3]) ++ List.replicate (3 - (lg_sl ([.int p1, .int p2, .int p3])).length) Slot.unset).toArray = ls at hl ⊢
  have hl : lv_has ls 3 [(0, .int p1), (1, .int p2), (2, .int p3)] := hl
  have C0 : Cx RX9 cX9_within 3 (some .boolean) wsX9_within D ct A p s m ([.int p1, .int p2, .int p3]).toArray meth c := ⟨hx, hb, hml, hown, hts, hr, hlocks, hE, hA⟩
  have hS : ∀ H : Heap, s.heap = H → va_S A s.heap H [] := fun H h => h ▸ va_S.rf
  generalize hH : s.heap = H at hP ⊢
  have hS := hS H hH
  unfold FX9_within at hF
  refine lv_iload_n hx hb dX9_within_0 rfl (lv_at hl 0 rfl) ?_
  refine lv_iload_n hx hb dX9_within_1 rfl (lv_at hl 1 rfl) ?_
  refine lv_icmp_lt (tgt := 14) hx hb dX9_within_2 (by decide) (fun c1 => ?_) (fun c1 => ?_)
  · have hF := ifT c1 hF
    refine lv_iconst (v := 0) hx hb dX9_within_14 (by decide) ?_
    obtain rfl := Option.some.inj hF
    exact W.zret hx hb hr rfl (fun t ht hW => ⟨⟨_, (), rfl, rfl, vaP_at ht hP⟩, hS.F ht⟩) hS.2.2 dX9_within_15
  · have hF := ifF c1 hF
    refine lv_iload_n hx hb dX9_within_5 rfl (lv_at hl 0 rfl) ?_
    refine lv_iload_n hx hb dX9_within_6 rfl (lv_at hl 2 rfl) ?_
    refine lv_icmp_gt (tgt := 14) hx hb dX9_within_7 (by decide) (fun c2 => ?_) (fun c2 => ?_)
    · have hF := ifT c2 hF
      refine lv_iconst (v := 0) hx hb dX9_within_14 (by decide) ?_
      obtain rfl := Option.some.inj hF
      exact W.zret hx hb hr rfl (fun t ht hW => ⟨⟨_, (), rfl, rfl, vaP_at ht hP⟩, hS.F ht⟩) hS.2.2 dX9_within_15
    · have hF := ifF c2 hF
      refine lv_iconst (v := 1) hx hb dX9_within_10 (by decide) ?_
      refine lv_goto (tgt := 15) hx hb dX9_within_11 (by decide) ?_
      obtain rfl := Option.some.inj hF
      exact W.zret hx hb hr rfl (fun t ht hW => ⟨⟨_, (), rfl, rfl, vaP_at ht hP⟩, hS.F ht⟩) hS.2.2 dX9_within_15
/-! NeedleHouse.isPosition(I)Z -/
set_option maxHeartbeats 4000000 in
set_option maxRecDepth 100000 in
theorem met_X9_isPosition (l : Launch) (D : va_G) (ct : Nat → ClassId) (sz : Nat) (p1 : Int32) (n : Nat) (o_r : Int32) (hF : FX9_isPosition n p1 = some (o_r)) : Met l yX9_isPosition wsX9_isPosition ({ frames := 1, cells := 0, slots := 0, locals := 22 } : Room) (va_Pc [.int p1] (pre_ D ct sz [])) (va_Qi (fun r (_ : Unit) => r = o_r) (fun _ t => va_P D vwCl [] t.heap) (va_A [] sz)) 0 0 (va_A [] sz) := by
  refine Met.ofW (cc := cX9_isPosition) (maxL := 1) (ret := (some .boolean)) (by decide) rfl ?_
  intro p e s m args below meth c s₁ B hml hv
  obtain ⟨rfl, hsz, hP, hE, hD0⟩ := hv
  have hx := B.exec
  have hb := B.bytes
  have hr := B.returns
  have hts := atoms_spec (ws := wsX9_isPosition) B.pre
  have hown : s.vm.findClass RX9 = some m.cls := findClass_of_methodNamed B.named
  have hlocks := B.notSynchronized
  subst hsz
  have hD := hD0.self (sz := s.heap.size)
  generalize hAe : va_A [] s.heap.size = A at hD ⊢
  have hA : ∀ q : Nat, s.heap.size ≤ q → A q := fun q h => by rw [← hAe]; exact Or.inr h
  have hl := lv_entry ([.int p1]) (n := 1) (Nat.le_of_ble_eq_true rfl)
  rw [lg_entry_eq]
  generalize (lg_sl ([.int p1]) ++ List.replicate (1 - (lg_sl ([.int p1])).length) Slot.unset).toArray = ls at hl ⊢
  have hl : lv_has ls 1 [(0, .int p1)] := hl
  have C0 : Cx RX9 cX9_isPosition 1 (some .boolean) wsX9_isPosition D ct A p s m ([.int p1]).toArray meth c := ⟨hx, hb, hml, hown, hts, hr, hlocks, hE, hA⟩
  have hS : ∀ H : Heap, s.heap = H → va_S A s.heap H [] := fun H h => h ▸ va_S.rf
  generalize hH : s.heap = H at hP ⊢
  have hS := hS H hH
  unfold FX9_isPosition at hF
  refine lv_iload_n hx hb dX9_isPosition_0 rfl (lv_at hl 0 rfl) ?_
  refine lv_ldcw hx hb hown (hts (.constant RX9 266 (-100000)) (by decide +kernel)) dX9_isPosition_1 ?_
  refine lv_ldcw hx hb hown (hts (.constant RX9 267 100000) (by decide +kernel)) dX9_isPosition_4 ?_
  obtain ⟨r1, h2, hF⟩ := ob1_ex hF
  refine xiR (va_runS (As := [.int p1, .int ((-100000)), .int 100000]) (rest := []) ⟨hx, hb, hml, hown, hts⟩ (met_X9_within l D ct H.size p1 ((-100000)) 100000 n r1 h2) (va_cwS 3 hts gX9_isPosition_X9_within rfl rfl rfl (by decide +kernel) ⟨Nat.le_of_ble_eq_true rfl, Nat.le_of_ble_eq_true rfl⟩) ⟨blind_, mkpre_ hE (hP.sub [] rfl) (hD.sub [] (by decide) rfl)⟩ rfl rfl hl.1 rfl (lv_room (Nat.le_of_ble_eq_true rfl)) dX9_isPosition_7 ⟨Nat.le_of_ble_eq_true rfl, Nat.le_of_ble_eq_true rfl⟩) hP hD hS hA [] rfl (fun H locs hP hD hS => ?_)
  obtain ⟨hz, hF⟩ := gd_ex hF
  obtain rfl := Option.some.inj hF
  exact W.zret hx hb hr hz (fun t ht hW => ⟨⟨_, (), rfl, rfl, vaP_at ht hP⟩, hS.F ht⟩) hS.2.2 dX9_isPosition_10
def W_1 (ct : Nat → ClassId) (a0 a1 : Nat) (v0 : Int32) : va_W := [(a0, .inr (2, [.ref a1, .int v0]))]
/-! NeedleHouse$Row.size()I -/
theorem i_X2_size_X2 : ∀ w ∈ wsX20, w ∈ wsX2_size := by decide +kernel
set_option maxHeartbeats 4000000 in
set_option maxRecDepth 100000 in
theorem met_X2_size (l : Launch) (D : va_G) (ct : Nat → ClassId) (q_t : Nat) (q_t_readings : Nat) (sz : Nat) (t_size : Int32) (n : Nat) (o_r : Int32) (hF : FX2_size n t_size = some (o_r)) : Met l yX2_size wsX2_size ({ frames := 0, cells := 0, slots := 0, locals := 0 } : Room) (va_Pc [.ref q_t] (pre_ D ct sz (W_1 ct q_t q_t_readings t_size))) (va_Qi (fun r (_ : Unit) => r = o_r) (fun _ t => va_P D vwCl (W_1 ct q_t q_t_readings t_size) t.heap) (va_A (W_1 ct q_t q_t_readings t_size) sz)) 0 0 (va_A (W_1 ct q_t q_t_readings t_size) sz) := by
  refine Met.ofW (cc := cX2_size) (maxL := 1) (ret := (some .int)) (by decide) rfl ?_
  intro p e s m args below meth c s₁ B hml hv
  obtain ⟨rfl, hsz, hP, hE, hD0⟩ := hv
  have hx := B.exec
  have hb := B.bytes
  have hr := B.returns
  have hts := atoms_spec (ws := wsX2_size) B.pre
  have hown : s.vm.findClass RX2 = some m.cls := findClass_of_methodNamed B.named
  have hlocks := B.notSynchronized
  subst hsz
  have hD := hD0.self (sz := s.heap.size)
  generalize hAe : va_A (W_1 ct q_t q_t_readings t_size) s.heap.size = A at hD ⊢
  have hA : ∀ q : Nat, s.heap.size ≤ q → A q := fun q h => by rw [← hAe]; exact Or.inr h
  have hl := lv_entry ([.ref q_t]) (n := 1) (Nat.le_of_ble_eq_true rfl)
  rw [lg_entry_eq]
  generalize (lg_sl ([.ref q_t]) ++ List.replicate (1 - (lg_sl ([.ref q_t])).length) Slot.unset).toArray = ls at hl ⊢
  have hl : lv_has ls 1 [(0, .ref q_t)] := hl
  have C0 : Cx RX2 cX2_size 1 (some .int) wsX2_size D ct A p s m ([.ref q_t]).toArray meth c := ⟨hx, hb, hml, hown, hts, hr, hlocks, hE, hA⟩
  have hS : ∀ H : Heap, s.heap = H → va_S A s.heap H [] := fun H h => h ▸ va_S.rf
  generalize hH : s.heap = H at hP ⊢
  have hS := hS H hH
  unfold FX2_size at hF
  refine lv_aload_n hx hb dX2_size_0 rfl (lv_at hl 0 rfl) ?_
  refine va_get (D := D) (ci := 2) (v := .int t_size) (C := RX2) (T := TX2) (N := 2) hx hb hts i_X2_size_X2 hown hE.1 hP 0 rfl rfl 1 (by decide) (hts (.fieldLink RX2 22 "NeedleHouse$Row" "size" "I") (by decide +kernel)) (fun _ h9 => h9) rfl dX2_size_1 ?_
  obtain rfl := Option.some.inj hF
  exact W.iret hx hb hr (fun t ht hW => ⟨⟨_, (), rfl, rfl, vaP_at ht hP⟩, hS.F ht⟩) hS.2.2 dX2_size_4
def W_2 (ct : Nat → ClassId) (a0 a1 : Nat) (v0 : Int32) (v1 : Nat → Int32) : va_W := [(a0, .inr (2, [.ref a1, .int v0])), (a1, .inl (ct 0, 300, .inl v1))]
/-! NeedleHouse$Row.add(I)I -/
theorem i_X2_add_X2 : ∀ w ∈ wsX20, w ∈ wsX2_add := by decide +kernel
set_option maxHeartbeats 4000000 in
set_option maxRecDepth 100000 in
theorem met_X2_add (l : Launch) (D : va_G) (ct : Nat → ClassId) (q_t : Nat) (q_t_readings : Nat) (sz : Nat) (t_size : Int32) (t_readings : Nat → Int32) (p1 : Int32) (n : Nat) (o_r : Int32) (o_t_size : Int32) (o_t_readings : Nat → Int32) (hF : FX2_add n t_size t_readings p1 = some (o_r, o_t_size, o_t_readings)) : Met l yX2_add wsX2_add ({ frames := 0, cells := 0, slots := 0, locals := 0 } : Room) (va_Pc [.ref q_t, .int p1] (pre_ D ct sz (W_2 ct q_t q_t_readings t_size t_readings))) (va_Qi (fun r (_ : Unit) => r = o_r) (fun _ t => va_P D vwCl (W_2 ct q_t q_t_readings o_t_size o_t_readings) t.heap) (va_A (W_2 ct q_t q_t_readings t_size t_readings) sz)) 0 0 (va_A (W_2 ct q_t q_t_readings t_size t_readings) sz) := by
  refine Met.ofW (cc := cX2_add) (maxL := 2) (ret := (some .int)) (by decide) rfl ?_
  intro p e s m args below meth c s₁ B hml hv
  obtain ⟨rfl, hsz, hP, hE, hD0⟩ := hv
  have hx := B.exec
  have hb := B.bytes
  have hr := B.returns
  have hts := atoms_spec (ws := wsX2_add) B.pre
  have hown : s.vm.findClass RX2 = some m.cls := findClass_of_methodNamed B.named
  have hlocks := B.notSynchronized
  subst hsz
  have hD := hD0.self (sz := s.heap.size)
  generalize hAe : va_A (W_2 ct q_t q_t_readings t_size t_readings) s.heap.size = A at hD ⊢
  have hA : ∀ q : Nat, s.heap.size ≤ q → A q := fun q h => by rw [← hAe]; exact Or.inr h
  have hl := lv_entry ([.ref q_t, .int p1]) (n := 2) (Nat.le_of_ble_eq_true rfl)
  rw [lg_entry_eq]
  generalize (lg_sl ([.ref q_t, .int p1]) ++ List.replicate (2 - (lg_sl ([.ref q_t, .int p1])).length) Slot.unset).toArray = ls at hl ⊢
  have hl : lv_has ls 2 [(0, .ref q_t), (1, .int p1)] := hl
  have C0 : Cx RX2 cX2_add 2 (some .int) wsX2_add D ct A p s m ([.ref q_t, .int p1]).toArray meth c := ⟨hx, hb, hml, hown, hts, hr, hlocks, hE, hA⟩
  have hS : ∀ H : Heap, s.heap = H → va_S A s.heap H [] := fun H h => h ▸ va_S.rf
  generalize hH : s.heap = H at hP ⊢
  have hS := hS H hH
  unfold FX2_add at hF
  refine lv_aload_n hx hb dX2_add_0 rfl (lv_at hl 0 rfl) ?_
  refine va_get (D := D) (ci := 2) (v := .int t_size) (C := RX2) (T := TX2) (N := 2) hx hb hts i_X2_add_X2 hown hE.1 hP 0 rfl rfl 1 (by decide) (hts (.fieldLink RX2 22 "NeedleHouse$Row" "size" "I") (by decide +kernel)) (fun _ h9 => h9) rfl dX2_add_1 ?_
  refine lv_aload_n hx hb dX2_add_4 rfl (lv_at hl 0 rfl) ?_
  refine va_get (D := D) (ci := 2) (v := .ref q_t_readings) (C := RX2) (T := TX2) (N := 2) hx hb hts i_X2_add_X2 hown hE.1 hP 0 rfl rfl 0 (by decide) (hts (.fieldLink RX2 9 "NeedleHouse$Row" "readings" "[I") (by decide +kernel)) (fun _ h9 => h9) rfl dX2_add_5 ?_
  refine va_alen (v := 300) hx hb hE.1 hP 1 0 rfl rfl rfl dX2_add_8 ?_
  refine lv_icmp_lt (tgt := 14) hx hb dX2_add_9 (by decide) (fun c1 => ?_) (fun c1 => ?_)
  · have hF := ifT c1 hF
    refine lv_aload_n hx hb dX2_add_14 rfl (lv_at hl 0 rfl) ?_
    refine va_get (D := D) (ci := 2) (v := .ref q_t_readings) (C := RX2) (T := TX2) (N := 2) hx hb hts i_X2_add_X2 hown hE.1 hP 0 rfl rfl 0 (by decide) (hts (.fieldLink RX2 9 "NeedleHouse$Row" "readings" "[I") (by decide +kernel)) (fun _ h9 => h9) rfl dX2_add_15 ?_
    refine lv_aload_n hx hb dX2_add_18 rfl (lv_at hl 0 rfl) ?_
    refine va_get (D := D) (ci := 2) (v := .int t_size) (C := RX2) (T := TX2) (N := 2) hx hb hts i_X2_add_X2 hown hE.1 hP 0 rfl rfl 1 (by decide) (hts (.fieldLink RX2 22 "NeedleHouse$Row" "size" "I") (by decide +kernel)) (fun _ h9 => h9) rfl dX2_add_19 ?_
    refine lv_iload_n hx hb dX2_add_22 rfl (lv_at hl 1 rfl) ?_
    obtain ⟨h2, hF⟩ := gd_ex hF
    obtain ⟨f3, ef3, hF⟩ := bn_ex hF
    refine va_iast hx hb hE.1 hP hD hS 1 0 rfl rfl h2 dX2_add_23 (fun H locs hP hD hS => ?_)
    have hP : va_P D vwCl (W_2 ct q_t q_t_readings t_size f3) H := by rw [ef3]; exact hP
    have hD : va_D A (W_2 ct q_t q_t_readings t_size f3) := by rw [ef3]; exact hD
    refine lv_aload_n hx hb dX2_add_24 rfl (lv_at hl 0 rfl) ?_
    refine lv_dup hx hb dX2_add_25 rfl ?_
    refine va_get (D := D) (ci := 2) (v := .int t_size) (C := RX2) (T := TX2) (N := 2) hx hb hts i_X2_add_X2 hown hE.1 hP 0 rfl rfl 1 (by decide) (hts (.fieldLink RX2 22 "NeedleHouse$Row" "size" "I") (by decide +kernel)) (fun _ h9 => h9) rfl dX2_add_26 ?_
    refine lv_iconst (v := 1) hx hb dX2_add_29 (by decide) ?_
    refine lv_iadd hx hb dX2_add_30 ?_
    refine lv_topi (fun x4 ex4 => ?_)
    have hF := bn_as ex4 hF
    refine va_put (D := D) (ci := 2) (v := .int x4) (ty := .int) (C := RX2) (T := TX2) (N := 2) hx hb hts i_X2_add_X2 tyX2 tyX2_ok nmX2 hown hE.1 hP hD hS 0 rfl rfl 1 (by decide) (hts (.fieldLink RX2 22 "NeedleHouse$Row" "size" "I") (by decide +kernel)) (fun _ h9 => h9) rfl (by decide +kernel) rfl rfl (Nat.le_of_ble_eq_true rfl) dX2_add_31 (fun H locs hP hD hS => ?_)
    have hP : va_P D vwCl (W_2 ct q_t q_t_readings x4 f3) H := hP
    have hD : va_D A (W_2 ct q_t q_t_readings x4 f3) := hD
    refine lv_aload_n hx hb dX2_add_34 rfl (lv_at hl 0 rfl) ?_
    refine va_get (D := D) (ci := 2) (v := .int x4) (C := RX2) (T := TX2) (N := 2) hx hb hts i_X2_add_X2 hown hE.1 hP 0 rfl rfl 1 (by decide) (hts (.fieldLink RX2 22 "NeedleHouse$Row" "size" "I") (by decide +kernel)) (fun _ h9 => h9) rfl dX2_add_35 ?_
    obtain ⟨rfl, rfl, rfl⟩ := in3 hF
    exact W.iret hx hb hr (fun t ht hW => ⟨⟨_, (), rfl, rfl, vaP_at ht hP⟩, hS.F ht⟩) hS.2.2 dX2_add_38
  · have hF := ifF c1 hF
    refine lv_iconst (v := (-1)) hx hb dX2_add_12 (by decide) ?_
    obtain ⟨rfl, rfl, rfl⟩ := in3 hF
    exact W.iret hx hb hr (fun t ht hW => ⟨⟨_, (), rfl, rfl, vaP_at ht hP⟩, hS.F ht⟩) hS.2.2 dX2_add_13
/-! NeedleHouse$Row.addLost(I)I -/
theorem i_X2_addLost_X2 : ∀ w ∈ wsX20, w ∈ wsX2_addLost := by decide +kernel
set_option maxHeartbeats 4000000 in
set_option maxRecDepth 100000 in
theorem met_X2_addLost (l : Launch) (D : va_G) (ct : Nat → ClassId) (q_t : Nat) (q_t_readings : Nat) (sz : Nat) (t_size : Int32) (t_readings : Nat → Int32) (p1 : Int32) (n : Nat) (o_r : Int32) (o_t_size : Int32) (hF : FX2_addLost n t_size p1 = some (o_r, o_t_size)) : Met l yX2_addLost wsX2_addLost ({ frames := 0, cells := 0, slots := 0, locals := 0 } : Room) (va_Pc [.ref q_t, .int p1] (pre_ D ct sz (W_2 ct q_t q_t_readings t_size t_readings))) (va_Qi (fun r (_ : Unit) => r = o_r) (fun _ t => va_P D vwCl (W_2 ct q_t q_t_readings o_t_size t_readings) t.heap) (va_A (W_2 ct q_t q_t_readings t_size t_readings) sz)) 0 0 (va_A (W_2 ct q_t q_t_readings t_size t_readings) sz) := by
  refine Met.ofW (cc := cX2_addLost) (maxL := 2) (ret := (some .int)) (by decide) rfl ?_
  intro p e s m args below meth c s₁ B hml hv
  obtain ⟨rfl, hsz, hP, hE, hD0⟩ := hv
  have hx := B.exec
  have hb := B.bytes
  have hr := B.returns
  have hts := atoms_spec (ws := wsX2_addLost) B.pre
  have hown : s.vm.findClass RX2 = some m.cls := findClass_of_methodNamed B.named
  have hlocks := B.notSynchronized
  subst hsz
  have hD := hD0.self (sz := s.heap.size)
  generalize hAe : va_A (W_2 ct q_t q_t_readings t_size t_readings) s.heap.size = A at hD ⊢
  have hA : ∀ q : Nat, s.heap.size ≤ q → A q := fun q h => by rw [← hAe]; exact Or.inr h
  have hl := lv_entry ([.ref q_t, .int p1]) (n := 2) (Nat.le_of_ble_eq_true rfl)
  rw [lg_entry_eq]
  generalize (lg_sl ([.ref q_t, .int p1]) ++ List.replicate (2 - (lg_sl ([.ref q_t, .int p1])).length) Slot.unset).toArray = ls at hl ⊢
  have hl : lv_has ls 2 [(0, .ref q_t), (1, .int p1)] := hl
  have C0 : Cx RX2 cX2_addLost 2 (some .int) wsX2_addLost D ct A p s m ([.ref q_t, .int p1]).toArray meth c := ⟨hx, hb, hml, hown, hts, hr, hlocks, hE, hA⟩
  have hS : ∀ H : Heap, s.heap = H → va_S A s.heap H [] := fun H h => h ▸ va_S.rf
  generalize hH : s.heap = H at hP ⊢
  have hS := hS H hH
  unfold FX2_addLost at hF
  refine lv_iload_n hx hb dX2_addLost_0 rfl (lv_at hl 1 rfl) ?_
  refine lv_aload_n hx hb dX2_addLost_1 rfl (lv_at hl 0 rfl) ?_
  refine va_get (D := D) (ci := 2) (v := .ref q_t_readings) (C := RX2) (T := TX2) (N := 2) hx hb hts i_X2_addLost_X2 hown hE.1 hP 0 rfl rfl 0 (by decide) (hts (.fieldLink RX2 9 "NeedleHouse$Row" "readings" "[I") (by decide +kernel)) (fun _ h9 => h9) rfl dX2_addLost_2 ?_
  refine va_alen (v := 300) hx hb hE.1 hP 1 0 rfl rfl rfl dX2_addLost_5 ?_
  refine lv_aload_n hx hb dX2_addLost_6 rfl (lv_at hl 0 rfl) ?_
  refine va_get (D := D) (ci := 2) (v := .int t_size) (C := RX2) (T := TX2) (N := 2) hx hb hts i_X2_addLost_X2 hown hE.1 hP 0 rfl rfl 1 (by decide) (hts (.fieldLink RX2 22 "NeedleHouse$Row" "size" "I") (by decide +kernel)) (fun _ h9 => h9) rfl dX2_addLost_7 ?_
  refine lv_isub hx hb dX2_addLost_10 ?_
  refine lv_icmp_le (tgt := 16) hx hb dX2_addLost_11 (by decide) (fun c1 => ?_) (fun c1 => ?_)
  · have hF := ifT c1 hF
    refine lv_aload_n hx hb dX2_addLost_16 rfl (lv_at hl 0 rfl) ?_
    refine lv_dup hx hb dX2_addLost_17 rfl ?_
    refine va_get (D := D) (ci := 2) (v := .int t_size) (C := RX2) (T := TX2) (N := 2) hx hb hts i_X2_addLost_X2 hown hE.1 hP 0 rfl rfl 1 (by decide) (hts (.fieldLink RX2 22 "NeedleHouse$Row" "size" "I") (by decide +kernel)) (fun _ h9 => h9) rfl dX2_addLost_18 ?_
    refine lv_iload_n hx hb dX2_addLost_21 rfl (lv_at hl 1 rfl) ?_
    refine lv_iadd hx hb dX2_addLost_22 ?_
    refine lv_topi (fun x2 ex2 => ?_)
    have hF := bn_as ex2 hF
    refine va_put (D := D) (ci := 2) (v := .int x2) (ty := .int) (C := RX2) (T := TX2) (N := 2) hx hb hts i_X2_addLost_X2 tyX2 tyX2_ok nmX2 hown hE.1 hP hD hS 0 rfl rfl 1 (by decide) (hts (.fieldLink RX2 22 "NeedleHouse$Row" "size" "I") (by decide +kernel)) (fun _ h9 => h9) rfl (by decide +kernel) rfl rfl (Nat.le_of_ble_eq_true rfl) dX2_addLost_23 (fun H locs hP hD hS => ?_)
    have hP : va_P D vwCl (W_2 ct q_t q_t_readings x2 t_readings) H := hP
    have hD : va_D A (W_2 ct q_t q_t_readings x2 t_readings) := hD
    refine lv_aload_n hx hb dX2_addLost_26 rfl (lv_at hl 0 rfl) ?_
    refine va_get (D := D) (ci := 2) (v := .int x2) (C := RX2) (T := TX2) (N := 2) hx hb hts i_X2_addLost_X2 hown hE.1 hP 0 rfl rfl 1 (by decide) (hts (.fieldLink RX2 22 "NeedleHouse$Row" "size" "I") (by decide +kernel)) (fun _ h9 => h9) rfl dX2_addLost_27 ?_
    obtain ⟨rfl, rfl⟩ := in2 hF
    exact W.iret hx hb hr (fun t ht hW => ⟨⟨_, (), rfl, rfl, vaP_at ht hP⟩, hS.F ht⟩) hS.2.2 dX2_addLost_30
  · have hF := ifF c1 hF
    refine lv_iconst (v := (-1)) hx hb dX2_addLost_14 (by decide) ?_
    obtain ⟨rfl, rfl⟩ := in2 hF
    exact W.iret hx hb hr (fun t ht hW => ⟨⟨_, (), rfl, rfl, vaP_at ht hP⟩, hS.F ht⟩) hS.2.2 dX2_addLost_15
/-! NeedleHouse$Row.reading(I)I -/
theorem i_X2_reading_X2 : ∀ w ∈ wsX20, w ∈ wsX2_reading := by decide +kernel
set_option maxHeartbeats 4000000 in
set_option maxRecDepth 100000 in
theorem met_X2_reading (l : Launch) (D : va_G) (ct : Nat → ClassId) (q_t : Nat) (q_t_readings : Nat) (sz : Nat) (t_size : Int32) (t_readings : Nat → Int32) (p1 : Int32) (n : Nat) (o_r : Int32) (hF : FX2_reading n t_readings p1 = some (o_r)) : Met l yX2_reading wsX2_reading ({ frames := 0, cells := 0, slots := 0, locals := 0 } : Room) (va_Pc [.ref q_t, .int p1] (pre_ D ct sz (W_2 ct q_t q_t_readings t_size t_readings))) (va_Qi (fun r (_ : Unit) => r = o_r) (fun _ t => va_P D vwCl (W_2 ct q_t q_t_readings t_size t_readings) t.heap) (va_A (W_2 ct q_t q_t_readings t_size t_readings) sz)) 0 0 (va_A (W_2 ct q_t q_t_readings t_size t_readings) sz) := by
  refine Met.ofW (cc := cX2_reading) (maxL := 2) (ret := (some .int)) (by decide) rfl ?_
  intro p e s m args below meth c s₁ B hml hv
  obtain ⟨rfl, hsz, hP, hE, hD0⟩ := hv
  have hx := B.exec
  have hb := B.bytes
  have hr := B.returns
  have hts := atoms_spec (ws := wsX2_reading) B.pre
  have hown : s.vm.findClass RX2 = some m.cls := findClass_of_methodNamed B.named
  have hlocks := B.notSynchronized
  subst hsz
  have hD := hD0.self (sz := s.heap.size)
  generalize hAe : va_A (W_2 ct q_t q_t_readings t_size t_readings) s.heap.size = A at hD ⊢
  have hA : ∀ q : Nat, s.heap.size ≤ q → A q := fun q h => by rw [← hAe]; exact Or.inr h
  have hl := lv_entry ([.ref q_t, .int p1]) (n := 2) (Nat.le_of_ble_eq_true rfl)
  rw [lg_entry_eq]
  generalize (lg_sl ([.ref q_t, .int p1]) ++ List.replicate (2 - (lg_sl ([.ref q_t, .int p1])).length) Slot.unset).toArray = ls at hl ⊢
  have hl : lv_has ls 2 [(0, .ref q_t), (1, .int p1)] := hl
  have C0 : Cx RX2 cX2_reading 2 (some .int) wsX2_reading D ct A p s m ([.ref q_t, .int p1]).toArray meth c := ⟨hx, hb, hml, hown, hts, hr, hlocks, hE, hA⟩
  have hS : ∀ H : Heap, s.heap = H → va_S A s.heap H [] := fun H h => h ▸ va_S.rf
  generalize hH : s.heap = H at hP ⊢
  have hS := hS H hH
  unfold FX2_reading at hF
  refine lv_iload_n hx hb dX2_reading_0 rfl (lv_at hl 1 rfl) ?_
  refine lv_if_lt (tgt := 13) hx hb dX2_reading_1 (by decide) (fun c1 => ?_) (fun c1 => ?_)
  · have hF := ifT c1 hF
    refine lv_ldc hx hb hown (hts (.constant RX2 15 (-2000000000)) (by decide +kernel)) dX2_reading_13 ?_
    obtain rfl := Option.some.inj hF
    exact W.iret hx hb hr (fun t ht hW => ⟨⟨_, (), rfl, rfl, vaP_at ht hP⟩, hS.F ht⟩) hS.2.2 dX2_reading_15
  · have hF := ifF c1 hF
    refine lv_iload_n hx hb dX2_reading_4 rfl (lv_at hl 1 rfl) ?_
    refine lv_aload_n hx hb dX2_reading_5 rfl (lv_at hl 0 rfl) ?_
    refine va_get (D := D) (ci := 2) (v := .ref q_t_readings) (C := RX2) (T := TX2) (N := 2) hx hb hts i_X2_reading_X2 hown hE.1 hP 0 rfl rfl 0 (by decide) (hts (.fieldLink RX2 9 "NeedleHouse$Row" "readings" "[I") (by decide +kernel)) (fun _ h9 => h9) rfl dX2_reading_6 ?_
    refine va_alen (v := 300) hx hb hE.1 hP 1 0 rfl rfl rfl dX2_reading_9 ?_
    refine lv_icmp_lt (tgt := 16) hx hb dX2_reading_10 (by decide) (fun c2 => ?_) (fun c2 => ?_)
    · have hF := ifT c2 hF
      refine lv_aload_n hx hb dX2_reading_16 rfl (lv_at hl 0 rfl) ?_
      refine va_get (D := D) (ci := 2) (v := .ref q_t_readings) (C := RX2) (T := TX2) (N := 2) hx hb hts i_X2_reading_X2 hown hE.1 hP 0 rfl rfl 0 (by decide) (hts (.fieldLink RX2 9 "NeedleHouse$Row" "readings" "[I") (by decide +kernel)) (fun _ h9 => h9) rfl dX2_reading_17 ?_
      refine lv_iload_n hx hb dX2_reading_20 rfl (lv_at hl 1 rfl) ?_
      obtain ⟨h3, hF⟩ := gd_ex hF
      refine va_iald hx hb hE.1 hP 1 0 rfl rfl h3 dX2_reading_21 ?_
      obtain rfl := Option.some.inj hF
      exact W.iret hx hb hr (fun t ht hW => ⟨⟨_, (), rfl, rfl, vaP_at ht hP⟩, hS.F ht⟩) hS.2.2 dX2_reading_22
    · have hF := ifF c2 hF
      refine lv_ldc hx hb hown (hts (.constant RX2 15 (-2000000000)) (by decide +kernel)) dX2_reading_13 ?_
      obtain rfl := Option.some.inj hF
      exact W.iret hx hb hr (fun t ht hW => ⟨⟨_, (), rfl, rfl, vaP_at ht hP⟩, hS.F ht⟩) hS.2.2 dX2_reading_15
/-! NeedleHouse$Row.canMove(II)Z -/
theorem i_X2_canMove_X2 : ∀ w ∈ wsX20, w ∈ wsX2_canMove := by decide +kernel
set_option maxHeartbeats 4000000 in
set_option maxRecDepth 100000 in
theorem jX2_canMove_2 {p : Program} {l : Launch} {e : Env} {s : State} {m : MethodId} {args : Array Value} {below : List Frame} {meth : Method} {c : Code} {D : va_G} {ct : Nat → ClassId} {A : Nat → Prop} {q_t q_t_readings : Nat} {t_size : Int32} {t_readings : Nat → Int32} {o_r : Int32} (C0 : Cx RX2 cX2_canMove 5 (some .boolean) wsX2_canMove D ct A p s m args meth c) (k2 : (Nat → Int32) → Int32 → Int32 → Option (Int32)) (hk2 : ∀ (x_2 : Int32) (x_3 : Int32) (H : Heap) (locs : List Loc) (ls : Array Slot), k2 t_readings x_2 x_3 = some (o_r) → va_P D vwCl (W_2 ct q_t q_t_readings t_size t_readings) H → va_D A (W_2 ct q_t q_t_readings t_size t_readings) → va_S A s.heap H locs → lv_has ls 5 [(0, .ref q_t), (2, .int x_2), (3, .int x_3)] → W p l e ({ frames := 1, cells := 0, slots := 0, locals := 22 } : Room) s m args below meth c H locs 0 0 (MQ below (va_Qi (fun r (_ : Unit) => r = o_r) (fun _ t => va_P D vwCl (W_2 ct q_t q_t_readings t_size t_readings) t.heap) A) args s 0 0 A) (F0 m 2 ls [])) (n : Nat) (x_2 : Int32) (x_3 : Int32) (H : Heap) (locs : List Loc) (ls : Array Slot) : JX2_canMove_2 k2 n t_readings x_2 x_3 = some (o_r) → va_P D vwCl (W_2 ct q_t q_t_readings t_size t_readings) H → va_D A (W_2 ct q_t q_t_readings t_size t_readings) → va_S A s.heap H locs → lv_has ls 5 [(0, .ref q_t), (2, .int x_2), (3, .int x_3)] → W p l e ({ frames := 1, cells := 0, slots := 0, locals := 22 } : Room) s m args below meth c H locs 0 0 (MQ below (va_Qi (fun r (_ : Unit) => r = o_r) (fun _ t => va_P D vwCl (W_2 ct q_t q_t_readings t_size t_readings) t.heap) A) args s 0 0 A) (F0 m 2 ls []) := by
  intro hF hP hD hS hl
  obtain ⟨hx, hb, hml, hown, hts, hr, hlocks, hE, hA⟩ := id C0
  unfold JX2_canMove_2 at hF
  refine lv_iload_n hx hb dX2_canMove_2 rfl (lv_at hl 2 rfl) ?_
  refine lv_aload_n hx hb dX2_canMove_3 rfl (lv_at hl 0 rfl) ?_
  refine va_get (D := D) (ci := 2) (v := .ref q_t_readings) (C := RX2) (T := TX2) (N := 2) hx hb hts i_X2_canMove_X2 hown hE.1 hP 0 rfl rfl 0 (by decide) (hts (.fieldLink RX2 9 "NeedleHouse$Row" "readings" "[I") (by decide +kernel)) (fun _ h9 => h9) rfl dX2_canMove_4 ?_
  refine va_alen (v := 300) hx hb hE.1 hP 1 0 rfl rfl rfl dX2_canMove_7 ?_
  refine lv_icmp_ge (tgt := 49) hx hb dX2_canMove_8 (by decide) (fun c1 => ?_) (fun c1 => ?_)
  · have hF := ifT c1 hF
    refine lv_iconst (v := 1) hx hb dX2_canMove_49 (by decide) ?_
    obtain rfl := Option.some.inj hF
    exact W.zret hx hb hr rfl (fun t ht hW => ⟨⟨_, (), rfl, rfl, vaP_at ht hP⟩, hS.F ht⟩) hS.2.2 dX2_canMove_50
  · have hF := ifF c1 hF
    refine lv_aload_n hx hb dX2_canMove_11 rfl (lv_at hl 0 rfl) ?_
    refine lv_iload_n hx hb dX2_canMove_12 rfl (lv_at hl 2 rfl) ?_
    obtain ⟨r2, h3, hF⟩ := ob1_ex hF
    refine xiR (va_runV (As := [.int x_3]) (rest := []) ⟨hx, hb, hml, hown, hts⟩ (met_X2_reading l D ct q_t q_t_readings H.size t_size t_readings x_3 n r2 h3) (cwV 1 hts gX2_canMove_X2_reading rfl rfl rfl (by decide +kernel) ⟨Nat.le_of_ble_eq_true rfl, Nat.le_of_ble_eq_true rfl⟩) ⟨blind_, va_recv hE.1 hP (ci := 2) (q0 := 0) rfl rfl, mkpre_ hE hP hD⟩ rfl rfl hl.1 rfl (lv_room (Nat.le_of_ble_eq_true rfl)) dX2_canMove_13 ⟨Nat.le_of_ble_eq_true rfl, Nat.le_of_ble_eq_true rfl⟩) hP hD hS hA [0, 1] rfl (fun H locs hP hD hS => ?_)
    refine lv_istore (lv' := [(4, .int r2), (0, .ref q_t), (2, .int x_2), (3, .int x_3)]) hx hb dX2_canMove_16 hl (by decide) rfl (fun ls hl => ?_)
    refine lv_iload hx hb dX2_canMove_18 (lv_at hl 0 rfl) ?_
    refine lv_ldc hx hb hown (hts (.constant RX2 15 (-2000000000)) (by decide +kernel)) dX2_canMove_20 ?_
    refine lv_icmp_eq (tgt := 43) hx hb dX2_canMove_22 (by decide) (fun c4 => ?_) (fun c4 => ?_)
    · have hF := ifT c4 hF
      obtain ⟨x5, ex5⟩ : ∃ y : Int32, y = x_3 + 1 := ⟨_, rfl⟩
      refine lv_iinc (v := x5) (lv' := [(3, .int x5), (4, .int r2), (0, .ref q_t), (2, .int x_2)]) hx hb dX2_canMove_43 hl (k := 3) rfl (by rw [ex5]; rfl) (by decide) rfl (fun ls hl => ?_)
      have hF := bn_as ex5 hF
      refine lv_goto (tgt := 2) hx hb dX2_canMove_46 (by decide) ?_
      exact hk2 x_2 x5 _ _ _ hF hP hD hS (lv_sub hl [2, 3, 0] rfl)
    · have hF := ifF c4 hF
      refine lv_iload hx hb dX2_canMove_25 (lv_at hl 0 rfl) ?_
      refine lv_iload_n hx hb dX2_canMove_27 rfl (lv_at hl 2 rfl) ?_
      refine lv_iadd hx hb dX2_canMove_28 ?_
      refine lv_sipush (v := (-30000)) hx hb dX2_canMove_29 (by decide) ?_
      refine lv_sipush (v := 30000) hx hb dX2_canMove_32 (by decide) ?_
      obtain ⟨r6, h7, hF⟩ := ob1_ex hF
      refine xiR (va_runSN (As := [.int (r2 + x_2), .int ((-30000)), .int 30000]) (rest := []) ⟨hx, hb, hml, hown, hts⟩ (met_X9_within l D ct H.size (r2 + x_2) ((-30000)) 30000 n r6 h7) ⟨va_cnB 3 hts gX2_canMove_X9_within_n34 rfl rfl rfl (NW_17 hE.2) (hts (.initialized RX9) (by decide +kernel)) (by decide +kernel) ⟨Nat.le_of_ble_eq_true rfl, Nat.le_of_ble_eq_true rfl⟩, (hts (.static yX9_within) (by decide +kernel)), trivial⟩ ⟨blind_, mkpre_ hE (hP.sub [] rfl) (hD.sub [] (by decide) rfl)⟩ rfl rfl hl.1 rfl (lv_room (Nat.le_of_ble_eq_true rfl)) dX2_canMove_35 ⟨Nat.le_of_ble_eq_true rfl, Nat.le_of_ble_eq_true rfl⟩) hP hD hS hA [] rfl (fun H locs hP hD hS => ?_)
      refine lv_if_ne (tgt := 43) hx hb dX2_canMove_38 (by decide) (fun c8 => ?_) (fun c8 => ?_)
      · have hF := ifF c8 hF
        obtain ⟨x9, ex9⟩ : ∃ y : Int32, y = x_3 + 1 := ⟨_, rfl⟩
        refine lv_iinc (v := x9) (lv' := [(3, .int x9), (4, .int r2), (0, .ref q_t), (2, .int x_2)]) hx hb dX2_canMove_43 hl (k := 3) rfl (by rw [ex9]; rfl) (by decide) rfl (fun ls hl => ?_)
        have hF := bn_as ex9 hF
        refine lv_goto (tgt := 2) hx hb dX2_canMove_46 (by decide) ?_
        exact hk2 x_2 x9 _ _ _ hF hP hD hS (lv_sub hl [2, 3, 0] rfl)
      · have hF := ifT c8 hF
        refine lv_iconst (v := 0) hx hb dX2_canMove_41 (by decide) ?_
        obtain rfl := Option.some.inj hF
        exact W.zret hx hb hr rfl (fun t ht hW => ⟨⟨_, (), rfl, rfl, vaP_at ht hP⟩, hS.F ht⟩) hS.2.2 dX2_canMove_42
theorem lX2_canMove_2 {p : Program} {l : Launch} {e : Env} {s : State} {m : MethodId} {args : Array Value} {below : List Frame} {meth : Method} {c : Code} {D : va_G} {ct : Nat → ClassId} {A : Nat → Prop} {q_t q_t_readings : Nat} {t_size : Int32} {t_readings : Nat → Int32} {o_r : Int32} (C0 : Cx RX2 cX2_canMove 5 (some .boolean) wsX2_canMove D ct A p s m args meth c) : ∀ (n : Nat) (x_2 : Int32) (x_3 : Int32) (H : Heap) (locs : List Loc) (ls : Array Slot), LX2_canMove_2 n t_readings x_2 x_3 = some (o_r) → va_P D vwCl (W_2 ct q_t q_t_readings t_size t_readings) H → va_D A (W_2 ct q_t q_t_readings t_size t_readings) → va_S A s.heap H locs → lv_has ls 5 [(0, .ref q_t), (2, .int x_2), (3, .int x_3)] → W p l e ({ frames := 1, cells := 0, slots := 0, locals := 22 } : Room) s m args below meth c H locs 0 0 (MQ below (va_Qi (fun r (_ : Unit) => r = o_r) (fun _ t => va_P D vwCl (W_2 ct q_t q_t_readings t_size t_readings) t.heap) A) args s 0 0 A) (F0 m 2 ls []) := by
  intro n
  induction n with
  | zero => intro x_2 x_3 H locs ls hF; exact nomatch (show (none : Option (Int32)) = _ from hF)
  | succ n ih => intro x_2 x_3 H locs ls hF; exact jX2_canMove_2 C0 (LX2_canMove_2 n) ih n x_2 x_3 H locs ls hF
set_option maxHeartbeats 4000000 in
set_option maxRecDepth 100000 in
theorem met_X2_canMove (l : Launch) (D : va_G) (ct : Nat → ClassId) (q_t : Nat) (q_t_readings : Nat) (sz : Nat) (t_size : Int32) (t_readings : Nat → Int32) (p1 : Int32) (p2 : Int32) (n : Nat) (o_r : Int32) (hF : FX2_canMove n t_readings p1 p2 = some (o_r)) : Met l yX2_canMove wsX2_canMove ({ frames := 1, cells := 0, slots := 0, locals := 22 } : Room) (va_Pc [.ref q_t, .int p1, .int p2] (pre_ D ct sz (W_2 ct q_t q_t_readings t_size t_readings))) (va_Qi (fun r (_ : Unit) => r = o_r) (fun _ t => va_P D vwCl (W_2 ct q_t q_t_readings t_size t_readings) t.heap) (va_A (W_2 ct q_t q_t_readings t_size t_readings) sz)) 0 0 (va_A (W_2 ct q_t q_t_readings t_size t_readings) sz) := by
  refine Met.ofW (cc := cX2_canMove) (maxL := 5) (ret := (some .boolean)) (by decide) rfl ?_
  intro p e s m args below meth c s₁ B hml hv
  obtain ⟨rfl, hsz, hP, hE, hD0⟩ := hv
  have hx := B.exec
  have hb := B.bytes
  have hr := B.returns
  have hts := atoms_spec (ws := wsX2_canMove) B.pre
  have hown : s.vm.findClass RX2 = some m.cls := findClass_of_methodNamed B.named
  have hlocks := B.notSynchronized
  subst hsz
  have hD := hD0.self (sz := s.heap.size)
  generalize hAe : va_A (W_2 ct q_t q_t_readings t_size t_readings) s.heap.size = A at hD ⊢
  have hA : ∀ q : Nat, s.heap.size ≤ q → A q := fun q h => by rw [← hAe]; exact Or.inr h
  have hl := lv_entry ([.ref q_t, .int p1, .int p2]) (n := 5) (Nat.le_of_ble_eq_true rfl)
  rw [lg_entry_eq]
  generalize (lg_sl ([.ref q_t, .int p1, .int p2]) ++ List.replicate (5 - (lg_sl ([.ref q_t, .int p1, .int p2])).length) Slot.unset).toArray = ls at hl ⊢
  have hl : lv_has ls 5 [(0, .ref q_t), (1, .int p1), (2, .int p2)] := hl
  have C0 : Cx RX2 cX2_canMove 5 (some .boolean) wsX2_canMove D ct A p s m ([.ref q_t, .int p1, .int p2]).toArray meth c := ⟨hx, hb, hml, hown, hts, hr, hlocks, hE, hA⟩
  have hS : ∀ H : Heap, s.heap = H → va_S A s.heap H [] := fun H h => h ▸ va_S.rf
  generalize hH : s.heap = H at hP ⊢
  have hS := hS H hH
  unfold FX2_canMove at hF
  refine lv_iload_n hx hb dX2_canMove_0 rfl (lv_at hl 1 rfl) ?_
  refine lv_istore_n (lv' := [(3, .int p1), (0, .ref q_t), (1, .int p1), (2, .int p2)]) hx hb dX2_canMove_1 rfl hl (by decide) rfl (fun ls hl => ?_)
  exact lX2_canMove_2 C0 n p2 p1 _ _ _ hF hP hD hS (lv_sub hl [1, 3, 0] rfl)
/-! NeedleHouse$Row.move(II)I -/
theorem i_X2_move_X2 : ∀ w ∈ wsX20, w ∈ wsX2_move := by decide +kernel
set_option maxHeartbeats 4000000 in
set_option maxRecDepth 100000 in
theorem jX2_move_20 {p : Program} {l : Launch} {e : Env} {s : State} {m : MethodId} {args : Array Value} {below : List Frame} {meth : Method} {c : Code} {D : va_G} {ct : Nat → ClassId} {A : Nat → Prop} {q_t q_t_readings : Nat} {t_size : Int32} {o_r : Int32} {o_t_readings : Nat → Int32} (C0 : Cx RX2 cX2_move 5 (some .int) wsX2_move D ct A p s m args meth c) (k20 : (Nat → Int32) → Int32 → Int32 → Int32 → Option (Int32 × (Nat → Int32))) (hk20 : ∀ (t_readings : Nat → Int32) (x_2 : Int32) (x_3 : Int32) (x_4 : Int32) (H : Heap) (locs : List Loc) (ls : Array Slot), k20 t_readings x_2 x_3 x_4 = some (o_r, o_t_readings) → va_P D vwCl (W_2 ct q_t q_t_readings t_size t_readings) H → va_D A (W_2 ct q_t q_t_readings t_size t_readings) → va_S A s.heap H locs → lv_has ls 5 [(0, .ref q_t), (2, .int x_2), (3, .int x_3), (4, .int x_4)] → W p l e ({ frames := 2, cells := 0, slots := 0, locals := 46 } : Room) s m args below meth c H locs 0 0 (MQ below (va_Qi (fun r (_ : Unit) => r = o_r) (fun _ t => va_P D vwCl (W_2 ct q_t q_t_readings t_size o_t_readings) t.heap) A) args s 0 0 A) (F0 m 20 ls [])) (n : Nat) (t_readings : Nat → Int32) (x_2 : Int32) (x_3 : Int32) (x_4 : Int32) (H : Heap) (locs : List Loc) (ls : Array Slot) : JX2_move_20 k20 n t_readings x_2 x_3 x_4 = some (o_r, o_t_readings) → va_P D vwCl (W_2 ct q_t q_t_readings t_size t_readings) H → va_D A (W_2 ct q_t q_t_readings t_size t_readings) → va_S A s.heap H locs → lv_has ls 5 [(0, .ref q_t), (2, .int x_2), (3, .int x_3), (4, .int x_4)] → W p l e ({ frames := 2, cells := 0, slots := 0, locals := 46 } : Room) s m args below meth c H locs 0 0 (MQ below (va_Qi (fun r (_ : Unit) => r = o_r) (fun _ t => va_P D vwCl (W_2 ct q_t q_t_readings t_size o_t_readings) t.heap) A) args s 0 0 A) (F0 m 20 ls []) := by
  intro hF hP hD hS hl
  obtain ⟨hx, hb, hml, hown, hts, hr, hlocks, hE, hA⟩ := id C0
  unfold JX2_move_20 at hF
  refine lv_iload hx hb dX2_move_20 (lv_at hl 3 rfl) ?_
  refine lv_aload_n hx hb dX2_move_22 rfl (lv_at hl 0 rfl) ?_
  refine va_get (D := D) (ci := 2) (v := .ref q_t_readings) (C := RX2) (T := TX2) (N := 2) hx hb hts i_X2_move_X2 hown hE.1 hP 0 rfl rfl 0 (by decide) (hts (.fieldLink RX2 9 "NeedleHouse$Row" "readings" "[I") (by decide +kernel)) (fun _ h9 => h9) rfl dX2_move_23 ?_
  refine va_alen (v := 300) hx hb hE.1 hP 1 0 rfl rfl rfl dX2_move_26 ?_
  refine lv_icmp_ge (tgt := 62) hx hb dX2_move_27 (by decide) (fun c5 => ?_) (fun c5 => ?_)
  · have hF := ifT c5 hF
    refine lv_iload_n hx hb dX2_move_62 rfl (lv_at hl 2 rfl) ?_
    obtain ⟨rfl, rfl⟩ := in2 hF
    exact W.iret hx hb hr (fun t ht hW => ⟨⟨_, (), rfl, rfl, vaP_at ht hP⟩, hS.F ht⟩) hS.2.2 dX2_move_63
  · have hF := ifF c5 hF
    refine lv_aload_n hx hb dX2_move_30 rfl (lv_at hl 0 rfl) ?_
    refine va_get (D := D) (ci := 2) (v := .ref q_t_readings) (C := RX2) (T := TX2) (N := 2) hx hb hts i_X2_move_X2 hown hE.1 hP 0 rfl rfl 0 (by decide) (hts (.fieldLink RX2 9 "NeedleHouse$Row" "readings" "[I") (by decide +kernel)) (fun _ h9 => h9) rfl dX2_move_31 ?_
    refine lv_iload hx hb dX2_move_34 (lv_at hl 3 rfl) ?_
    obtain ⟨h6, hF⟩ := gd_ex hF
    refine va_iald hx hb hE.1 hP 1 0 rfl rfl h6 dX2_move_36 ?_
    refine lv_ldc hx hb hown (hts (.constant RX2 15 (-2000000000)) (by decide +kernel)) dX2_move_37 ?_
    refine lv_icmp_eq (tgt := 56) hx hb dX2_move_39 (by decide) (fun c7 => ?_) (fun c7 => ?_)
    · have hF := ifT c7 hF
      obtain ⟨x8, ex8⟩ : ∃ y : Int32, y = x_4 + 1 := ⟨_, rfl⟩
      refine lv_iinc (v := x8) (lv' := [(4, .int x8), (0, .ref q_t), (2, .int x_2), (3, .int x_3)]) hx hb dX2_move_56 hl (k := 3) rfl (by rw [ex8]; rfl) (by decide) rfl (fun ls hl => ?_)
      have hF := bn_as ex8 hF
      refine lv_goto (tgt := 20) hx hb dX2_move_59 (by decide) ?_
      exact hk20 t_readings x_2 x_3 x8 _ _ _ hF hP hD hS (lv_sub hl [1, 2, 3, 0] rfl)
    · have hF := ifF c7 hF
      refine lv_aload_n hx hb dX2_move_42 rfl (lv_at hl 0 rfl) ?_
      refine va_get (D := D) (ci := 2) (v := .ref q_t_readings) (C := RX2) (T := TX2) (N := 2) hx hb hts i_X2_move_X2 hown hE.1 hP 0 rfl rfl 0 (by decide) (hts (.fieldLink RX2 9 "NeedleHouse$Row" "readings" "[I") (by decide +kernel)) (fun _ h9 => h9) rfl dX2_move_43 ?_
      refine lv_iload hx hb dX2_move_46 (lv_at hl 3 rfl) ?_
      refine lv_dup2_11 hx hb dX2_move_48 rfl rfl ?_
      obtain ⟨h9, hF⟩ := gd_ex hF
      refine va_iald hx hb hE.1 hP 1 0 rfl rfl h9 dX2_move_49 ?_
      refine lv_iload_n hx hb dX2_move_50 rfl (lv_at hl 1 rfl) ?_
      refine lv_iadd hx hb dX2_move_51 ?_
      obtain ⟨h10, hF⟩ := gd_ex hF
      obtain ⟨f11, ef11, hF⟩ := bn_ex hF
      refine va_iast hx hb hE.1 hP hD hS 1 0 rfl rfl h10 dX2_move_52 (fun H locs hP hD hS => ?_)
      have hP : va_P D vwCl (W_2 ct q_t q_t_readings t_size f11) H := by rw [ef11]; exact hP
      have hD : va_D A (W_2 ct q_t q_t_readings t_size f11) := by rw [ef11]; exact hD
      obtain ⟨x12, ex12⟩ : ∃ y : Int32, y = x_3 + 1 := ⟨_, rfl⟩
      refine lv_iinc (v := x12) (lv' := [(3, .int x12), (0, .ref q_t), (2, .int x_2), (4, .int x_4)]) hx hb dX2_move_53 hl (k := 2) rfl (by rw [ex12]; rfl) (by decide) rfl (fun ls hl => ?_)
      have hF := bn_as ex12 hF
      obtain ⟨x13, ex13⟩ : ∃ y : Int32, y = x_4 + 1 := ⟨_, rfl⟩
      refine lv_iinc (v := x13) (lv' := [(4, .int x13), (3, .int x12), (0, .ref q_t), (2, .int x_2)]) hx hb dX2_move_56 hl (k := 3) rfl (by rw [ex13]; rfl) (by decide) rfl (fun ls hl => ?_)
      have hF := bn_as ex13 hF
      refine lv_goto (tgt := 20) hx hb dX2_move_59 (by decide) ?_
      exact hk20 f11 x_2 x12 x13 _ _ _ hF hP hD hS (lv_sub hl [2, 3, 1, 0] rfl)
theorem lX2_move_20 {p : Program} {l : Launch} {e : Env} {s : State} {m : MethodId} {args : Array Value} {below : List Frame} {meth : Method} {c : Code} {D : va_G} {ct : Nat → ClassId} {A : Nat → Prop} {q_t q_t_readings : Nat} {t_size : Int32} {o_r : Int32} {o_t_readings : Nat → Int32} (C0 : Cx RX2 cX2_move 5 (some .int) wsX2_move D ct A p s m args meth c) : ∀ (n : Nat) (t_readings : Nat → Int32) (x_2 : Int32) (x_3 : Int32) (x_4 : Int32) (H : Heap) (locs : List Loc) (ls : Array Slot), LX2_move_20 n t_readings x_2 x_3 x_4 = some (o_r, o_t_readings) → va_P D vwCl (W_2 ct q_t q_t_readings t_size t_readings) H → va_D A (W_2 ct q_t q_t_readings t_size t_readings) → va_S A s.heap H locs → lv_has ls 5 [(0, .ref q_t), (2, .int x_2), (3, .int x_3), (4, .int x_4)] → W p l e ({ frames := 2, cells := 0, slots := 0, locals := 46 } : Room) s m args below meth c H locs 0 0 (MQ below (va_Qi (fun r (_ : Unit) => r = o_r) (fun _ t => va_P D vwCl (W_2 ct q_t q_t_readings t_size o_t_readings) t.heap) A) args s 0 0 A) (F0 m 20 ls []) := by
  intro n
  induction n with
  | zero => intro t_readings x_2 x_3 x_4 H locs ls hF; exact nomatch (show (none : Option (Int32 × (Nat → Int32))) = _ from hF)
  | succ n ih => intro t_readings x_2 x_3 x_4 H locs ls hF; exact jX2_move_20 C0 (LX2_move_20 n) ih n t_readings x_2 x_3 x_4 H locs ls hF
set_option maxHeartbeats 4000000 in
set_option maxRecDepth 100000 in
theorem met_X2_move (l : Launch) (D : va_G) (ct : Nat → ClassId) (q_t : Nat) (q_t_readings : Nat) (sz : Nat) (t_size : Int32) (t_readings : Nat → Int32) (p1 : Int32) (p2 : Int32) (n : Nat) (o_r : Int32) (o_t_readings : Nat → Int32) (hF : FX2_move n t_readings p1 p2 = some (o_r, o_t_readings)) : Met l yX2_move wsX2_move ({ frames := 2, cells := 0, slots := 0, locals := 46 } : Room) (va_Pc [.ref q_t, .int p1, .int p2] (pre_ D ct sz (W_2 ct q_t q_t_readings t_size t_readings))) (va_Qi (fun r (_ : Unit) => r = o_r) (fun _ t => va_P D vwCl (W_2 ct q_t q_t_readings t_size o_t_readings) t.heap) (va_A (W_2 ct q_t q_t_readings t_size t_readings) sz)) 0 0 (va_A (W_2 ct q_t q_t_readings t_size t_readings) sz) := by
  refine Met.ofW (cc := cX2_move) (maxL := 5) (ret := (some .int)) (by decide) rfl ?_
  intro p e s m args below meth c s₁ B hml hv
  obtain ⟨rfl, hsz, hP, hE, hD0⟩ := hv
  have hx := B.exec
  have hb := B.bytes
  have hr := B.returns
  have hts := atoms_spec (ws := wsX2_move) B.pre
  have hown : s.vm.findClass RX2 = some m.cls := findClass_of_methodNamed B.named
  have hlocks := B.notSynchronized
  subst hsz
  have hD := hD0.self (sz := s.heap.size)
  generalize hAe : va_A (W_2 ct q_t q_t_readings t_size t_readings) s.heap.size = A at hD ⊢
  have hA : ∀ q : Nat, s.heap.size ≤ q → A q := fun q h => by rw [← hAe]; exact Or.inr h
  have hl := lv_entry ([.ref q_t, .int p1, .int p2]) (n := 5) (Nat.le_of_ble_eq_true rfl)
  rw [lg_entry_eq]
  generalize (lg_sl ([.ref q_t, .int p1, .int p2]) ++ List.replicate (5 - (lg_sl ([.ref q_t, .int p1, .int p2])).length) Slot.unset).toArray = ls at hl ⊢
  have hl : lv_has ls 5 [(0, .ref q_t), (1, .int p1), (2, .int p2)] := hl
  have C0 : Cx RX2 cX2_move 5 (some .int) wsX2_move D ct A p s m ([.ref q_t, .int p1, .int p2]).toArray meth c := ⟨hx, hb, hml, hown, hts, hr, hlocks, hE, hA⟩
  have hS : ∀ H : Heap, s.heap = H → va_S A s.heap H [] := fun H h => h ▸ va_S.rf
  generalize hH : s.heap = H at hP ⊢
  have hS := hS H hH
  unfold FX2_move at hF
  refine lv_iload_n hx hb dX2_move_0 rfl (lv_at hl 1 rfl) ?_
  refine lv_if_lt (tgt := 13) hx hb dX2_move_1 (by decide) (fun c1 => ?_) (fun c1 => ?_)
  · have hF := ifT c1 hF
    refine lv_iconst (v := (-1)) hx hb dX2_move_13 (by decide) ?_
    obtain ⟨rfl, rfl⟩ := in2 hF
    exact W.iret hx hb hr (fun t ht hW => ⟨⟨_, (), rfl, rfl, vaP_at ht hP⟩, hS.F ht⟩) hS.2.2 dX2_move_14
  · have hF := ifF c1 hF
    refine lv_aload_n hx hb dX2_move_4 rfl (lv_at hl 0 rfl) ?_
    refine lv_iload_n hx hb dX2_move_5 rfl (lv_at hl 1 rfl) ?_
    refine lv_iload_n hx hb dX2_move_6 rfl (lv_at hl 2 rfl) ?_
    obtain ⟨r2, h3, hF⟩ := ob1_ex hF
    refine xiR (va_runV (As := [.int p1, .int p2]) (rest := []) ⟨hx, hb, hml, hown, hts⟩ (met_X2_canMove l D ct q_t q_t_readings H.size t_size t_readings p1 p2 n r2 h3) (cwV 2 hts gX2_move_X2_canMove rfl rfl rfl (by decide +kernel) ⟨Nat.le_of_ble_eq_true rfl, Nat.le_of_ble_eq_true rfl⟩) ⟨blind_, va_recv hE.1 hP (ci := 2) (q0 := 0) rfl rfl, mkpre_ hE hP hD⟩ rfl rfl hl.1 rfl (lv_room (Nat.le_of_ble_eq_true rfl)) dX2_move_7 ⟨Nat.le_of_ble_eq_true rfl, Nat.le_of_ble_eq_true rfl⟩) hP hD hS hA [0, 1] rfl (fun H locs hP hD hS => ?_)
    refine lv_if_ne (tgt := 15) hx hb dX2_move_10 (by decide) (fun c4 => ?_) (fun c4 => ?_)
    · have hF := ifF c4 hF
      refine lv_iconst (v := 0) hx hb dX2_move_15 (by decide) ?_
      refine lv_istore_n (lv' := [(3, .int 0), (0, .ref q_t), (1, .int p1), (2, .int p2)]) hx hb dX2_move_16 rfl hl (by decide) rfl (fun ls hl => ?_)
      refine lv_iload_n hx hb dX2_move_17 rfl (lv_at hl 2 rfl) ?_
      refine lv_istore (lv' := [(4, .int p1), (3, .int 0), (0, .ref q_t), (1, .int p1), (2, .int p2)]) hx hb dX2_move_18 hl (by decide) rfl (fun ls hl => ?_)
      exact lX2_move_20 C0 n t_readings p2 0 p1 _ _ _ hF hP hD hS (lv_sub hl [2, 4, 1, 0] rfl)
    · have hF := ifT c4 hF
      refine lv_iconst (v := (-1)) hx hb dX2_move_13 (by decide) ?_
      obtain ⟨rfl, rfl⟩ := in2 hF
      exact W.iret hx hb hr (fun t ht hW => ⟨⟨_, (), rfl, rfl, vaP_at ht hP⟩, hS.F ht⟩) hS.2.2 dX2_move_14
/-! NeedleHouse$Row.step(I)I -/
set_option maxHeartbeats 4000000 in
set_option maxRecDepth 100000 in
theorem met_X2_step (l : Launch) (D : va_G) (ct : Nat → ClassId) (q_t : Nat) (q_t_readings : Nat) (sz : Nat) (t_size : Int32) (t_readings : Nat → Int32) (p1 : Int32) (n : Nat) (o_r : Int32) (hF : FX2_step n t_readings p1 = some (o_r)) : Met l yX2_step wsX2_step ({ frames := 1, cells := 0, slots := 0, locals := 21 } : Room) (va_Pc [.ref q_t, .int p1] (pre_ D ct sz (W_2 ct q_t q_t_readings t_size t_readings))) (va_Qi (fun r (_ : Unit) => r = o_r) (fun _ t => va_P D vwCl (W_2 ct q_t q_t_readings t_size t_readings) t.heap) (va_A (W_2 ct q_t q_t_readings t_size t_readings) sz)) 0 0 (va_A (W_2 ct q_t q_t_readings t_size t_readings) sz) := by
  refine Met.ofW (cc := cX2_step) (maxL := 4) (ret := (some .int)) (by decide) rfl ?_
  intro p e s m args below meth c s₁ B hml hv
  obtain ⟨rfl, hsz, hP, hE, hD0⟩ := hv
  have hx := B.exec
  have hb := B.bytes
  have hr := B.returns
  have hts := atoms_spec (ws := wsX2_step) B.pre
  have hown : s.vm.findClass RX2 = some m.cls := findClass_of_methodNamed B.named
  have hlocks := B.notSynchronized
  subst hsz
  have hD := hD0.self (sz := s.heap.size)
  generalize hAe : va_A (W_2 ct q_t q_t_readings t_size t_readings) s.heap.size = A at hD ⊢
  have hA : ∀ q : Nat, s.heap.size ≤ q → A q := fun q h => by rw [← hAe]; exact Or.inr h
  have hl := lv_entry ([.ref q_t, .int p1]) (n := 4) (Nat.le_of_ble_eq_true rfl)
  rw [lg_entry_eq]
  generalize (lg_sl ([.ref q_t, .int p1]) ++ List.replicate (4 - (lg_sl ([.ref q_t, .int p1])).length) Slot.unset).toArray = ls at hl ⊢
  have hl : lv_has ls 4 [(0, .ref q_t), (1, .int p1)] := hl
  have C0 : Cx RX2 cX2_step 4 (some .int) wsX2_step D ct A p s m ([.ref q_t, .int p1]).toArray meth c := ⟨hx, hb, hml, hown, hts, hr, hlocks, hE, hA⟩
  have hS : ∀ H : Heap, s.heap = H → va_S A s.heap H [] := fun H h => h ▸ va_S.rf
  generalize hH : s.heap = H at hP ⊢
  have hS := hS H hH
  unfold FX2_step at hF
  refine lv_aload_n hx hb dX2_step_0 rfl (lv_at hl 0 rfl) ?_
  refine lv_iload_n hx hb dX2_step_1 rfl (lv_at hl 1 rfl) ?_
  obtain ⟨r1, h2, hF⟩ := ob1_ex hF
  refine xiR (va_runV (As := [.int p1]) (rest := []) ⟨hx, hb, hml, hown, hts⟩ (met_X2_reading l D ct q_t q_t_readings H.size t_size t_readings p1 n r1 h2) (cwV 1 hts gX2_step_X2_reading rfl rfl rfl (by decide +kernel) ⟨Nat.le_of_ble_eq_true rfl, Nat.le_of_ble_eq_true rfl⟩) ⟨blind_, va_recv hE.1 hP (ci := 2) (q0 := 0) rfl rfl, mkpre_ hE hP hD⟩ rfl rfl hl.1 rfl (lv_room (Nat.le_of_ble_eq_true rfl)) dX2_step_2 ⟨Nat.le_of_ble_eq_true rfl, Nat.le_of_ble_eq_true rfl⟩) hP hD hS hA [0, 1] rfl (fun H locs hP hD hS => ?_)
  refine lv_istore_n (lv' := [(2, .int r1), (0, .ref q_t), (1, .int p1)]) hx hb dX2_step_5 rfl hl (by decide) rfl (fun ls hl => ?_)
  refine lv_aload_n hx hb dX2_step_6 rfl (lv_at hl 1 rfl) ?_
  refine lv_iload_n hx hb dX2_step_7 rfl (lv_at hl 2 rfl) ?_
  refine lv_iconst (v := 1) hx hb dX2_step_8 (by decide) ?_
  refine lv_isub hx hb dX2_step_9 ?_
  obtain ⟨r3, h4, hF⟩ := ob1_ex hF
  refine xiR (va_runV (As := [.int (p1 - 1)]) (rest := []) ⟨hx, hb, hml, hown, hts⟩ (met_X2_reading l D ct q_t q_t_readings H.size t_size t_readings (p1 - 1) n r3 h4) (cwV 1 hts gX2_step_X2_reading rfl rfl rfl (by decide +kernel) ⟨Nat.le_of_ble_eq_true rfl, Nat.le_of_ble_eq_true rfl⟩) ⟨blind_, va_recv hE.1 hP (ci := 2) (q0 := 0) rfl rfl, mkpre_ hE hP hD⟩ rfl rfl hl.1 rfl (lv_room (Nat.le_of_ble_eq_true rfl)) dX2_step_10 ⟨Nat.le_of_ble_eq_true rfl, Nat.le_of_ble_eq_true rfl⟩) hP hD hS hA [0, 1] rfl (fun H locs hP hD hS => ?_)
  refine lv_istore_n (lv' := [(3, .int r3), (2, .int r1), (0, .ref q_t), (1, .int p1)]) hx hb dX2_step_13 rfl hl (by decide) rfl (fun ls hl => ?_)
  refine lv_iload_n hx hb dX2_step_14 rfl (lv_at hl 1 rfl) ?_
  refine lv_ldc hx hb hown (hts (.constant RX2 15 (-2000000000)) (by decide +kernel)) dX2_step_15 ?_
  refine lv_icmp_eq (tgt := 26) hx hb dX2_step_17 (by decide) (fun c5 => ?_) (fun c5 => ?_)
  · have hF := ifT c5 hF
    refine lv_iconst (v := (-1)) hx hb dX2_step_26 (by decide) ?_
    obtain rfl := Option.some.inj hF
    exact W.iret hx hb hr (fun t ht hW => ⟨⟨_, (), rfl, rfl, vaP_at ht hP⟩, hS.F ht⟩) hS.2.2 dX2_step_27
  · have hF := ifF c5 hF
    refine lv_iload_n hx hb dX2_step_20 rfl (lv_at hl 0 rfl) ?_
    refine lv_ldc hx hb hown (hts (.constant RX2 15 (-2000000000)) (by decide +kernel)) dX2_step_21 ?_
    refine lv_icmp_ne (tgt := 28) hx hb dX2_step_23 (by decide) (fun c6 => ?_) (fun c6 => ?_)
    · have hF := ifF c6 hF
      refine lv_iload_n hx hb dX2_step_28 rfl (lv_at hl 1 rfl) ?_
      refine lv_iload_n hx hb dX2_step_29 rfl (lv_at hl 0 rfl) ?_
      refine lv_isub hx hb dX2_step_30 ?_
      refine va_mabs hx hb (hml.trans hl.1.symm) hown (hts (.methodLink RX2 38 Lib.Math.abs.name) (by decide +kernel)) (hts (.static Lib.Math.abs.name) (by decide +kernel)) (hts (.initialized "java/lang/Math") (by decide +kernel)) (hts (.code Lib.Math.abs.name Lib.Math.abs.code 1 (some .int)) (by decide +kernel)) (Nat.le_of_ble_eq_true rfl) (Nat.le_of_ble_eq_true rfl) (Nat.zero_le _) (Nat.zero_le _) dX2_step_31 ?_
      obtain rfl := Option.some.inj hF
      exact W.iret hx hb hr (fun t ht hW => ⟨⟨_, (), rfl, rfl, vaP_at ht hP⟩, hS.F ht⟩) hS.2.2 dX2_step_34
    · have hF := ifT c6 hF
      refine lv_iconst (v := (-1)) hx hb dX2_step_26 (by decide) ?_
      obtain rfl := Option.some.inj hF
      exact W.iret hx hb hr (fun t ht hW => ⟨⟨_, (), rfl, rfl, vaP_at ht hP⟩, hS.F ht⟩) hS.2.2 dX2_step_27
