def W_29 (ct : Nat → ClassId) (a0 a1 : Nat) (v0 : Int32) (v1 : Int32) (v2 : Int32) (v3 : Int32) (v4 : Int32) : va_W := [(a0, .inr (4, [.ref a1, .int v0, .int v1, .int v2, .int v3, .int v4]))]
/-! NeedleHouse$RuleReader.faultKind()I -/
theorem i_X4_faultKind_X4 : ∀ w ∈ wsX40, w ∈ wsX4_faultKind := by decide +kernel
set_option maxHeartbeats 4000000 in
set_option maxRecDepth 100000 in
theorem met_X4_faultKind (l : Launch) (D : va_G) (ct : Nat → ClassId) (q_t : Nat) (q_t_tape : Nat) (sz : Nat) (t_length : Int32) (t_place : Int32) (t_numberPlace : Int32) (t_faultKind : Int32) (t_faultPlace : Int32) (n : Nat) (o_r : Int32) (hF : FX4_faultKind n t_faultKind = some (o_r)) : Met l yX4_faultKind wsX4_faultKind ({ frames := 0, cells := 0, slots := 0, locals := 0 } : Room) (va_Pc [.ref q_t] (pre_ D ct sz (W_29 ct q_t q_t_tape t_length t_place t_numberPlace t_faultKind t_faultPlace))) (va_Qi (fun r (_ : Unit) => r = o_r) (fun _ t => va_P D vwCl (W_29 ct q_t q_t_tape t_length t_place t_numberPlace t_faultKind t_faultPlace) t.heap) (va_A (W_29 ct q_t q_t_tape t_length t_place t_numberPlace t_faultKind t_faultPlace) sz)) 0 0 (va_A (W_29 ct q_t q_t_tape t_length t_place t_numberPlace t_faultKind t_faultPlace) sz) := by
  refine Met.ofW (cc := cX4_faultKind) (maxL := 1) (ret := (some .int)) (by decide) rfl ?_
  intro p e s m args below meth c s₁ B hml hv
  obtain ⟨rfl, hsz, hP, hE, hD0⟩ := hv
  have hx := B.exec
  have hb := B.bytes
  have hr := B.returns
  have hts := atoms_spec (ws := wsX4_faultKind) B.pre
  have hown : s.vm.findClass RX4 = some m.cls := findClass_of_methodNamed B.named
  have hlocks := B.notSynchronized
  subst hsz
  have hD := hD0.self (sz := s.heap.size)
  generalize hAe : va_A (W_29 ct q_t q_t_tape t_length t_place t_numberPlace t_faultKind t_faultPlace) s.heap.size = A at hD ⊢
  have hA : ∀ q : Nat, s.heap.size ≤ q → A q := fun q h => by rw [← hAe]; exact Or.inr h
  have hl := lv_entry ([.ref q_t]) (n := 1) (Nat.le_of_ble_eq_true rfl)
  rw [lg_entry_eq]
  generalize (lg_sl ([.ref q_t]) ++ List.replicate (1 - (lg_sl ([.ref q_t])).length) Slot.unset).toArray = ls at hl ⊢
  have hl : lv_has ls 1 [(0, .ref q_t)] := hl
  have C0 : Cx RX4 cX4_faultKind 1 (some .int) wsX4_faultKind D ct A p s m ([.ref q_t]).toArray meth c := ⟨hx, hb, hml, hown, hts, hr, hlocks, hE, hA⟩
  have hS : ∀ H : Heap, s.heap = H → va_S A s.heap H [] := fun H h => h ▸ va_S.rf
  generalize hH : s.heap = H at hP ⊢
  have hS := hS H hH
  unfold FX4_faultKind at hF
  refine lv_aload_n hx hb dX4_faultKind_0 rfl (lv_at hl 0 rfl) ?_
  refine va_get (D := D) (ci := 4) (v := .int t_faultKind) (C := RX4) (T := TX4) (N := 6) hx hb hts i_X4_faultKind_X4 hown hE.1 hP 0 rfl rfl 4 (by decide) (hts (.fieldLink RX4 28 "NeedleHouse$RuleReader" "faultKind" "I") (by decide +kernel)) (fun _ h9 => h9) rfl dX4_faultKind_1 ?_
  obtain rfl := Option.some.inj hF
  exact W.iret hx hb hr (fun t ht hW => ⟨⟨_, (), rfl, rfl, vaP_at ht hP⟩, hS.F ht⟩) hS.2.2 dX4_faultKind_4
/-! NeedleHouse$RuleReader.faultPlace()I -/
theorem i_X4_faultPlace_X4 : ∀ w ∈ wsX40, w ∈ wsX4_faultPlace := by decide +kernel
set_option maxHeartbeats 4000000 in
set_option maxRecDepth 100000 in
theorem met_X4_faultPlace (l : Launch) (D : va_G) (ct : Nat → ClassId) (q_t : Nat) (q_t_tape : Nat) (sz : Nat) (t_length : Int32) (t_place : Int32) (t_numberPlace : Int32) (t_faultKind : Int32) (t_faultPlace : Int32) (n : Nat) (o_r : Int32) (hF : FX4_faultPlace n t_faultPlace = some (o_r)) : Met l yX4_faultPlace wsX4_faultPlace ({ frames := 0, cells := 0, slots := 0, locals := 0 } : Room) (va_Pc [.ref q_t] (pre_ D ct sz (W_29 ct q_t q_t_tape t_length t_place t_numberPlace t_faultKind t_faultPlace))) (va_Qi (fun r (_ : Unit) => r = o_r) (fun _ t => va_P D vwCl (W_29 ct q_t q_t_tape t_length t_place t_numberPlace t_faultKind t_faultPlace) t.heap) (va_A (W_29 ct q_t q_t_tape t_length t_place t_numberPlace t_faultKind t_faultPlace) sz)) 0 0 (va_A (W_29 ct q_t q_t_tape t_length t_place t_numberPlace t_faultKind t_faultPlace) sz) := by
  refine Met.ofW (cc := cX4_faultPlace) (maxL := 1) (ret := (some .int)) (by decide) rfl ?_
  intro p e s m args below meth c s₁ B hml hv
  obtain ⟨rfl, hsz, hP, hE, hD0⟩ := hv
  have hx := B.exec
  have hb := B.bytes
  have hr := B.returns
  have hts := atoms_spec (ws := wsX4_faultPlace) B.pre
  have hown : s.vm.findClass RX4 = some m.cls := findClass_of_methodNamed B.named
  have hlocks := B.notSynchronized
  subst hsz
  have hD := hD0.self (sz := s.heap.size)
  generalize hAe : va_A (W_29 ct q_t q_t_tape t_length t_place t_numberPlace t_faultKind t_faultPlace) s.heap.size = A at hD ⊢
  have hA : ∀ q : Nat, s.heap.size ≤ q → A q := fun q h => by rw [← hAe]; exact Or.inr h
  have hl := lv_entry ([.ref q_t]) (n := 1) (Nat.le_of_ble_eq_true rfl)
  rw [lg_entry_eq]
  generalize (lg_sl ([.ref q_t]) ++ List.replicate (1 - (lg_sl ([.ref q_t])).length) Slot.unset).toArray = ls at hl ⊢
  have hl : lv_has ls 1 [(0, .ref q_t)] := hl
  have C0 : Cx RX4 cX4_faultPlace 1 (some .int) wsX4_faultPlace D ct A p s m ([.ref q_t]).toArray meth c := ⟨hx, hb, hml, hown, hts, hr, hlocks, hE, hA⟩
  have hS : ∀ H : Heap, s.heap = H → va_S A s.heap H [] := fun H h => h ▸ va_S.rf
  generalize hH : s.heap = H at hP ⊢
  have hS := hS H hH
  unfold FX4_faultPlace at hF
  refine lv_aload_n hx hb dX4_faultPlace_0 rfl (lv_at hl 0 rfl) ?_
  refine va_get (D := D) (ci := 4) (v := .int t_faultPlace) (C := RX4) (T := TX4) (N := 6) hx hb hts i_X4_faultPlace_X4 hown hE.1 hP 0 rfl rfl 5 (by decide) (hts (.fieldLink RX4 31 "NeedleHouse$RuleReader" "faultPlace" "I") (by decide +kernel)) (fun _ h9 => h9) rfl dX4_faultPlace_1 ?_
  obtain rfl := Option.some.inj hF
  exact W.iret hx hb hr (fun t ht hW => ⟨⟨_, (), rfl, rfl, vaP_at ht hP⟩, hS.F ht⟩) hS.2.2 dX4_faultPlace_4
/-! NeedleHouse$RuleReader.refuse(II)Z -/
theorem i_X4_refuse_X4 : ∀ w ∈ wsX40, w ∈ wsX4_refuse := by decide +kernel
set_option maxHeartbeats 4000000 in
set_option maxRecDepth 100000 in
theorem met_X4_refuse (l : Launch) (D : va_G) (ct : Nat → ClassId) (q_t : Nat) (q_t_tape : Nat) (sz : Nat) (t_length : Int32) (t_place : Int32) (t_numberPlace : Int32) (t_faultKind : Int32) (t_faultPlace : Int32) (p1 : Int32) (p2 : Int32) (n : Nat) (o_r : Int32) (o_t_faultKind : Int32) (o_t_faultPlace : Int32) (hF : FX4_refuse n t_faultKind t_faultPlace p1 p2 = some (o_r, o_t_faultKind, o_t_faultPlace)) : Met l yX4_refuse wsX4_refuse ({ frames := 0, cells := 0, slots := 0, locals := 0 } : Room) (va_Pc [.ref q_t, .int p1, .int p2] (pre_ D ct sz (W_29 ct q_t q_t_tape t_length t_place t_numberPlace t_faultKind t_faultPlace))) (va_Qi (fun r (_ : Unit) => r = o_r) (fun _ t => va_P D vwCl (W_29 ct q_t q_t_tape t_length t_place t_numberPlace o_t_faultKind o_t_faultPlace) t.heap) (va_A (W_29 ct q_t q_t_tape t_length t_place t_numberPlace t_faultKind t_faultPlace) sz)) 0 0 (va_A (W_29 ct q_t q_t_tape t_length t_place t_numberPlace t_faultKind t_faultPlace) sz) := by
  refine Met.ofW (cc := cX4_refuse) (maxL := 3) (ret := (some .boolean)) (by decide) rfl ?_
  intro p e s m args below meth c s₁ B hml hv
  obtain ⟨rfl, hsz, hP, hE, hD0⟩ := hv
  have hx := B.exec
  have hb := B.bytes
  have hr := B.returns
  have hts := atoms_spec (ws := wsX4_refuse) B.pre
  have hown : s.vm.findClass RX4 = some m.cls := findClass_of_methodNamed B.named
  have hlocks := B.notSynchronized
  subst hsz
  have hD := hD0.self (sz := s.heap.size)
  generalize hAe : va_A (W_29 ct q_t q_t_tape t_length t_place t_numberPlace t_faultKind t_faultPlace) s.heap.size = A at hD ⊢
  have hA : ∀ q : Nat, s.heap.size ≤ q → A q := fun q h => by rw [← hAe]; exact Or.inr h
  have hl := lv_entry ([.ref q_t, .int p1, .int p2]) (n := 3) (Nat.le_of_ble_eq_true rfl)
  rw [lg_entry_eq]
  generalize (lg_sl ([.ref q_t, .int p1, .int p2]) ++ List.replicate (3 - (lg_sl ([.ref q_t, .int p1, .int p2])).length) Slot.unset).toArray = ls at hl ⊢
  have hl : lv_has ls 3 [(0, .ref q_t), (1, .int p1), (2, .int p2)] := hl
  have C0 : Cx RX4 cX4_refuse 3 (some .boolean) wsX4_refuse D ct A p s m ([.ref q_t, .int p1, .int p2]).toArray meth c := ⟨hx, hb, hml, hown, hts, hr, hlocks, hE, hA⟩
  have hS : ∀ H : Heap, s.heap = H → va_S A s.heap H [] := fun H h => h ▸ va_S.rf
  generalize hH : s.heap = H at hP ⊢
  have hS := hS H hH
  unfold FX4_refuse at hF
  refine lv_aload_n hx hb dX4_refuse_0 rfl (lv_at hl 0 rfl) ?_
  refine lv_iload_n hx hb dX4_refuse_1 rfl (lv_at hl 1 rfl) ?_
  refine va_put (D := D) (ci := 4) (v := .int p1) (ty := .int) (C := RX4) (T := TX4) (N := 6) hx hb hts i_X4_refuse_X4 tyX4 tyX4_ok nmX4 hown hE.1 hP hD hS 0 rfl rfl 4 (by decide) (hts (.fieldLink RX4 28 "NeedleHouse$RuleReader" "faultKind" "I") (by decide +kernel)) (fun _ h9 => h9) rfl (by decide +kernel) rfl rfl (Nat.le_of_ble_eq_true rfl) dX4_refuse_2 (fun H locs hP hD hS => ?_)
  have hP : va_P D vwCl (W_29 ct q_t q_t_tape t_length t_place t_numberPlace p1 t_faultPlace) H := hP
  have hD : va_D A (W_29 ct q_t q_t_tape t_length t_place t_numberPlace p1 t_faultPlace) := hD
  refine lv_aload_n hx hb dX4_refuse_5 rfl (lv_at hl 0 rfl) ?_
  refine lv_iload_n hx hb dX4_refuse_6 rfl (lv_at hl 2 rfl) ?_
  refine va_put (D := D) (ci := 4) (v := .int p2) (ty := .int) (C := RX4) (T := TX4) (N := 6) hx hb hts i_X4_refuse_X4 tyX4 tyX4_ok nmX4 hown hE.1 hP hD hS 0 rfl rfl 5 (by decide) (hts (.fieldLink RX4 31 "NeedleHouse$RuleReader" "faultPlace" "I") (by decide +kernel)) (fun _ h9 => h9) rfl (by decide +kernel) rfl rfl (Nat.le_of_ble_eq_true rfl) dX4_refuse_7 (fun H locs hP hD hS => ?_)
  have hP : va_P D vwCl (W_29 ct q_t q_t_tape t_length t_place t_numberPlace p1 p2) H := hP
  have hD : va_D A (W_29 ct q_t q_t_tape t_length t_place t_numberPlace p1 p2) := hD
  refine lv_iconst (v := 0) hx hb dX4_refuse_10 (by decide) ?_
  obtain ⟨rfl, rfl, rfl⟩ := in3 hF
  exact W.zret hx hb hr rfl (fun t ht hW => ⟨⟨_, (), rfl, rfl, vaP_at ht hP⟩, hS.F ht⟩) hS.2.2 dX4_refuse_11
def W_30 (ct : Nat → ClassId) (a0 a1 a2 : Nat) (v0 : Int32) (v1 : Int32) (v2 : Int32) (v3 : Int32) (v4 : Int32) (v5 : Int32) (v6 : Nat → Int32) : va_W := [(a0, .inr (4, [.ref a1, .int v0, .int v1, .int v2, .int v3, .int v4])), (a1, .inr (5, [.ref a2, .int v5])), (a2, .inl (ct 0, 300, .inl v6))]
/-! NeedleHouse$RuleReader.look()I -/
theorem i_X4_look_X4 : ∀ w ∈ wsX40, w ∈ wsX4_look := by decide +kernel
set_option maxHeartbeats 4000000 in
set_option maxRecDepth 100000 in
theorem met_X4_look (l : Launch) (D : va_G) (ct : Nat → ClassId) (q_t : Nat) (q_t_tape : Nat) (q_t_tape_bytes : Nat) (sz : Nat) (t_length : Int32) (t_place : Int32) (t_numberPlace : Int32) (t_faultKind : Int32) (t_faultPlace : Int32) (t_tape_size : Int32) (t_tape_bytes : Nat → Int32) (n : Nat) (o_r : Int32) (hF : FX4_look n t_length t_place t_tape_size t_tape_bytes = some (o_r)) : Met l yX4_look wsX4_look ({ frames := 1, cells := 0, slots := 0, locals := 21 } : Room) (va_Pc [.ref q_t] (pre_ D ct sz (W_30 ct q_t q_t_tape q_t_tape_bytes t_length t_place t_numberPlace t_faultKind t_faultPlace t_tape_size t_tape_bytes))) (va_Qi (fun r (_ : Unit) => r = o_r) (fun _ t => va_P D vwCl (W_30 ct q_t q_t_tape q_t_tape_bytes t_length t_place t_numberPlace t_faultKind t_faultPlace t_tape_size t_tape_bytes) t.heap) (va_A (W_30 ct q_t q_t_tape q_t_tape_bytes t_length t_place t_numberPlace t_faultKind t_faultPlace t_tape_size t_tape_bytes) sz)) 0 0 (va_A (W_30 ct q_t q_t_tape q_t_tape_bytes t_length t_place t_numberPlace t_faultKind t_faultPlace t_tape_size t_tape_bytes) sz) := by
  refine Met.ofW (cc := cX4_look) (maxL := 1) (ret := (some .int)) (by decide) rfl ?_
  intro p e s m args below meth c s₁ B hml hv
  obtain ⟨rfl, hsz, hP, hE, hD0⟩ := hv
  have hx := B.exec
  have hb := B.bytes
  have hr := B.returns
  have hts := atoms_spec (ws := wsX4_look) B.pre
  have hown : s.vm.findClass RX4 = some m.cls := findClass_of_methodNamed B.named
  have hlocks := B.notSynchronized
  subst hsz
  have hD := hD0.self (sz := s.heap.size)
  generalize hAe : va_A (W_30 ct q_t q_t_tape q_t_tape_bytes t_length t_place t_numberPlace t_faultKind t_faultPlace t_tape_size t_tape_bytes) s.heap.size = A at hD ⊢
  have hA : ∀ q : Nat, s.heap.size ≤ q → A q := fun q h => by rw [← hAe]; exact Or.inr h
  have hl := lv_entry ([.ref q_t]) (n := 1) (Nat.le_of_ble_eq_true rfl)
  rw [lg_entry_eq]
  generalize (lg_sl ([.ref q_t]) ++ List.replicate (1 - (lg_sl ([.ref q_t])).length) Slot.unset).toArray = ls at hl ⊢
  have hl : lv_has ls 1 [(0, .ref q_t)] := hl
  have C0 : Cx RX4 cX4_look 1 (some .int) wsX4_look D ct A p s m ([.ref q_t]).toArray meth c := ⟨hx, hb, hml, hown, hts, hr, hlocks, hE, hA⟩
  have hS : ∀ H : Heap, s.heap = H → va_S A s.heap H [] := fun H h => h ▸ va_S.rf
  generalize hH : s.heap = H at hP ⊢
  have hS := hS H hH
  unfold FX4_look at hF
  refine lv_aload_n hx hb dX4_look_0 rfl (lv_at hl 0 rfl) ?_
  refine va_get (D := D) (ci := 4) (v := .int t_place) (C := RX4) (T := TX4) (N := 6) hx hb hts i_X4_look_X4 hown hE.1 hP 0 rfl rfl 2 (by decide) (hts (.fieldLink RX4 22 "NeedleHouse$RuleReader" "place" "I") (by decide +kernel)) (fun _ h9 => h9) rfl dX4_look_1 ?_
  refine lv_aload_n hx hb dX4_look_4 rfl (lv_at hl 0 rfl) ?_
  refine va_get (D := D) (ci := 4) (v := .int t_length) (C := RX4) (T := TX4) (N := 6) hx hb hts i_X4_look_X4 hown hE.1 hP 0 rfl rfl 1 (by decide) (hts (.fieldLink RX4 18 "NeedleHouse$RuleReader" "length" "I") (by decide +kernel)) (fun _ h9 => h9) rfl dX4_look_5 ?_
  refine lv_icmp_ge (tgt := 25) hx hb dX4_look_8 (by decide) (fun c1 => ?_) (fun c1 => ?_)
  · have hF := ifT c1 hF
    refine lv_iconst (v := (-1)) hx hb dX4_look_25 (by decide) ?_
    obtain rfl := Option.some.inj hF
    exact W.iret hx hb hr (fun t ht hW => ⟨⟨_, (), rfl, rfl, vaP_at ht hP⟩, hS.F ht⟩) hS.2.2 dX4_look_26
  · have hF := ifF c1 hF
    refine lv_aload_n hx hb dX4_look_11 rfl (lv_at hl 0 rfl) ?_
    refine va_get (D := D) (ci := 4) (v := .ref q_t_tape) (C := RX4) (T := TX4) (N := 6) hx hb hts i_X4_look_X4 hown hE.1 hP 0 rfl rfl 0 (by decide) (hts (.fieldLink RX4 12 "NeedleHouse$RuleReader" "tape" "LNeedleHouse$Tape;") (by decide +kernel)) (fun _ h9 => h9) rfl dX4_look_12 ?_
    refine lv_aload_n hx hb dX4_look_15 rfl (lv_at hl 0 rfl) ?_
    refine va_get (D := D) (ci := 4) (v := .int t_place) (C := RX4) (T := TX4) (N := 6) hx hb hts i_X4_look_X4 hown hE.1 hP 0 rfl rfl 2 (by decide) (hts (.fieldLink RX4 22 "NeedleHouse$RuleReader" "place" "I") (by decide +kernel)) (fun _ h9 => h9) rfl dX4_look_16 ?_
    obtain ⟨r2, h3, hF⟩ := ob1_ex hF
    refine xiR (va_runV (As := [.int t_place]) (rest := []) ⟨hx, hb, hml, hown, hts⟩ (met_X5_byteAt l D ct q_t_tape q_t_tape_bytes H.size t_tape_size t_tape_bytes t_place n r2 h3) (cwV 1 hts gX4_look_X5_byteAt rfl rfl rfl (by decide +kernel) ⟨Nat.le_of_ble_eq_true rfl, Nat.le_of_ble_eq_true rfl⟩) ⟨blind_, va_recv hE.1 hP (ci := 5) (q0 := 1) rfl rfl, mkpre_ hE (hP.sub [1, 2] rfl) (hD.sub [1, 2] (by decide) rfl)⟩ rfl rfl hl.1 rfl (lv_room (Nat.le_of_ble_eq_true rfl)) dX4_look_19 ⟨Nat.le_of_ble_eq_true rfl, Nat.le_of_ble_eq_true rfl⟩) hP hD hS hA [1, 2] rfl (fun H locs hP hD hS => ?_)
    refine lv_goto (tgt := 26) hx hb dX4_look_22 (by decide) ?_
    obtain rfl := Option.some.inj hF
    exact W.iret hx hb hr (fun t ht hW => ⟨⟨_, (), rfl, rfl, vaP_at ht hP⟩, hS.F ht⟩) hS.2.2 dX4_look_26
/-! NeedleHouse$RuleReader.isDigit(I)Z -/
set_option maxHeartbeats 4000000 in
set_option maxRecDepth 100000 in
theorem met_X4_isDigit (l : Launch) (D : va_G) (ct : Nat → ClassId) (sz : Nat) (p1 : Int32) (n : Nat) (o_r : Int32) (hF : FX4_isDigit n p1 = some (o_r)) : Met l yX4_isDigit wsX4_isDigit ({ frames := 1, cells := 0, slots := 0, locals := 22 } : Room) (va_Pc [.int p1] (pre_ D ct sz [])) (va_Qi (fun r (_ : Unit) => r = o_r) (fun _ t => va_P D vwCl [] t.heap) (va_A [] sz)) 0 0 (va_A [] sz) := by
  refine Met.ofW (cc := cX4_isDigit) (maxL := 1) (ret := (some .boolean)) (by decide) rfl ?_
  intro p e s m args below meth c s₁ B hml hv
  obtain ⟨rfl, hsz, hP, hE, hD0⟩ := hv
  have hx := B.exec
  have hb := B.bytes
  have hr := B.returns
  have hts := atoms_spec (ws := wsX4_isDigit) B.pre
  have hown : s.vm.findClass RX4 = some m.cls := findClass_of_methodNamed B.named
  have hlocks := B.notSynchronized
  subst hsz
  have hD := hD0.self (sz := s.heap.size)
  generalize hAe : va_A [] s.heap.size = A at hD ⊢
  have hA : ∀ q : Nat, s.heap.size ≤ q → A q := fun q h => by rw [← hAe]; exact Or.inr h
  have hl := lv_entry ([.int p1]) (n := 1) (Nat.le_of_ble_eq_true rfl)
  rw [lg_entry_eq]
  generalize (lg_sl ([.int p1]) ++ List.replicate (1 - (lg_sl ([.int p1])).length) Slot.unset).toArray = ls at hl ⊢
  have hl : lv_has ls 1 [(0, .int p1)] := hl
  have C0 : Cx RX4 cX4_isDigit 1 (some .boolean) wsX4_isDigit D ct A p s m ([.int p1]).toArray meth c := ⟨hx, hb, hml, hown, hts, hr, hlocks, hE, hA⟩
  have hS : ∀ H : Heap, s.heap = H → va_S A s.heap H [] := fun H h => h ▸ va_S.rf
  generalize hH : s.heap = H at hP ⊢
  have hS := hS H hH
  unfold FX4_isDigit at hF
  refine lv_iload_n hx hb dX4_isDigit_0 rfl (lv_at hl 0 rfl) ?_
  refine lv_bipush (v := 48) hx hb dX4_isDigit_1 (by decide) ?_
  refine lv_bipush (v := 57) hx hb dX4_isDigit_3 (by decide) ?_
  obtain ⟨r1, h2, hF⟩ := ob1_ex hF
  refine xiR (va_runSN (As := [.int p1, .int 48, .int 57]) (rest := []) ⟨hx, hb, hml, hown, hts⟩ (met_X9_within l D ct H.size p1 48 57 n r1 h2) ⟨va_cnB 3 hts gX4_isDigit_X9_within_n100 rfl rfl rfl (NW_18 hE.2) (hts (.initialized RX9) (by decide +kernel)) (by decide +kernel) ⟨Nat.le_of_ble_eq_true rfl, Nat.le_of_ble_eq_true rfl⟩, (hts (.static yX9_within) (by decide +kernel)), trivial⟩ ⟨blind_, mkpre_ hE (hP.sub [] rfl) (hD.sub [] (by decide) rfl)⟩ rfl rfl hl.1 rfl (lv_room (Nat.le_of_ble_eq_true rfl)) dX4_isDigit_5 ⟨Nat.le_of_ble_eq_true rfl, Nat.le_of_ble_eq_true rfl⟩) hP hD hS hA [] rfl (fun H locs hP hD hS => ?_)
  obtain ⟨hz, hF⟩ := gd_ex hF
  obtain rfl := Option.some.inj hF
  exact W.zret hx hb hr hz (fun t ht hW => ⟨⟨_, (), rfl, rfl, vaP_at ht hP⟩, hS.F ht⟩) hS.2.2 dX4_isDigit_8
/-! NeedleHouse$RuleReader.skipBlanks()V -/
theorem i_X4_skipBlanks_X4 : ∀ w ∈ wsX40, w ∈ wsX4_skipBlanks := by decide +kernel
set_option maxHeartbeats 4000000 in
set_option maxRecDepth 100000 in
theorem jX4_skipBlanks_0 {p : Program} {l : Launch} {e : Env} {s : State} {m : MethodId} {args : Array Value} {below : List Frame} {meth : Method} {c : Code} {D : va_G} {ct : Nat → ClassId} {A : Nat → Prop} {q_t q_t_tape q_t_tape_bytes : Nat} {t_length : Int32} {t_numberPlace : Int32} {t_faultKind : Int32} {t_faultPlace : Int32} {t_tape_size : Int32} {t_tape_bytes : Nat → Int32} {o_t_place : Int32} (C0 : Cx RX4 cX4_skipBlanks 1 none wsX4_skipBlanks D ct A p s m args meth c) (k0 : Int32 → Int32 → Int32 → (Nat → Int32) → Option (Int32)) (hk0 : ∀ (t_place : Int32) (H : Heap) (locs : List Loc) (ls : Array Slot), k0 t_length t_place t_tape_size t_tape_bytes = some (o_t_place) → va_P D vwCl (W_30 ct q_t q_t_tape q_t_tape_bytes t_length t_place t_numberPlace t_faultKind t_faultPlace t_tape_size t_tape_bytes) H → va_D A (W_30 ct q_t q_t_tape q_t_tape_bytes t_length t_place t_numberPlace t_faultKind t_faultPlace t_tape_size t_tape_bytes) → va_S A s.heap H locs → lv_has ls 1 [(0, .ref q_t)] → W p l e ({ frames := 2, cells := 0, slots := 0, locals := 41 } : Room) s m args below meth c H locs 0 0 (MQ below (va_Qv (fun (_ : Unit) => True) (fun _ t => va_P D vwCl (W_30 ct q_t q_t_tape q_t_tape_bytes t_length o_t_place t_numberPlace t_faultKind t_faultPlace t_tape_size t_tape_bytes) t.heap) A) args s 0 0 A) (F0 m 0 ls [])) (n : Nat) (t_place : Int32) (H : Heap) (locs : List Loc) (ls : Array Slot) : JX4_skipBlanks_0 k0 n t_length t_place t_tape_size t_tape_bytes = some (o_t_place) → va_P D vwCl (W_30 ct q_t q_t_tape q_t_tape_bytes t_length t_place t_numberPlace t_faultKind t_faultPlace t_tape_size t_tape_bytes) H → va_D A (W_30 ct q_t q_t_tape q_t_tape_bytes t_length t_place t_numberPlace t_faultKind t_faultPlace t_tape_size t_tape_bytes) → va_S A s.heap H locs → lv_has ls 1 [(0, .ref q_t)] → W p l e ({ frames := 2, cells := 0, slots := 0, locals := 41 } : Room) s m args below meth c H locs 0 0 (MQ below (va_Qv (fun (_ : Unit) => True) (fun _ t => va_P D vwCl (W_30 ct q_t q_t_tape q_t_tape_bytes t_length o_t_place t_numberPlace t_faultKind t_faultPlace t_tape_size t_tape_bytes) t.heap) A) args s 0 0 A) (F0 m 0 ls []) := by
  intro hF hP hD hS hl
  obtain ⟨hx, hb, hml, hown, hts, hr, hlocks, hE, hA⟩ := id C0
  unfold JX4_skipBlanks_0 at hF
  refine lv_aload_n hx hb dX4_skipBlanks_0 rfl (lv_at hl 0 rfl) ?_
  refine va_get (D := D) (ci := 4) (v := .int t_place) (C := RX4) (T := TX4) (N := 6) hx hb hts i_X4_skipBlanks_X4 hown hE.1 hP 0 rfl rfl 2 (by decide) (hts (.fieldLink RX4 22 "NeedleHouse$RuleReader" "place" "I") (by decide +kernel)) (fun _ h9 => h9) rfl dX4_skipBlanks_1 ?_
  refine lv_aload_n hx hb dX4_skipBlanks_4 rfl (lv_at hl 0 rfl) ?_
  refine va_get (D := D) (ci := 4) (v := .int t_length) (C := RX4) (T := TX4) (N := 6) hx hb hts i_X4_skipBlanks_X4 hown hE.1 hP 0 rfl rfl 1 (by decide) (hts (.fieldLink RX4 18 "NeedleHouse$RuleReader" "length" "I") (by decide +kernel)) (fun _ h9 => h9) rfl dX4_skipBlanks_5 ?_
  refine lv_icmp_ge (tgt := 33) hx hb dX4_skipBlanks_8 (by decide) (fun c1 => ?_) (fun c1 => ?_)
  · have hF := ifT c1 hF
    obtain rfl := Option.some.inj hF
    exact W.vret hx hb hr (fun t ht hW => ⟨⟨(), rfl, trivial, vaP_at ht hP⟩, hS.F ht⟩) hS.2.2 dX4_skipBlanks_33
  · have hF := ifF c1 hF
    refine lv_aload_n hx hb dX4_skipBlanks_11 rfl (lv_at hl 0 rfl) ?_
    obtain ⟨r2, h3, hF⟩ := ob1_ex hF
    refine xiR (va_runV (As := []) (rest := []) ⟨hx, hb, hml, hown, hts⟩ (met_X4_look l D ct q_t q_t_tape q_t_tape_bytes H.size t_length t_place t_numberPlace t_faultKind t_faultPlace t_tape_size t_tape_bytes n r2 h3) (cwV 0 hts gX4_skipBlanks_X4_look rfl rfl rfl (by decide +kernel) ⟨Nat.le_of_ble_eq_true rfl, Nat.le_of_ble_eq_true rfl⟩) ⟨blind_, va_recv hE.1 hP (ci := 4) (q0 := 0) rfl rfl, mkpre_ hE hP hD⟩ rfl rfl hl.1 rfl (lv_room (Nat.le_of_ble_eq_true rfl)) dX4_skipBlanks_12 ⟨Nat.le_of_ble_eq_true rfl, Nat.le_of_ble_eq_true rfl⟩) hP hD hS hA [0, 1, 2] rfl (fun H locs hP hD hS => ?_)
    refine lv_bipush (v := 32) hx hb dX4_skipBlanks_15 (by decide) ?_
    refine lv_icmp_ne (tgt := 33) hx hb dX4_skipBlanks_17 (by decide) (fun c4 => ?_) (fun c4 => ?_)
    · have hF := ifF c4 hF
      obtain rfl := Option.some.inj hF
      exact W.vret hx hb hr (fun t ht hW => ⟨⟨(), rfl, trivial, vaP_at ht hP⟩, hS.F ht⟩) hS.2.2 dX4_skipBlanks_33
    · have hF := ifT c4 hF
      refine lv_aload_n hx hb dX4_skipBlanks_20 rfl (lv_at hl 0 rfl) ?_
      refine lv_dup hx hb dX4_skipBlanks_21 rfl ?_
      refine va_get (D := D) (ci := 4) (v := .int t_place) (C := RX4) (T := TX4) (N := 6) hx hb hts i_X4_skipBlanks_X4 hown hE.1 hP 0 rfl rfl 2 (by decide) (hts (.fieldLink RX4 22 "NeedleHouse$RuleReader" "place" "I") (by decide +kernel)) (fun _ h9 => h9) rfl dX4_skipBlanks_22 ?_
      refine lv_iconst (v := 1) hx hb dX4_skipBlanks_25 (by decide) ?_
      refine lv_iadd hx hb dX4_skipBlanks_26 ?_
      refine lv_topi (fun x5 ex5 => ?_)
      have hF := bn_as ex5 hF
      refine va_put (D := D) (ci := 4) (v := .int x5) (ty := .int) (C := RX4) (T := TX4) (N := 6) hx hb hts i_X4_skipBlanks_X4 tyX4 tyX4_ok nmX4 hown hE.1 hP hD hS 0 rfl rfl 2 (by decide) (hts (.fieldLink RX4 22 "NeedleHouse$RuleReader" "place" "I") (by decide +kernel)) (fun _ h9 => h9) rfl (by decide +kernel) rfl rfl (Nat.le_of_ble_eq_true rfl) dX4_skipBlanks_27 (fun H locs hP hD hS => ?_)
      have hP : va_P D vwCl (W_30 ct q_t q_t_tape q_t_tape_bytes t_length x5 t_numberPlace t_faultKind t_faultPlace t_tape_size t_tape_bytes) H := hP
      have hD : va_D A (W_30 ct q_t q_t_tape q_t_tape_bytes t_length x5 t_numberPlace t_faultKind t_faultPlace t_tape_size t_tape_bytes) := hD
      refine lv_goto (tgt := 0) hx hb dX4_skipBlanks_30 (by decide) ?_
      exact hk0 x5 _ _ _ hF hP hD hS (lv_sub hl [0] rfl)
theorem lX4_skipBlanks_0 {p : Program} {l : Launch} {e : Env} {s : State} {m : MethodId} {args : Array Value} {below : List Frame} {meth : Method} {c : Code} {D : va_G} {ct : Nat → ClassId} {A : Nat → Prop} {q_t q_t_tape q_t_tape_bytes : Nat} {t_length : Int32} {t_numberPlace : Int32} {t_faultKind : Int32} {t_faultPlace : Int32} {t_tape_size : Int32} {t_tape_bytes : Nat → Int32} {o_t_place : Int32} (C0 : Cx RX4 cX4_skipBlanks 1 none wsX4_skipBlanks D ct A p s m args meth c) : ∀ (n : Nat) (t_place : Int32) (H : Heap) (locs : List Loc) (ls : Array Slot), LX4_skipBlanks_0 n t_length t_place t_tape_size t_tape_bytes = some (o_t_place) → va_P D vwCl (W_30 ct q_t q_t_tape q_t_tape_bytes t_length t_place t_numberPlace t_faultKind t_faultPlace t_tape_size t_tape_bytes) H → va_D A (W_30 ct q_t q_t_tape q_t_tape_bytes t_length t_place t_numberPlace t_faultKind t_faultPlace t_tape_size t_tape_bytes) → va_S A s.heap H locs → lv_has ls 1 [(0, .ref q_t)] → W p l e ({ frames := 2, cells := 0, slots := 0, locals := 41 } : Room) s m args below meth c H locs 0 0 (MQ below (va_Qv (fun (_ : Unit) => True) (fun _ t => va_P D vwCl (W_30 ct q_t q_t_tape q_t_tape_bytes t_length o_t_place t_numberPlace t_faultKind t_faultPlace t_tape_size t_tape_bytes) t.heap) A) args s 0 0 A) (F0 m 0 ls []) := by
  intro n
  induction n with
  | zero => intro t_place H locs ls hF; exact nomatch (show (none : Option (Int32)) = _ from hF)
  | succ n ih => intro t_place H locs ls hF; exact jX4_skipBlanks_0 C0 (LX4_skipBlanks_0 n) ih n t_place H locs ls hF
set_option maxHeartbeats 4000000 in
set_option maxRecDepth 100000 in
theorem met_X4_skipBlanks (l : Launch) (D : va_G) (ct : Nat → ClassId) (q_t : Nat) (q_t_tape : Nat) (q_t_tape_bytes : Nat) (sz : Nat) (t_length : Int32) (t_place : Int32) (t_numberPlace : Int32) (t_faultKind : Int32) (t_faultPlace : Int32) (t_tape_size : Int32) (t_tape_bytes : Nat → Int32) (n : Nat) (o_t_place : Int32) (hF : FX4_skipBlanks n t_length t_place t_tape_size t_tape_bytes = some (o_t_place)) : Met l yX4_skipBlanks wsX4_skipBlanks ({ frames := 2, cells := 0, slots := 0, locals := 41 } : Room) (va_Pc [.ref q_t] (pre_ D ct sz (W_30 ct q_t q_t_tape q_t_tape_bytes t_length t_place t_numberPlace t_faultKind t_faultPlace t_tape_size t_tape_bytes))) (va_Qv (fun (_ : Unit) => True) (fun _ t => va_P D vwCl (W_30 ct q_t q_t_tape q_t_tape_bytes t_length o_t_place t_numberPlace t_faultKind t_faultPlace t_tape_size t_tape_bytes) t.heap) (va_A (W_30 ct q_t q_t_tape q_t_tape_bytes t_length t_place t_numberPlace t_faultKind t_faultPlace t_tape_size t_tape_bytes) sz)) 0 0 (va_A (W_30 ct q_t q_t_tape q_t_tape_bytes t_length t_place t_numberPlace t_faultKind t_faultPlace t_tape_size t_tape_bytes) sz) := by
  refine Met.ofW (cc := cX4_skipBlanks) (maxL := 1) (ret := none) (by decide) rfl ?_
  intro p e s m args below meth c s₁ B hml hv
  obtain ⟨rfl, hsz, hP, hE, hD0⟩ := hv
  have hx := B.exec
  have hb := B.bytes
  have hr := B.returns
  have hts := atoms_spec (ws := wsX4_skipBlanks) B.pre
  have hown : s.vm.findClass RX4 = some m.cls := findClass_of_methodNamed B.named
  have hlocks := B.notSynchronized
  subst hsz
  have hD := hD0.self (sz := s.heap.size)
  generalize hAe : va_A (W_30 ct q_t q_t_tape q_t_tape_bytes t_length t_place t_numberPlace t_faultKind t_faultPlace t_tape_size t_tape_bytes) s.heap.size = A at hD ⊢
  have hA : ∀ q : Nat, s.heap.size ≤ q → A q := fun q h => by rw [← hAe]; exact Or.inr h
  have hl := lv_entry ([.ref q_t]) (n := 1) (Nat.le_of_ble_eq_true rfl)
  rw [lg_entry_eq]
  generalize (lg_sl ([.ref q_t]) ++ List.replicate (1 - (lg_sl ([.ref q_t])).length) Slot.unset).toArray = ls at hl ⊢
  have hl : lv_has ls 1 [(0, .ref q_t)] := hl
  have C0 : Cx RX4 cX4_skipBlanks 1 none wsX4_skipBlanks D ct A p s m ([.ref q_t]).toArray meth c := ⟨hx, hb, hml, hown, hts, hr, hlocks, hE, hA⟩
  have hS : ∀ H : Heap, s.heap = H → va_S A s.heap H [] := fun H h => h ▸ va_S.rf
  generalize hH : s.heap = H at hP ⊢
  have hS := hS H hH
  unfold FX4_skipBlanks at hF
  exact lX4_skipBlanks_0 C0 n t_place _ _ _ hF hP hD hS (lv_sub hl [0] rfl)
/-! NeedleHouse$RuleReader.skipLetters()V -/
theorem i_X4_skipLetters_X4 : ∀ w ∈ wsX40, w ∈ wsX4_skipLetters := by decide +kernel
set_option maxHeartbeats 4000000 in
set_option maxRecDepth 100000 in
theorem jX4_skipLetters_0 {p : Program} {l : Launch} {e : Env} {s : State} {m : MethodId} {args : Array Value} {below : List Frame} {meth : Method} {c : Code} {D : va_G} {ct : Nat → ClassId} {A : Nat → Prop} {q_t q_t_tape q_t_tape_bytes : Nat} {t_length : Int32} {t_numberPlace : Int32} {t_faultKind : Int32} {t_faultPlace : Int32} {t_tape_size : Int32} {t_tape_bytes : Nat → Int32} {o_t_place : Int32} (C0 : Cx RX4 cX4_skipLetters 1 none wsX4_skipLetters D ct A p s m args meth c) (k0 : Int32 → Int32 → Int32 → (Nat → Int32) → Option (Int32)) (hk0 : ∀ (t_place : Int32) (H : Heap) (locs : List Loc) (ls : Array Slot), k0 t_length t_place t_tape_size t_tape_bytes = some (o_t_place) → va_P D vwCl (W_30 ct q_t q_t_tape q_t_tape_bytes t_length t_place t_numberPlace t_faultKind t_faultPlace t_tape_size t_tape_bytes) H → va_D A (W_30 ct q_t q_t_tape q_t_tape_bytes t_length t_place t_numberPlace t_faultKind t_faultPlace t_tape_size t_tape_bytes) → va_S A s.heap H locs → lv_has ls 1 [(0, .ref q_t)] → W p l e ({ frames := 2, cells := 0, slots := 0, locals := 41 } : Room) s m args below meth c H locs 0 0 (MQ below (va_Qv (fun (_ : Unit) => True) (fun _ t => va_P D vwCl (W_30 ct q_t q_t_tape q_t_tape_bytes t_length o_t_place t_numberPlace t_faultKind t_faultPlace t_tape_size t_tape_bytes) t.heap) A) args s 0 0 A) (F0 m 0 ls [])) (n : Nat) (t_place : Int32) (H : Heap) (locs : List Loc) (ls : Array Slot) : JX4_skipLetters_0 k0 n t_length t_place t_tape_size t_tape_bytes = some (o_t_place) → va_P D vwCl (W_30 ct q_t q_t_tape q_t_tape_bytes t_length t_place t_numberPlace t_faultKind t_faultPlace t_tape_size t_tape_bytes) H → va_D A (W_30 ct q_t q_t_tape q_t_tape_bytes t_length t_place t_numberPlace t_faultKind t_faultPlace t_tape_size t_tape_bytes) → va_S A s.heap H locs → lv_has ls 1 [(0, .ref q_t)] → W p l e ({ frames := 2, cells := 0, slots := 0, locals := 41 } : Room) s m args below meth c H locs 0 0 (MQ below (va_Qv (fun (_ : Unit) => True) (fun _ t => va_P D vwCl (W_30 ct q_t q_t_tape q_t_tape_bytes t_length o_t_place t_numberPlace t_faultKind t_faultPlace t_tape_size t_tape_bytes) t.heap) A) args s 0 0 A) (F0 m 0 ls []) := by
  intro hF hP hD hS hl
  obtain ⟨hx, hb, hml, hown, hts, hr, hlocks, hE, hA⟩ := id C0
  unfold JX4_skipLetters_0 at hF
  refine lv_aload_n hx hb dX4_skipLetters_0 rfl (lv_at hl 0 rfl) ?_
  refine va_get (D := D) (ci := 4) (v := .int t_place) (C := RX4) (T := TX4) (N := 6) hx hb hts i_X4_skipLetters_X4 hown hE.1 hP 0 rfl rfl 2 (by decide) (hts (.fieldLink RX4 22 "NeedleHouse$RuleReader" "place" "I") (by decide +kernel)) (fun _ h9 => h9) rfl dX4_skipLetters_1 ?_
  refine lv_aload_n hx hb dX4_skipLetters_4 rfl (lv_at hl 0 rfl) ?_
  refine va_get (D := D) (ci := 4) (v := .int t_length) (C := RX4) (T := TX4) (N := 6) hx hb hts i_X4_skipLetters_X4 hown hE.1 hP 0 rfl rfl 1 (by decide) (hts (.fieldLink RX4 18 "NeedleHouse$RuleReader" "length" "I") (by decide +kernel)) (fun _ h9 => h9) rfl dX4_skipLetters_5 ?_
  refine lv_icmp_ge (tgt := 38) hx hb dX4_skipLetters_8 (by decide) (fun c1 => ?_) (fun c1 => ?_)
  · have hF := ifT c1 hF
    obtain rfl := Option.some.inj hF
    exact W.vret hx hb hr (fun t ht hW => ⟨⟨(), rfl, trivial, vaP_at ht hP⟩, hS.F ht⟩) hS.2.2 dX4_skipLetters_38
  · have hF := ifF c1 hF
    refine lv_aload_n hx hb dX4_skipLetters_11 rfl (lv_at hl 0 rfl) ?_
    obtain ⟨r2, h3, hF⟩ := ob1_ex hF
    refine xiR (va_runV (As := []) (rest := []) ⟨hx, hb, hml, hown, hts⟩ (met_X4_look l D ct q_t q_t_tape q_t_tape_bytes H.size t_length t_place t_numberPlace t_faultKind t_faultPlace t_tape_size t_tape_bytes n r2 h3) (cwV 0 hts gX4_skipLetters_X4_look rfl rfl rfl (by decide +kernel) ⟨Nat.le_of_ble_eq_true rfl, Nat.le_of_ble_eq_true rfl⟩) ⟨blind_, va_recv hE.1 hP (ci := 4) (q0 := 0) rfl rfl, mkpre_ hE hP hD⟩ rfl rfl hl.1 rfl (lv_room (Nat.le_of_ble_eq_true rfl)) dX4_skipLetters_12 ⟨Nat.le_of_ble_eq_true rfl, Nat.le_of_ble_eq_true rfl⟩) hP hD hS hA [0, 1, 2] rfl (fun H locs hP hD hS => ?_)
    refine lv_bipush (v := 97) hx hb dX4_skipLetters_15 (by decide) ?_
    refine lv_bipush (v := 122) hx hb dX4_skipLetters_17 (by decide) ?_
    obtain ⟨r4, h5, hF⟩ := ob1_ex hF
    refine xiR (va_runSN (As := [.int r2, .int 97, .int 122]) (rest := []) ⟨hx, hb, hml, hown, hts⟩ (met_X9_within l D ct H.size r2 97 122 n r4 h5) ⟨va_cnB 3 hts gX4_skipLetters_X9_within_n100 rfl rfl rfl (NW_18 hE.2) (hts (.initialized RX9) (by decide +kernel)) (by decide +kernel) ⟨Nat.le_of_ble_eq_true rfl, Nat.le_of_ble_eq_true rfl⟩, (hts (.static yX9_within) (by decide +kernel)), trivial⟩ ⟨blind_, mkpre_ hE (hP.sub [] rfl) (hD.sub [] (by decide) rfl)⟩ rfl rfl hl.1 rfl (lv_room (Nat.le_of_ble_eq_true rfl)) dX4_skipLetters_19 ⟨Nat.le_of_ble_eq_true rfl, Nat.le_of_ble_eq_true rfl⟩) hP hD hS hA [] rfl (fun H locs hP hD hS => ?_)
    refine lv_if_eq (tgt := 38) hx hb dX4_skipLetters_22 (by decide) (fun c6 => ?_) (fun c6 => ?_)
    · have hF := ifT c6 hF
      obtain rfl := Option.some.inj hF
      exact W.vret hx hb hr (fun t ht hW => ⟨⟨(), rfl, trivial, vaP_at ht hP⟩, hS.F ht⟩) hS.2.2 dX4_skipLetters_38
    · have hF := ifF c6 hF
      refine lv_aload_n hx hb dX4_skipLetters_25 rfl (lv_at hl 0 rfl) ?_
      refine lv_dup hx hb dX4_skipLetters_26 rfl ?_
      refine va_get (D := D) (ci := 4) (v := .int t_place) (C := RX4) (T := TX4) (N := 6) hx hb hts i_X4_skipLetters_X4 hown hE.1 hP 0 rfl rfl 2 (by decide) (hts (.fieldLink RX4 22 "NeedleHouse$RuleReader" "place" "I") (by decide +kernel)) (fun _ h9 => h9) rfl dX4_skipLetters_27 ?_
      refine lv_iconst (v := 1) hx hb dX4_skipLetters_30 (by decide) ?_
      refine lv_iadd hx hb dX4_skipLetters_31 ?_
      refine lv_topi (fun x7 ex7 => ?_)
      have hF := bn_as ex7 hF
      refine va_put (D := D) (ci := 4) (v := .int x7) (ty := .int) (C := RX4) (T := TX4) (N := 6) hx hb hts i_X4_skipLetters_X4 tyX4 tyX4_ok nmX4 hown hE.1 hP hD hS 0 rfl rfl 2 (by decide) (hts (.fieldLink RX4 22 "NeedleHouse$RuleReader" "place" "I") (by decide +kernel)) (fun _ h9 => h9) rfl (by decide +kernel) rfl rfl (Nat.le_of_ble_eq_true rfl) dX4_skipLetters_32 (fun H locs hP hD hS => ?_)
      have hP : va_P D vwCl (W_30 ct q_t q_t_tape q_t_tape_bytes t_length x7 t_numberPlace t_faultKind t_faultPlace t_tape_size t_tape_bytes) H := hP
      have hD : va_D A (W_30 ct q_t q_t_tape q_t_tape_bytes t_length x7 t_numberPlace t_faultKind t_faultPlace t_tape_size t_tape_bytes) := hD
      refine lv_goto (tgt := 0) hx hb dX4_skipLetters_35 (by decide) ?_
      exact hk0 x7 _ _ _ hF hP hD hS (lv_sub hl [0] rfl)
theorem lX4_skipLetters_0 {p : Program} {l : Launch} {e : Env} {s : State} {m : MethodId} {args : Array Value} {below : List Frame} {meth : Method} {c : Code} {D : va_G} {ct : Nat → ClassId} {A : Nat → Prop} {q_t q_t_tape q_t_tape_bytes : Nat} {t_length : Int32} {t_numberPlace : Int32} {t_faultKind : Int32} {t_faultPlace : Int32} {t_tape_size : Int32} {t_tape_bytes : Nat → Int32} {o_t_place : Int32} (C0 : Cx RX4 cX4_skipLetters 1 none wsX4_skipLetters D ct A p s m args meth c) : ∀ (n : Nat) (t_place : Int32) (H : Heap) (locs : List Loc) (ls : Array Slot), LX4_skipLetters_0 n t_length t_place t_tape_size t_tape_bytes = some (o_t_place) → va_P D vwCl (W_30 ct q_t q_t_tape q_t_tape_bytes t_length t_place t_numberPlace t_faultKind t_faultPlace t_tape_size t_tape_bytes) H → va_D A (W_30 ct q_t q_t_tape q_t_tape_bytes t_length t_place t_numberPlace t_faultKind t_faultPlace t_tape_size t_tape_bytes) → va_S A s.heap H locs → lv_has ls 1 [(0, .ref q_t)] → W p l e ({ frames := 2, cells := 0, slots := 0, locals := 41 } : Room) s m args below meth c H locs 0 0 (MQ below (va_Qv (fun (_ : Unit) => True) (fun _ t => va_P D vwCl (W_30 ct q_t q_t_tape q_t_tape_bytes t_length o_t_place t_numberPlace t_faultKind t_faultPlace t_tape_size t_tape_bytes) t.heap) A) args s 0 0 A) (F0 m 0 ls []) := by
  intro n
  induction n with
  | zero => intro t_place H locs ls hF; exact nomatch (show (none : Option (Int32)) = _ from hF)
  | succ n ih => intro t_place H locs ls hF; exact jX4_skipLetters_0 C0 (LX4_skipLetters_0 n) ih n t_place H locs ls hF
set_option maxHeartbeats 4000000 in
set_option maxRecDepth 100000 in
theorem met_X4_skipLetters (l : Launch) (D : va_G) (ct : Nat → ClassId) (q_t : Nat) (q_t_tape : Nat) (q_t_tape_bytes : Nat) (sz : Nat) (t_length : Int32) (t_place : Int32) (t_numberPlace : Int32) (t_faultKind : Int32) (t_faultPlace : Int32) (t_tape_size : Int32) (t_tape_bytes : Nat → Int32) (n : Nat) (o_t_place : Int32) (hF : FX4_skipLetters n t_length t_place t_tape_size t_tape_bytes = some (o_t_place)) : Met l yX4_skipLetters wsX4_skipLetters ({ frames := 2, cells := 0, slots := 0, locals := 41 } : Room) (va_Pc [.ref q_t] (pre_ D ct sz (W_30 ct q_t q_t_tape q_t_tape_bytes t_length t_place t_numberPlace t_faultKind t_faultPlace t_tape_size t_tape_bytes))) (va_Qv (fun (_ : Unit) => True) (fun _ t => va_P D vwCl (W_30 ct q_t q_t_tape q_t_tape_bytes t_length o_t_place t_numberPlace t_faultKind t_faultPlace t_tape_size t_tape_bytes) t.heap) (va_A (W_30 ct q_t q_t_tape q_t_tape_bytes t_length t_place t_numberPlace t_faultKind t_faultPlace t_tape_size t_tape_bytes) sz)) 0 0 (va_A (W_30 ct q_t q_t_tape q_t_tape_bytes t_length t_place t_numberPlace t_faultKind t_faultPlace t_tape_size t_tape_bytes) sz) := by
  refine Met.ofW (cc := cX4_skipLetters) (maxL := 1) (ret := none) (by decide) rfl ?_
  intro p e s m args below meth c s₁ B hml hv
  obtain ⟨rfl, hsz, hP, hE, hD0⟩ := hv
  have hx := B.exec
  have hb := B.bytes
  have hr := B.returns
  have hts := atoms_spec (ws := wsX4_skipLetters) B.pre
  have hown : s.vm.findClass RX4 = some m.cls := findClass_of_methodNamed B.named
  have hlocks := B.notSynchronized
  subst hsz
  have hD := hD0.self (sz := s.heap.size)
  generalize hAe : va_A (W_30 ct q_t q_t_tape q_t_tape_bytes t_length t_place t_numberPlace t_faultKind t_faultPlace t_tape_size t_tape_bytes) s.heap.size = A at hD ⊢
  have hA : ∀ q : Nat, s.heap.size ≤ q → A q := fun q h => by rw [← hAe]; exact Or.inr h
  have hl := lv_entry ([.ref q_t]) (n := 1) (Nat.le_of_ble_eq_true rfl)
  rw [lg_entry_eq]
  generalize (lg_sl ([.ref q_t]) ++ List.replicate (1 - (lg_sl ([.ref q_t])).length) Slot.unset).toArray = ls at hl ⊢
  have hl : lv_has ls 1 [(0, .ref q_t)] := hl
  have C0 : Cx RX4 cX4_skipLetters 1 none wsX4_skipLetters D ct A p s m ([.ref q_t]).toArray meth c := ⟨hx, hb, hml, hown, hts, hr, hlocks, hE, hA⟩
  have hS : ∀ H : Heap, s.heap = H → va_S A s.heap H [] := fun H h => h ▸ va_S.rf
  generalize hH : s.heap = H at hP ⊢
  have hS := hS H hH
  unfold FX4_skipLetters at hF
  exact lX4_skipLetters_0 C0 n t_place _ _ _ hF hP hD hS (lv_sub hl [0] rfl)
/-! NeedleHouse$RuleReader.spells(Ljava/lang/String;I)Z -/
theorem i_X4_spells_X4 : ∀ w ∈ wsX40, w ∈ wsX4_spells := by decide +kernel
set_option maxHeartbeats 4000000 in
set_option maxRecDepth 100000 in
theorem jX4_spells_17 {p : Program} {l : Launch} {e : Env} {s : State} {m : MethodId} {args : Array Value} {below : List Frame} {meth : Method} {c : Code} {D : va_G} {ct : Nat → ClassId} {A : Nat → Prop} {adK adV : Nat → Nat} {q_t q_t_tape q_t_tape_bytes : Nat} {N_s1 : Nat} {t_length : Int32} {t_place : Int32} {t_numberPlace : Int32} {t_faultKind : Int32} {t_faultPlace : Int32} {t_tape_size : Int32} {t_tape_bytes : Nat → Int32} {o_r : Int32} (C0 : Cx RX4 cX4_spells 4 (some .boolean) wsX4_spells D ct A p s m args meth c) (hSE : SE adK adV A s s.heap) (hN_s1 : N_s1 < 7) (k17 : Nat → Int32 → Int32 → (Nat → Int32) → Int32 → Int32 → Option (Int32)) (hk17 : ∀ (x_2 : Int32) (x_3 : Int32) (H : Heap) (locs : List Loc) (ls : Array Slot), k17 N_s1 t_place t_tape_size t_tape_bytes x_2 x_3 = some (o_r) → va_P D vwCl (W_30 ct q_t q_t_tape q_t_tape_bytes t_length t_place t_numberPlace t_faultKind t_faultPlace t_tape_size t_tape_bytes) H → va_D A (W_30 ct q_t q_t_tape q_t_tape_bytes t_length t_place t_numberPlace t_faultKind t_faultPlace t_tape_size t_tape_bytes) → va_S A s.heap H locs → lv_has ls 4 [(0, .ref q_t), (1, .ref ((adK N_s1))), (2, .int x_2), (3, .int x_3)] → W p l e ({ frames := 4, cells := 0, slots := 0, locals := 85 } : Room) s m args below meth c H locs 0 0 (MQ below (va_Qi (fun r (_ : Unit) => r = o_r) (fun _ t => va_P D vwCl (W_30 ct q_t q_t_tape q_t_tape_bytes t_length t_place t_numberPlace t_faultKind t_faultPlace t_tape_size t_tape_bytes) t.heap) A) args s 0 0 A) (F0 m 17 ls [])) (n : Nat) (x_2 : Int32) (x_3 : Int32) (H : Heap) (locs : List Loc) (ls : Array Slot) : JX4_spells_17 k17 n N_s1 t_place t_tape_size t_tape_bytes x_2 x_3 = some (o_r) → va_P D vwCl (W_30 ct q_t q_t_tape q_t_tape_bytes t_length t_place t_numberPlace t_faultKind t_faultPlace t_tape_size t_tape_bytes) H → va_D A (W_30 ct q_t q_t_tape q_t_tape_bytes t_length t_place t_numberPlace t_faultKind t_faultPlace t_tape_size t_tape_bytes) → va_S A s.heap H locs → lv_has ls 4 [(0, .ref q_t), (1, .ref ((adK N_s1))), (2, .int x_2), (3, .int x_3)] → W p l e ({ frames := 4, cells := 0, slots := 0, locals := 85 } : Room) s m args below meth c H locs 0 0 (MQ below (va_Qi (fun r (_ : Unit) => r = o_r) (fun _ t => va_P D vwCl (W_30 ct q_t q_t_tape q_t_tape_bytes t_length t_place t_numberPlace t_faultKind t_faultPlace t_tape_size t_tape_bytes) t.heap) A) args s 0 0 A) (F0 m 17 ls []) := by
  intro hF hP hD hS hl
  obtain ⟨hx, hb, hml, hown, hts, hr, hlocks, hE, hA⟩ := id C0
  unfold JX4_spells_17 at hF
  refine lv_iload_n hx hb dX4_spells_17 rfl (lv_at hl 3 rfl) ?_
  refine lv_aload_n hx hb dX4_spells_18 rfl (lv_at hl 1 rfl) ?_
  refine xiR (r1 := nI (sLen.getD N_s1 0)) (wc := []) (va_runV (As := []) (rest := [.int x_3]) ⟨hx, hb, hml, hown, hts⟩ (met_J0_length_8abf5 l D ct adK adV H.size N_s1 hN_s1) (cwV 0 hts gX4_spells_J0_length_8abf5 rfl rfl rfl (by decide +kernel) ⟨Nat.le_of_ble_eq_true rfl, Nat.le_of_ble_eq_true rfl⟩) ⟨blindS, vk_recv hSE.1 hN_s1 hS, mkpreS hE hSE hS (va_free (wc := []) hD hS hA [] rfl) (hP.sub [] rfl) (hD.sub [] (by decide) rfl)⟩ rfl rfl hl.1 rfl (lv_room (Nat.le_of_ble_eq_true rfl)) dX4_spells_19 ⟨Nat.le_of_ble_eq_true rfl, Nat.le_of_ble_eq_true rfl⟩) hP hD hS hA [] rfl (fun H locs hP hD hS => ?_)
  refine lv_icmp_ge (tgt := 51) hx hb dX4_spells_22 (by decide) (fun c2 => ?_) (fun c2 => ?_)
  · have hF := ifT c2 hF
    refine lv_iconst (v := 1) hx hb dX4_spells_51 (by decide) ?_
    obtain rfl := Option.some.inj hF
    exact W.zret hx hb hr rfl (fun t ht hW => ⟨⟨_, (), rfl, rfl, vaP_at ht hP⟩, hS.F ht⟩) hS.2.2 dX4_spells_52
  · have hF := ifF c2 hF
    refine lv_aload_n hx hb dX4_spells_25 rfl (lv_at hl 0 rfl) ?_
    refine va_get (D := D) (ci := 4) (v := .ref q_t_tape) (C := RX4) (T := TX4) (N := 6) hx hb hts i_X4_spells_X4 hown hE.1 hP 0 rfl rfl 0 (by decide) (hts (.fieldLink RX4 12 "NeedleHouse$RuleReader" "tape" "LNeedleHouse$Tape;") (by decide +kernel)) (fun _ h9 => h9) rfl dX4_spells_26 ?_
    refine lv_iload_n hx hb dX4_spells_29 rfl (lv_at hl 2 rfl) ?_
    refine lv_iload_n hx hb dX4_spells_30 rfl (lv_at hl 3 rfl) ?_
    refine lv_iadd hx hb dX4_spells_31 ?_
    obtain ⟨r3, h4, hF⟩ := ob1_ex hF
    refine xiR (va_runV (As := [.int (x_2 + x_3)]) (rest := []) ⟨hx, hb, hml, hown, hts⟩ (met_X5_byteAt l D ct q_t_tape q_t_tape_bytes H.size t_tape_size t_tape_bytes (x_2 + x_3) n r3 h4) (cwV 1 hts gX4_spells_X5_byteAt rfl rfl rfl (by decide +kernel) ⟨Nat.le_of_ble_eq_true rfl, Nat.le_of_ble_eq_true rfl⟩) ⟨blind_, va_recv hE.1 hP (ci := 5) (q0 := 1) rfl rfl, mkpre_ hE (hP.sub [1, 2] rfl) (hD.sub [1, 2] (by decide) rfl)⟩ rfl rfl hl.1 rfl (lv_room (Nat.le_of_ble_eq_true rfl)) dX4_spells_32 ⟨Nat.le_of_ble_eq_true rfl, Nat.le_of_ble_eq_true rfl⟩) hP hD hS hA [1, 2] rfl (fun H locs hP hD hS => ?_)
    refine lv_aload_n hx hb dX4_spells_35 rfl (lv_at hl 1 rfl) ?_
    refine lv_iload_n hx hb dX4_spells_36 rfl (lv_at hl 3 rfl) ?_
    obtain ⟨h5, hF⟩ := gd_ex hF
    refine xiR (r1 := sch N_s1 (x_3).toNatClampNeg) (wc := []) (va_runV (As := [.int x_3]) (rest := [.int r3]) ⟨hx, hb, hml, hown, hts⟩ (met_J0_charAt_5068e l D ct adK adV H.size N_s1 hN_s1 x_3 h5) (cwV 1 hts gX4_spells_J0_charAt_5068e rfl rfl rfl (by decide +kernel) ⟨Nat.le_of_ble_eq_true rfl, Nat.le_of_ble_eq_true rfl⟩) ⟨blindS, vk_recv hSE.1 hN_s1 hS, mkpreS hE hSE hS (va_free (wc := []) hD hS hA [] rfl) (hP.sub [] rfl) (hD.sub [] (by decide) rfl)⟩ rfl rfl hl.1 rfl (lv_room (Nat.le_of_ble_eq_true rfl)) dX4_spells_37 ⟨Nat.le_of_ble_eq_true rfl, Nat.le_of_ble_eq_true rfl⟩) hP hD hS hA [] rfl (fun H locs hP hD hS => ?_)
    refine lv_icmp_eq (tgt := 45) hx hb dX4_spells_40 (by decide) (fun c6 => ?_) (fun c6 => ?_)
    · have hF := ifT c6 hF
      obtain ⟨x7, ex7⟩ : ∃ y : Int32, y = x_3 + 1 := ⟨_, rfl⟩
      refine lv_iinc (v := x7) (lv' := [(3, .int x7), (0, .ref q_t), (1, .ref ((adK N_s1))), (2, .int x_2)]) hx hb dX4_spells_45 hl (k := 3) rfl (by rw [ex7]; rfl) (by decide) rfl (fun ls hl => ?_)
      have hF := bn_as ex7 hF
      refine lv_goto (tgt := 17) hx hb dX4_spells_48 (by decide) ?_
      exact hk17 x_2 x7 _ _ _ hF hP hD hS (lv_sub hl [1, 2, 3, 0] rfl)
    · have hF := ifF c6 hF
      refine lv_iconst (v := 0) hx hb dX4_spells_43 (by decide) ?_
      obtain rfl := Option.some.inj hF
      exact W.zret hx hb hr rfl (fun t ht hW => ⟨⟨_, (), rfl, rfl, vaP_at ht hP⟩, hS.F ht⟩) hS.2.2 dX4_spells_44
theorem lX4_spells_17 {p : Program} {l : Launch} {e : Env} {s : State} {m : MethodId} {args : Array Value} {below : List Frame} {meth : Method} {c : Code} {D : va_G} {ct : Nat → ClassId} {A : Nat → Prop} {adK adV : Nat → Nat} {q_t q_t_tape q_t_tape_bytes : Nat} {N_s1 : Nat} {t_length : Int32} {t_place : Int32} {t_numberPlace : Int32} {t_faultKind : Int32} {t_faultPlace : Int32} {t_tape_size : Int32} {t_tape_bytes : Nat → Int32} {o_r : Int32} (C0 : Cx RX4 cX4_spells 4 (some .boolean) wsX4_spells D ct A p s m args meth c) (hSE : SE adK adV A s s.heap) (hN_s1 : N_s1 < 7) : ∀ (n : Nat) (x_2 : Int32) (x_3 : Int32) (H : Heap) (locs : List Loc) (ls : Array Slot), LX4_spells_17 n N_s1 t_place t_tape_size t_tape_bytes x_2 x_3 = some (o_r) → va_P D vwCl (W_30 ct q_t q_t_tape q_t_tape_bytes t_length t_place t_numberPlace t_faultKind t_faultPlace t_tape_size t_tape_bytes) H → va_D A (W_30 ct q_t q_t_tape q_t_tape_bytes t_length t_place t_numberPlace t_faultKind t_faultPlace t_tape_size t_tape_bytes) → va_S A s.heap H locs → lv_has ls 4 [(0, .ref q_t), (1, .ref ((adK N_s1))), (2, .int x_2), (3, .int x_3)] → W p l e ({ frames := 4, cells := 0, slots := 0, locals := 85 } : Room) s m args below meth c H locs 0 0 (MQ below (va_Qi (fun r (_ : Unit) => r = o_r) (fun _ t => va_P D vwCl (W_30 ct q_t q_t_tape q_t_tape_bytes t_length t_place t_numberPlace t_faultKind t_faultPlace t_tape_size t_tape_bytes) t.heap) A) args s 0 0 A) (F0 m 17 ls []) := by
  intro n
  induction n with
  | zero => intro x_2 x_3 H locs ls hF; exact nomatch (show (none : Option (Int32)) = _ from hF)
  | succ n ih => intro x_2 x_3 H locs ls hF; exact jX4_spells_17 C0 hSE hN_s1 (LX4_spells_17 n) ih n x_2 x_3 H locs ls hF
set_option maxHeartbeats 4000000 in
set_option maxRecDepth 100000 in
theorem met_X4_spells (l : Launch) (D : va_G) (ct : Nat → ClassId) (adK adV : Nat → Nat) (q_t : Nat) (q_t_tape : Nat) (q_t_tape_bytes : Nat) (N_s1 : Nat) (hN_s1 : N_s1 < 7) (sz : Nat) (t_length : Int32) (t_place : Int32) (t_numberPlace : Int32) (t_faultKind : Int32) (t_faultPlace : Int32) (t_tape_size : Int32) (t_tape_bytes : Nat → Int32) (p2 : Int32) (n : Nat) (o_r : Int32) (hF : FX4_spells n N_s1 t_place t_tape_size t_tape_bytes p2 = some (o_r)) : Met l yX4_spells wsX4_spells ({ frames := 4, cells := 0, slots := 0, locals := 85 } : Room) (va_Pc [.ref q_t, .ref ((adK N_s1)), .int p2] (preS D ct sz (W_30 ct q_t q_t_tape q_t_tape_bytes t_length t_place t_numberPlace t_faultKind t_faultPlace t_tape_size t_tape_bytes) adK adV)) (va_Qi (fun r (_ : Unit) => r = o_r) (fun _ t => va_P D vwCl (W_30 ct q_t q_t_tape q_t_tape_bytes t_length t_place t_numberPlace t_faultKind t_faultPlace t_tape_size t_tape_bytes) t.heap) (va_A (W_30 ct q_t q_t_tape q_t_tape_bytes t_length t_place t_numberPlace t_faultKind t_faultPlace t_tape_size t_tape_bytes) sz)) 0 0 (va_A (W_30 ct q_t q_t_tape q_t_tape_bytes t_length t_place t_numberPlace t_faultKind t_faultPlace t_tape_size t_tape_bytes) sz) := by
  refine Met.ofW (cc := cX4_spells) (maxL := 4) (ret := (some .boolean)) (by decide) rfl ?_
  intro p e s m args below meth c s₁ B hml hv
  obtain ⟨rfl, ⟨hsz, hP, hE, hD0⟩, hSE⟩ := hv
  have hx := B.exec
  have hb := B.bytes
  have hr := B.returns
  have hts := atoms_spec (ws := wsX4_spells) B.pre
  have hown : s.vm.findClass RX4 = some m.cls := findClass_of_methodNamed B.named
  have hlocks := B.notSynchronized
  subst hsz
  have hD := hD0.self (sz := s.heap.size)
  generalize hAe : va_A (W_30 ct q_t q_t_tape q_t_tape_bytes t_length t_place t_numberPlace t_faultKind t_faultPlace t_tape_size t_tape_bytes) s.heap.size = A at hD hSE ⊢
  have hA : ∀ q : Nat, s.heap.size ≤ q → A q := fun q h => by rw [← hAe]; exact Or.inr h
  have hl := lv_entry ([.ref q_t, .ref ((adK N_s1)), .int p2]) (n := 4) (Nat.le_of_ble_eq_true rfl)
  rw [lg_entry_eq]
  generalize (lg_sl ([.ref q_t, .ref ((adK N_s1)), .int p2]) ++ List.replicate (4 - (lg_sl ([.ref q_t, .ref ((adK N_s1)), .int p2])).length) Slot.unset).toArray = ls at hl ⊢
  have hl : lv_has ls 4 [(0, .ref q_t), (1, .ref ((adK N_s1))), (2, .int p2)] := hl
  have C0 : Cx RX4 cX4_spells 4 (some .boolean) wsX4_spells D ct A p s m ([.ref q_t, .ref ((adK N_s1)), .int p2]).toArray meth c := ⟨hx, hb, hml, hown, hts, hr, hlocks, hE, hA⟩
  have hS : ∀ H : Heap, s.heap = H → va_S A s.heap H [] := fun H h => h ▸ va_S.rf
  generalize hH : s.heap = H at hP ⊢
  have hS := hS H hH
  unfold FX4_spells at hF
  refine lv_aload_n hx hb dX4_spells_0 rfl (lv_at hl 0 rfl) ?_
  refine va_get (D := D) (ci := 4) (v := .int t_place) (C := RX4) (T := TX4) (N := 6) hx hb hts i_X4_spells_X4 hown hE.1 hP 0 rfl rfl 2 (by decide) (hts (.fieldLink RX4 22 "NeedleHouse$RuleReader" "place" "I") (by decide +kernel)) (fun _ h9 => h9) rfl dX4_spells_1 ?_
  refine lv_iload_n hx hb dX4_spells_4 rfl (lv_at hl 2 rfl) ?_
  refine lv_isub hx hb dX4_spells_5 ?_
  refine lv_aload_n hx hb dX4_spells_6 rfl (lv_at hl 1 rfl) ?_
  refine xiR (r1 := nI (sLen.getD N_s1 0)) (wc := []) (va_runV (As := []) (rest := [.int (t_place - p2)]) ⟨hx, hb, hml, hown, hts⟩ (met_J0_length_8abf5 l D ct adK adV H.size N_s1 hN_s1) (cwV 0 hts gX4_spells_J0_length_8abf5 rfl rfl rfl (by decide +kernel) ⟨Nat.le_of_ble_eq_true rfl, Nat.le_of_ble_eq_true rfl⟩) ⟨blindS, vk_recv hSE.1 hN_s1 hS, mkpreS hE hSE hS (va_free (wc := []) hD hS hA [] rfl) (hP.sub [] rfl) (hD.sub [] (by decide) rfl)⟩ rfl rfl hl.1 rfl (lv_room (Nat.le_of_ble_eq_true rfl)) dX4_spells_7 ⟨Nat.le_of_ble_eq_true rfl, Nat.le_of_ble_eq_true rfl⟩) hP hD hS hA [] rfl (fun H locs hP hD hS => ?_)
  refine lv_icmp_eq (tgt := 15) hx hb dX4_spells_10 (by decide) (fun c1 => ?_) (fun c1 => ?_)
  · have hF := ifT c1 hF
    refine lv_iconst (v := 0) hx hb dX4_spells_15 (by decide) ?_
    refine lv_istore_n (lv' := [(3, .int 0), (0, .ref q_t), (1, .ref ((adK N_s1))), (2, .int p2)]) hx hb dX4_spells_16 rfl hl (by decide) rfl (fun ls hl => ?_)
    exact lX4_spells_17 C0 hSE hN_s1 n p2 0 _ _ _ hF hP hD hS (lv_sub hl [1, 2, 3, 0] rfl)
  · have hF := ifF c1 hF
    refine lv_iconst (v := 0) hx hb dX4_spells_13 (by decide) ?_
    obtain rfl := Option.some.inj hF
    exact W.zret hx hb hr rfl (fun t ht hW => ⟨⟨_, (), rfl, rfl, vaP_at ht hP⟩, hS.F ht⟩) hS.2.2 dX4_spells_14
/-! NeedleHouse$RuleReader.readKind()I -/
theorem i_X4_readKind_X4 : ∀ w ∈ wsX40, w ∈ wsX4_readKind := by decide +kernel
set_option maxHeartbeats 4000000 in
set_option maxRecDepth 100000 in
theorem met_X4_readKind (l : Launch) (D : va_G) (ct : Nat → ClassId) (adK adV : Nat → Nat) (q_t : Nat) (q_t_tape : Nat) (q_t_tape_bytes : Nat) (sz : Nat) (t_length : Int32) (t_place : Int32) (t_numberPlace : Int32) (t_faultKind : Int32) (t_faultPlace : Int32) (t_tape_size : Int32) (t_tape_bytes : Nat → Int32) (n : Nat) (o_r : Int32) (o_t_place : Int32) (hF : FX4_readKind n t_length t_place t_tape_size t_tape_bytes = some (o_r, o_t_place)) : Met l yX4_readKind wsX4_readKind ({ frames := 5, cells := 0, slots := 0, locals := 108 } : Room) (va_Pc [.ref q_t] (preS D ct sz (W_30 ct q_t q_t_tape q_t_tape_bytes t_length t_place t_numberPlace t_faultKind t_faultPlace t_tape_size t_tape_bytes) adK adV)) (va_Qi (fun r (_ : Unit) => r = o_r) (fun _ t => va_P D vwCl (W_30 ct q_t q_t_tape q_t_tape_bytes t_length o_t_place t_numberPlace t_faultKind t_faultPlace t_tape_size t_tape_bytes) t.heap) (va_A (W_30 ct q_t q_t_tape q_t_tape_bytes t_length t_place t_numberPlace t_faultKind t_faultPlace t_tape_size t_tape_bytes) sz)) 0 0 (va_A (W_30 ct q_t q_t_tape q_t_tape_bytes t_length t_place t_numberPlace t_faultKind t_faultPlace t_tape_size t_tape_bytes) sz) := by
  refine Met.ofW (cc := cX4_readKind) (maxL := 2) (ret := (some .int)) (by decide) rfl ?_
  intro p e s m args below meth c s₁ B hml hv
  obtain ⟨rfl, ⟨hsz, hP, hE, hD0⟩, hSE⟩ := hv
  have hx := B.exec
  have hb := B.bytes
  have hr := B.returns
  have hts := atoms_spec (ws := wsX4_readKind) B.pre
  have hown : s.vm.findClass RX4 = some m.cls := findClass_of_methodNamed B.named
  have hlocks := B.notSynchronized
  subst hsz
  have hD := hD0.self (sz := s.heap.size)
  generalize hAe : va_A (W_30 ct q_t q_t_tape q_t_tape_bytes t_length t_place t_numberPlace t_faultKind t_faultPlace t_tape_size t_tape_bytes) s.heap.size = A at hD hSE ⊢
  have hA : ∀ q : Nat, s.heap.size ≤ q → A q := fun q h => by rw [← hAe]; exact Or.inr h
  have hl := lv_entry ([.ref q_t]) (n := 2) (Nat.le_of_ble_eq_true rfl)
  rw [lg_entry_eq]
  generalize (lg_sl ([.ref q_t]) ++ List.replicate (2 - (lg_sl ([.ref q_t])).length) Slot.unset).toArray = ls at hl ⊢
  have hl : lv_has ls 2 [(0, .ref q_t)] := hl
  have C0 : Cx RX4 cX4_readKind 2 (some .int) wsX4_readKind D ct A p s m ([.ref q_t]).toArray meth c := ⟨hx, hb, hml, hown, hts, hr, hlocks, hE, hA⟩
  have hS : ∀ H : Heap, s.heap = H → va_S A s.heap H [] := fun H h => h ▸ va_S.rf
  generalize hH : s.heap = H at hP ⊢
  have hS := hS H hH
  unfold FX4_readKind at hF
  refine lv_aload_n hx hb dX4_readKind_0 rfl (lv_at hl 0 rfl) ?_
  refine va_get (D := D) (ci := 4) (v := .int t_place) (C := RX4) (T := TX4) (N := 6) hx hb hts i_X4_readKind_X4 hown hE.1 hP 0 rfl rfl 2 (by decide) (hts (.fieldLink RX4 22 "NeedleHouse$RuleReader" "place" "I") (by decide +kernel)) (fun _ h9 => h9) rfl dX4_readKind_1 ?_
  refine lv_istore_n (lv' := [(1, .int t_place), (0, .ref q_t)]) hx hb dX4_readKind_4 rfl hl (by decide) rfl (fun ls hl => ?_)
  refine lv_aload_n hx hb dX4_readKind_5 rfl (lv_at hl 1 rfl) ?_
  obtain ⟨v1, h2, hF⟩ := ob1_ex hF
  refine xvA (va_runV (As := []) (rest := []) ⟨hx, hb, hml, hown, hts⟩ (met_X4_skipLetters l D ct q_t q_t_tape q_t_tape_bytes H.size t_length t_place t_numberPlace t_faultKind t_faultPlace t_tape_size t_tape_bytes n v1 h2) (cwV 0 hts gX4_readKind_X4_skipLetters rfl rfl rfl (by decide +kernel) ⟨Nat.le_of_ble_eq_true rfl, Nat.le_of_ble_eq_true rfl⟩) ⟨blind_, va_recv hE.1 hP (ci := 4) (q0 := 0) rfl rfl, mkpre_ hE hP hD⟩ rfl rfl hl.1 rfl (lv_room (Nat.le_of_ble_eq_true rfl)) dX4_readKind_6 ⟨Nat.le_of_ble_eq_true rfl, Nat.le_of_ble_eq_true rfl⟩) hP hD hS hA rfl (fun H locs hP hD hS => ?_)
  refine lv_aload_n hx hb dX4_readKind_9 rfl (lv_at hl 1 rfl) ?_
  refine va_ldcS hx hb hown (SR_0 hSE.2.2.2) dX4_readKind_10 ?_
  refine lv_iload_n hx hb dX4_readKind_12 rfl (lv_at hl 0 rfl) ?_
  obtain ⟨r3, h4, hF⟩ := ob1_ex hF
  refine xiR (va_runV (As := [.ref ((adK 0)), .int t_place]) (rest := []) ⟨hx, hb, hml, hown, hts⟩ (met_X4_spells l D ct adK adV q_t q_t_tape q_t_tape_bytes 0 (by decide) H.size t_length v1 t_numberPlace t_faultKind t_faultPlace t_tape_size t_tape_bytes t_place n r3 h4) (cwV 2 hts gX4_readKind_X4_spells rfl rfl rfl (by decide +kernel) ⟨Nat.le_of_ble_eq_true rfl, Nat.le_of_ble_eq_true rfl⟩) ⟨blindS, va_recv hE.1 hP (ci := 4) (q0 := 0) rfl rfl, mkpreS hE hSE hS (freeA hD hS hA) hP hD⟩ rfl rfl hl.1 rfl (lv_room (Nat.le_of_ble_eq_true rfl)) dX4_readKind_13 ⟨Nat.le_of_ble_eq_true rfl, Nat.le_of_ble_eq_true rfl⟩) hP hD hS hA [0, 1, 2] rfl (fun H locs hP hD hS => ?_)
  refine lv_if_eq (tgt := 21) hx hb dX4_readKind_16 (by decide) (fun c5 => ?_) (fun c5 => ?_)
  · have hF := ifT c5 hF
    refine lv_aload_n hx hb dX4_readKind_21 rfl (lv_at hl 1 rfl) ?_
    refine va_ldcS hx hb hown (SR_1 hSE.2.2.2) dX4_readKind_22 ?_
    refine lv_iload_n hx hb dX4_readKind_24 rfl (lv_at hl 0 rfl) ?_
    obtain ⟨r6, h7, hF⟩ := ob1_ex hF
    refine xiR (va_runV (As := [.ref ((adK 1)), .int t_place]) (rest := []) ⟨hx, hb, hml, hown, hts⟩ (met_X4_spells l D ct adK adV q_t q_t_tape q_t_tape_bytes 1 (by decide) H.size t_length v1 t_numberPlace t_faultKind t_faultPlace t_tape_size t_tape_bytes t_place n r6 h7) (cwV 2 hts gX4_readKind_X4_spells rfl rfl rfl (by decide +kernel) ⟨Nat.le_of_ble_eq_true rfl, Nat.le_of_ble_eq_true rfl⟩) ⟨blindS, va_recv hE.1 hP (ci := 4) (q0 := 0) rfl rfl, mkpreS hE hSE hS (freeA hD hS hA) hP hD⟩ rfl rfl hl.1 rfl (lv_room (Nat.le_of_ble_eq_true rfl)) dX4_readKind_25 ⟨Nat.le_of_ble_eq_true rfl, Nat.le_of_ble_eq_true rfl⟩) hP hD hS hA [0, 1, 2] rfl (fun H locs hP hD hS => ?_)
    refine lv_if_eq (tgt := 33) hx hb dX4_readKind_28 (by decide) (fun c8 => ?_) (fun c8 => ?_)
    · have hF := ifT c8 hF
      refine lv_aload_n hx hb dX4_readKind_33 rfl (lv_at hl 1 rfl) ?_
      refine va_ldcS hx hb hown (SR_2 hSE.2.2.2) dX4_readKind_34 ?_
      refine lv_iload_n hx hb dX4_readKind_36 rfl (lv_at hl 0 rfl) ?_
      obtain ⟨r9, h10, hF⟩ := ob1_ex hF
      refine xiR (va_runV (As := [.ref ((adK 2)), .int t_place]) (rest := []) ⟨hx, hb, hml, hown, hts⟩ (met_X4_spells l D ct adK adV q_t q_t_tape q_t_tape_bytes 2 (by decide) H.size t_length v1 t_numberPlace t_faultKind t_faultPlace t_tape_size t_tape_bytes t_place n r9 h10) (cwV 2 hts gX4_readKind_X4_spells rfl rfl rfl (by decide +kernel) ⟨Nat.le_of_ble_eq_true rfl, Nat.le_of_ble_eq_true rfl⟩) ⟨blindS, va_recv hE.1 hP (ci := 4) (q0 := 0) rfl rfl, mkpreS hE hSE hS (freeA hD hS hA) hP hD⟩ rfl rfl hl.1 rfl (lv_room (Nat.le_of_ble_eq_true rfl)) dX4_readKind_37 ⟨Nat.le_of_ble_eq_true rfl, Nat.le_of_ble_eq_true rfl⟩) hP hD hS hA [0, 1, 2] rfl (fun H locs hP hD hS => ?_)
      refine lv_if_eq (tgt := 45) hx hb dX4_readKind_40 (by decide) (fun c11 => ?_) (fun c11 => ?_)
      · have hF := ifT c11 hF
        refine lv_aload_n hx hb dX4_readKind_45 rfl (lv_at hl 1 rfl) ?_
        refine va_ldcS hx hb hown (SR_3 hSE.2.2.2) dX4_readKind_46 ?_
        refine lv_iload_n hx hb dX4_readKind_48 rfl (lv_at hl 0 rfl) ?_
        obtain ⟨r12, h13, hF⟩ := ob1_ex hF
        refine xiR (va_runV (As := [.ref ((adK 3)), .int t_place]) (rest := []) ⟨hx, hb, hml, hown, hts⟩ (met_X4_spells l D ct adK adV q_t q_t_tape q_t_tape_bytes 3 (by decide) H.size t_length v1 t_numberPlace t_faultKind t_faultPlace t_tape_size t_tape_bytes t_place n r12 h13) (cwV 2 hts gX4_readKind_X4_spells rfl rfl rfl (by decide +kernel) ⟨Nat.le_of_ble_eq_true rfl, Nat.le_of_ble_eq_true rfl⟩) ⟨blindS, va_recv hE.1 hP (ci := 4) (q0 := 0) rfl rfl, mkpreS hE hSE hS (freeA hD hS hA) hP hD⟩ rfl rfl hl.1 rfl (lv_room (Nat.le_of_ble_eq_true rfl)) dX4_readKind_49 ⟨Nat.le_of_ble_eq_true rfl, Nat.le_of_ble_eq_true rfl⟩) hP hD hS hA [0, 1, 2] rfl (fun H locs hP hD hS => ?_)
        refine lv_if_eq (tgt := 57) hx hb dX4_readKind_52 (by decide) (fun c14 => ?_) (fun c14 => ?_)
        · have hF := ifT c14 hF
          refine lv_aload_n hx hb dX4_readKind_57 rfl (lv_at hl 1 rfl) ?_
          refine va_ldcS hx hb hown (SR_4 hSE.2.2.2) dX4_readKind_58 ?_
          refine lv_iload_n hx hb dX4_readKind_60 rfl (lv_at hl 0 rfl) ?_
          obtain ⟨r15, h16, hF⟩ := ob1_ex hF
          refine xiR (va_runV (As := [.ref ((adK 4)), .int t_place]) (rest := []) ⟨hx, hb, hml, hown, hts⟩ (met_X4_spells l D ct adK adV q_t q_t_tape q_t_tape_bytes 4 (by decide) H.size t_length v1 t_numberPlace t_faultKind t_faultPlace t_tape_size t_tape_bytes t_place n r15 h16) (cwV 2 hts gX4_readKind_X4_spells rfl rfl rfl (by decide +kernel) ⟨Nat.le_of_ble_eq_true rfl, Nat.le_of_ble_eq_true rfl⟩) ⟨blindS, va_recv hE.1 hP (ci := 4) (q0 := 0) rfl rfl, mkpreS hE hSE hS (freeA hD hS hA) hP hD⟩ rfl rfl hl.1 rfl (lv_room (Nat.le_of_ble_eq_true rfl)) dX4_readKind_61 ⟨Nat.le_of_ble_eq_true rfl, Nat.le_of_ble_eq_true rfl⟩) hP hD hS hA [0, 1, 2] rfl (fun H locs hP hD hS => ?_)
          refine lv_if_eq (tgt := 69) hx hb dX4_readKind_64 (by decide) (fun c17 => ?_) (fun c17 => ?_)
          · have hF := ifT c17 hF
            refine lv_aload_n hx hb dX4_readKind_69 rfl (lv_at hl 1 rfl) ?_
            refine va_ldcS hx hb hown (SR_5 hSE.2.2.2) dX4_readKind_70 ?_
            refine lv_iload_n hx hb dX4_readKind_72 rfl (lv_at hl 0 rfl) ?_
            obtain ⟨r18, h19, hF⟩ := ob1_ex hF
            refine xiR (va_runV (As := [.ref ((adK 5)), .int t_place]) (rest := []) ⟨hx, hb, hml, hown, hts⟩ (met_X4_spells l D ct adK adV q_t q_t_tape q_t_tape_bytes 5 (by decide) H.size t_length v1 t_numberPlace t_faultKind t_faultPlace t_tape_size t_tape_bytes t_place n r18 h19) (cwV 2 hts gX4_readKind_X4_spells rfl rfl rfl (by decide +kernel) ⟨Nat.le_of_ble_eq_true rfl, Nat.le_of_ble_eq_true rfl⟩) ⟨blindS, va_recv hE.1 hP (ci := 4) (q0 := 0) rfl rfl, mkpreS hE hSE hS (freeA hD hS hA) hP hD⟩ rfl rfl hl.1 rfl (lv_room (Nat.le_of_ble_eq_true rfl)) dX4_readKind_73 ⟨Nat.le_of_ble_eq_true rfl, Nat.le_of_ble_eq_true rfl⟩) hP hD hS hA [0, 1, 2] rfl (fun H locs hP hD hS => ?_)
            refine lv_if_eq (tgt := 81) hx hb dX4_readKind_76 (by decide) (fun c20 => ?_) (fun c20 => ?_)
            · have hF := ifT c20 hF
              refine lv_iconst (v := (-1)) hx hb dX4_readKind_81 (by decide) ?_
              obtain ⟨rfl, rfl⟩ := in2 hF
              exact W.iret hx hb hr (fun t ht hW => ⟨⟨_, (), rfl, rfl, vaP_at ht hP⟩, hS.F ht⟩) hS.2.2 dX4_readKind_82
            · have hF := ifF c20 hF
              refine lv_iconst (v := 5) hx hb dX4_readKind_79 (by decide) ?_
              obtain ⟨rfl, rfl⟩ := in2 hF
              exact W.iret hx hb hr (fun t ht hW => ⟨⟨_, (), rfl, rfl, vaP_at ht hP⟩, hS.F ht⟩) hS.2.2 dX4_readKind_80
          · have hF := ifF c17 hF
            refine lv_iconst (v := 4) hx hb dX4_readKind_67 (by decide) ?_
            obtain ⟨rfl, rfl⟩ := in2 hF
            exact W.iret hx hb hr (fun t ht hW => ⟨⟨_, (), rfl, rfl, vaP_at ht hP⟩, hS.F ht⟩) hS.2.2 dX4_readKind_68
        · have hF := ifF c14 hF
          refine lv_iconst (v := 3) hx hb dX4_readKind_55 (by decide) ?_
          obtain ⟨rfl, rfl⟩ := in2 hF
          exact W.iret hx hb hr (fun t ht hW => ⟨⟨_, (), rfl, rfl, vaP_at ht hP⟩, hS.F ht⟩) hS.2.2 dX4_readKind_56
      · have hF := ifF c11 hF
        refine lv_iconst (v := 2) hx hb dX4_readKind_43 (by decide) ?_
        obtain ⟨rfl, rfl⟩ := in2 hF
        exact W.iret hx hb hr (fun t ht hW => ⟨⟨_, (), rfl, rfl, vaP_at ht hP⟩, hS.F ht⟩) hS.2.2 dX4_readKind_44
    · have hF := ifF c8 hF
      refine lv_iconst (v := 1) hx hb dX4_readKind_31 (by decide) ?_
      obtain ⟨rfl, rfl⟩ := in2 hF
      exact W.iret hx hb hr (fun t ht hW => ⟨⟨_, (), rfl, rfl, vaP_at ht hP⟩, hS.F ht⟩) hS.2.2 dX4_readKind_32
  · have hF := ifF c5 hF
    refine lv_iconst (v := 0) hx hb dX4_readKind_19 (by decide) ?_
    obtain ⟨rfl, rfl⟩ := in2 hF
    exact W.iret hx hb hr (fun t ht hW => ⟨⟨_, (), rfl, rfl, vaP_at ht hP⟩, hS.F ht⟩) hS.2.2 dX4_readKind_20
/-! NeedleHouse$RuleReader.readNumber()I -/
theorem i_X4_readNumber_X4 : ∀ w ∈ wsX40, w ∈ wsX4_readNumber := by decide +kernel
set_option maxHeartbeats 4000000 in
set_option maxRecDepth 100000 in
theorem jX4_readNumber_67 {p : Program} {l : Launch} {e : Env} {s : State} {m : MethodId} {args : Array Value} {below : List Frame} {meth : Method} {c : Code} {D : va_G} {ct : Nat → ClassId} {A : Nat → Prop} {q_t q_t_tape q_t_tape_bytes : Nat} {t_length : Int32} {t_tape_size : Int32} {t_tape_bytes : Nat → Int32} {o_r : Int32} {o_t_place : Int32} {o_t_numberPlace : Int32} {o_t_faultKind : Int32} {o_t_faultPlace : Int32} (C0 : Cx RX4 cX4_readNumber 2 (some .int) wsX4_readNumber D ct A p s m args meth c) (n : Nat) (t_place : Int32) (t_numberPlace : Int32) (t_faultKind : Int32) (t_faultPlace : Int32) (x_1 : Int32) (H : Heap) (locs : List Loc) (ls : Array Slot) : JX4_readNumber_67 n t_length t_place t_numberPlace t_faultKind t_faultPlace t_tape_size t_tape_bytes x_1 = some (o_r, o_t_place, o_t_numberPlace, o_t_faultKind, o_t_faultPlace) → va_P D vwCl (W_30 ct q_t q_t_tape q_t_tape_bytes t_length t_place t_numberPlace t_faultKind t_faultPlace t_tape_size t_tape_bytes) H → va_D A (W_30 ct q_t q_t_tape q_t_tape_bytes t_length t_place t_numberPlace t_faultKind t_faultPlace t_tape_size t_tape_bytes) → va_S A s.heap H locs → lv_has ls 2 [(0, .ref q_t), (1, .int x_1)] → W p l e ({ frames := 3, cells := 0, slots := 0, locals := 61 } : Room) s m args below meth c H locs 0 0 (MQ below (va_Qi (fun r (_ : Unit) => r = o_r) (fun _ t => va_P D vwCl (W_30 ct q_t q_t_tape q_t_tape_bytes t_length o_t_place o_t_numberPlace o_t_faultKind o_t_faultPlace t_tape_size t_tape_bytes) t.heap) A) args s 0 0 A) (F0 m 67 ls []) := by
  intro hF hP hD hS hl
  obtain ⟨hx, hb, hml, hown, hts, hr, hlocks, hE, hA⟩ := id C0
  unfold JX4_readNumber_67 at hF
  refine lv_aload_n hx hb dX4_readNumber_67 rfl (lv_at hl 0 rfl) ?_
  refine va_get (D := D) (ci := 4) (v := .int t_place) (C := RX4) (T := TX4) (N := 6) hx hb hts i_X4_readNumber_X4 hown hE.1 hP 0 rfl rfl 2 (by decide) (hts (.fieldLink RX4 22 "NeedleHouse$RuleReader" "place" "I") (by decide +kernel)) (fun _ h9 => h9) rfl dX4_readNumber_68 ?_
  refine lv_aload_n hx hb dX4_readNumber_71 rfl (lv_at hl 0 rfl) ?_
  refine va_get (D := D) (ci := 4) (v := .int t_numberPlace) (C := RX4) (T := TX4) (N := 6) hx hb hts i_X4_readNumber_X4 hown hE.1 hP 0 rfl rfl 3 (by decide) (hts (.fieldLink RX4 25 "NeedleHouse$RuleReader" "numberPlace" "I") (by decide +kernel)) (fun _ h9 => h9) rfl dX4_readNumber_72 ?_
  refine lv_icmp_ne (tgt := 90) hx hb dX4_readNumber_75 (by decide) (fun c13 => ?_) (fun c13 => ?_)
  · have hF := ifF c13 hF
    refine lv_iload_n hx hb dX4_readNumber_90 rfl (lv_at hl 1 rfl) ?_
    refine lv_sipush (v := 10000) hx hb dX4_readNumber_91 (by decide) ?_
    refine lv_icmp_le (tgt := 109) hx hb dX4_readNumber_94 (by decide) (fun c14 => ?_) (fun c14 => ?_)
    · have hF := ifT c14 hF
      refine lv_iload_n hx hb dX4_readNumber_109 rfl (lv_at hl 1 rfl) ?_
      obtain ⟨rfl, rfl, rfl, rfl, rfl⟩ := in5 hF
      exact W.iret hx hb hr (fun t ht hW => ⟨⟨_, (), rfl, rfl, vaP_at ht hP⟩, hS.F ht⟩) hS.2.2 dX4_readNumber_110
    · have hF := ifF c14 hF
      refine lv_aload_n hx hb dX4_readNumber_97 rfl (lv_at hl 0 rfl) ?_
      refine lv_iconst (v := 2) hx hb dX4_readNumber_98 (by decide) ?_
      refine lv_aload_n hx hb dX4_readNumber_99 rfl (lv_at hl 0 rfl) ?_
      refine va_get (D := D) (ci := 4) (v := .int t_numberPlace) (C := RX4) (T := TX4) (N := 6) hx hb hts i_X4_readNumber_X4 hown hE.1 hP 0 rfl rfl 3 (by decide) (hts (.fieldLink RX4 25 "NeedleHouse$RuleReader" "numberPlace" "I") (by decide +kernel)) (fun _ h9 => h9) rfl dX4_readNumber_100 ?_
      obtain ⟨r15, v16, v17, h18, hF⟩ := ob3_ex hF
      refine xiM (ws1 := (W_30 ct q_t q_t_tape q_t_tape_bytes t_length t_place t_numberPlace v16 v17 t_tape_size t_tape_bytes)) (va_runV (As := [.int 2, .int t_numberPlace]) (rest := []) ⟨hx, hb, hml, hown, hts⟩ (met_X4_refuse l D ct q_t q_t_tape H.size t_length t_place t_numberPlace t_faultKind t_faultPlace 2 t_numberPlace n r15 v16 v17 h18) (cwV 2 hts gX4_readNumber_X4_refuse rfl rfl rfl (by decide +kernel) ⟨Nat.le_of_ble_eq_true rfl, Nat.le_of_ble_eq_true rfl⟩) ⟨blind_, va_recv hE.1 hP (ci := 4) (q0 := 0) rfl rfl, mkpre_ hE (hP.sub [0] rfl) (hD.sub [0] (by decide) rfl)⟩ rfl rfl hl.1 rfl (lv_room (Nat.le_of_ble_eq_true rfl)) dX4_readNumber_103 ⟨Nat.le_of_ble_eq_true rfl, Nat.le_of_ble_eq_true rfl⟩) hP hD hS hA [0] [1, 2] 3 rfl rfl rfl rfl (by decide) rfl (fun H locs hP hD hS => ?_)
      refine lv_pop hx hb dX4_readNumber_106 rfl ?_
      refine lv_iconst (v := (-1)) hx hb dX4_readNumber_107 (by decide) ?_
      obtain ⟨rfl, rfl, rfl, rfl, rfl⟩ := in5 hF
      exact W.iret hx hb hr (fun t ht hW => ⟨⟨_, (), rfl, rfl, vaP_at ht hP⟩, hS.F ht⟩) hS.2.2 dX4_readNumber_108
  · have hF := ifT c13 hF
    refine lv_aload_n hx hb dX4_readNumber_78 rfl (lv_at hl 0 rfl) ?_
    refine lv_iconst (v := 1) hx hb dX4_readNumber_79 (by decide) ?_
    refine lv_aload_n hx hb dX4_readNumber_80 rfl (lv_at hl 0 rfl) ?_
    refine va_get (D := D) (ci := 4) (v := .int t_place) (C := RX4) (T := TX4) (N := 6) hx hb hts i_X4_readNumber_X4 hown hE.1 hP 0 rfl rfl 2 (by decide) (hts (.fieldLink RX4 22 "NeedleHouse$RuleReader" "place" "I") (by decide +kernel)) (fun _ h9 => h9) rfl dX4_readNumber_81 ?_
    obtain ⟨r19, v20, v21, h22, hF⟩ := ob3_ex hF
    refine xiM (ws1 := (W_30 ct q_t q_t_tape q_t_tape_bytes t_length t_place t_numberPlace v20 v21 t_tape_size t_tape_bytes)) (va_runV (As := [.int 1, .int t_place]) (rest := []) ⟨hx, hb, hml, hown, hts⟩ (met_X4_refuse l D ct q_t q_t_tape H.size t_length t_place t_numberPlace t_faultKind t_faultPlace 1 t_place n r19 v20 v21 h22) (cwV 2 hts gX4_readNumber_X4_refuse rfl rfl rfl (by decide +kernel) ⟨Nat.le_of_ble_eq_true rfl, Nat.le_of_ble_eq_true rfl⟩) ⟨blind_, va_recv hE.1 hP (ci := 4) (q0 := 0) rfl rfl, mkpre_ hE (hP.sub [0] rfl) (hD.sub [0] (by decide) rfl)⟩ rfl rfl hl.1 rfl (lv_room (Nat.le_of_ble_eq_true rfl)) dX4_readNumber_84 ⟨Nat.le_of_ble_eq_true rfl, Nat.le_of_ble_eq_true rfl⟩) hP hD hS hA [0] [1, 2] 3 rfl rfl rfl rfl (by decide) rfl (fun H locs hP hD hS => ?_)
    refine lv_pop hx hb dX4_readNumber_87 rfl ?_
    refine lv_iconst (v := (-1)) hx hb dX4_readNumber_88 (by decide) ?_
    obtain ⟨rfl, rfl, rfl, rfl, rfl⟩ := in5 hF
    exact W.iret hx hb hr (fun t ht hW => ⟨⟨_, (), rfl, rfl, vaP_at ht hP⟩, hS.F ht⟩) hS.2.2 dX4_readNumber_89
set_option maxHeartbeats 4000000 in
set_option maxRecDepth 100000 in
theorem jX4_readNumber_14 {p : Program} {l : Launch} {e : Env} {s : State} {m : MethodId} {args : Array Value} {below : List Frame} {meth : Method} {c : Code} {D : va_G} {ct : Nat → ClassId} {A : Nat → Prop} {q_t q_t_tape q_t_tape_bytes : Nat} {t_length : Int32} {t_tape_size : Int32} {t_tape_bytes : Nat → Int32} {o_r : Int32} {o_t_place : Int32} {o_t_numberPlace : Int32} {o_t_faultKind : Int32} {o_t_faultPlace : Int32} (C0 : Cx RX4 cX4_readNumber 2 (some .int) wsX4_readNumber D ct A p s m args meth c) (k14 : Int32 → Int32 → Int32 → Int32 → Int32 → Int32 → (Nat → Int32) → Int32 → Option (Int32 × Int32 × Int32 × Int32 × Int32)) (hk14 : ∀ (t_place : Int32) (t_numberPlace : Int32) (t_faultKind : Int32) (t_faultPlace : Int32) (x_1 : Int32) (H : Heap) (locs : List Loc) (ls : Array Slot), k14 t_length t_place t_numberPlace t_faultKind t_faultPlace t_tape_size t_tape_bytes x_1 = some (o_r, o_t_place, o_t_numberPlace, o_t_faultKind, o_t_faultPlace) → va_P D vwCl (W_30 ct q_t q_t_tape q_t_tape_bytes t_length t_place t_numberPlace t_faultKind t_faultPlace t_tape_size t_tape_bytes) H → va_D A (W_30 ct q_t q_t_tape q_t_tape_bytes t_length t_place t_numberPlace t_faultKind t_faultPlace t_tape_size t_tape_bytes) → va_S A s.heap H locs → lv_has ls 2 [(0, .ref q_t), (1, .int x_1)] → W p l e ({ frames := 3, cells := 0, slots := 0, locals := 61 } : Room) s m args below meth c H locs 0 0 (MQ below (va_Qi (fun r (_ : Unit) => r = o_r) (fun _ t => va_P D vwCl (W_30 ct q_t q_t_tape q_t_tape_bytes t_length o_t_place o_t_numberPlace o_t_faultKind o_t_faultPlace t_tape_size t_tape_bytes) t.heap) A) args s 0 0 A) (F0 m 14 ls [])) (n : Nat) (t_place : Int32) (t_numberPlace : Int32) (t_faultKind : Int32) (t_faultPlace : Int32) (x_1 : Int32) (H : Heap) (locs : List Loc) (ls : Array Slot) : JX4_readNumber_14 k14 n t_length t_place t_numberPlace t_faultKind t_faultPlace t_tape_size t_tape_bytes x_1 = some (o_r, o_t_place, o_t_numberPlace, o_t_faultKind, o_t_faultPlace) → va_P D vwCl (W_30 ct q_t q_t_tape q_t_tape_bytes t_length t_place t_numberPlace t_faultKind t_faultPlace t_tape_size t_tape_bytes) H → va_D A (W_30 ct q_t q_t_tape q_t_tape_bytes t_length t_place t_numberPlace t_faultKind t_faultPlace t_tape_size t_tape_bytes) → va_S A s.heap H locs → lv_has ls 2 [(0, .ref q_t), (1, .int x_1)] → W p l e ({ frames := 3, cells := 0, slots := 0, locals := 61 } : Room) s m args below meth c H locs 0 0 (MQ below (va_Qi (fun r (_ : Unit) => r = o_r) (fun _ t => va_P D vwCl (W_30 ct q_t q_t_tape q_t_tape_bytes t_length o_t_place o_t_numberPlace o_t_faultKind o_t_faultPlace t_tape_size t_tape_bytes) t.heap) A) args s 0 0 A) (F0 m 14 ls []) := by
  intro hF hP hD hS hl
  obtain ⟨hx, hb, hml, hown, hts, hr, hlocks, hE, hA⟩ := id C0
  unfold JX4_readNumber_14 at hF
  refine lv_aload_n hx hb dX4_readNumber_14 rfl (lv_at hl 0 rfl) ?_
  refine va_get (D := D) (ci := 4) (v := .int t_place) (C := RX4) (T := TX4) (N := 6) hx hb hts i_X4_readNumber_X4 hown hE.1 hP 0 rfl rfl 2 (by decide) (hts (.fieldLink RX4 22 "NeedleHouse$RuleReader" "place" "I") (by decide +kernel)) (fun _ h9 => h9) rfl dX4_readNumber_15 ?_
  refine lv_aload_n hx hb dX4_readNumber_18 rfl (lv_at hl 0 rfl) ?_
  refine va_get (D := D) (ci := 4) (v := .int t_length) (C := RX4) (T := TX4) (N := 6) hx hb hts i_X4_readNumber_X4 hown hE.1 hP 0 rfl rfl 1 (by decide) (hts (.fieldLink RX4 18 "NeedleHouse$RuleReader" "length" "I") (by decide +kernel)) (fun _ h9 => h9) rfl dX4_readNumber_19 ?_
  refine lv_icmp_ge (tgt := 67) hx hb dX4_readNumber_22 (by decide) (fun c3 => ?_) (fun c3 => ?_)
  · have hF := ifT c3 hF
    exact jX4_readNumber_67 C0 n t_place t_numberPlace t_faultKind t_faultPlace x_1 _ _ _ hF hP hD hS (lv_sub hl [0, 1] rfl)
  · have hF := ifF c3 hF
    refine lv_aload_n hx hb dX4_readNumber_25 rfl (lv_at hl 0 rfl) ?_
    obtain ⟨r4, h5, hF⟩ := ob1_ex hF
    refine xiR (va_runV (As := []) (rest := []) ⟨hx, hb, hml, hown, hts⟩ (met_X4_look l D ct q_t q_t_tape q_t_tape_bytes H.size t_length t_place t_numberPlace t_faultKind t_faultPlace t_tape_size t_tape_bytes n r4 h5) (cwV 0 hts gX4_readNumber_X4_look rfl rfl rfl (by decide +kernel) ⟨Nat.le_of_ble_eq_true rfl, Nat.le_of_ble_eq_true rfl⟩) ⟨blind_, va_recv hE.1 hP (ci := 4) (q0 := 0) rfl rfl, mkpre_ hE hP hD⟩ rfl rfl hl.1 rfl (lv_room (Nat.le_of_ble_eq_true rfl)) dX4_readNumber_26 ⟨Nat.le_of_ble_eq_true rfl, Nat.le_of_ble_eq_true rfl⟩) hP hD hS hA [0, 1, 2] rfl (fun H locs hP hD hS => ?_)
    obtain ⟨r6, h7, hF⟩ := ob1_ex hF
    refine xiR (va_runS (As := [.int r4]) (rest := []) ⟨hx, hb, hml, hown, hts⟩ (met_X4_isDigit l D ct H.size r4 n r6 h7) (va_cwS 1 hts gX4_readNumber_X4_isDigit rfl rfl rfl (by decide +kernel) ⟨Nat.le_of_ble_eq_true rfl, Nat.le_of_ble_eq_true rfl⟩) ⟨blind_, mkpre_ hE (hP.sub [] rfl) (hD.sub [] (by decide) rfl)⟩ rfl rfl hl.1 rfl (lv_room (Nat.le_of_ble_eq_true rfl)) dX4_readNumber_29 ⟨Nat.le_of_ble_eq_true rfl, Nat.le_of_ble_eq_true rfl⟩) hP hD hS hA [] rfl (fun H locs hP hD hS => ?_)
    refine lv_if_eq (tgt := 67) hx hb dX4_readNumber_32 (by decide) (fun c8 => ?_) (fun c8 => ?_)
    · have hF := ifT c8 hF
      exact jX4_readNumber_67 C0 n t_place t_numberPlace t_faultKind t_faultPlace x_1 _ _ _ hF hP hD hS (lv_sub hl [0, 1] rfl)
    · have hF := ifF c8 hF
      refine lv_iload_n hx hb dX4_readNumber_35 rfl (lv_at hl 1 rfl) ?_
      refine lv_bipush (v := 10) hx hb dX4_readNumber_36 (by decide) ?_
      refine lv_imul hx hb dX4_readNumber_38 ?_
      refine lv_aload_n hx hb dX4_readNumber_39 rfl (lv_at hl 0 rfl) ?_
      obtain ⟨r9, h10, hF⟩ := ob1_ex hF
      refine xiR (va_runV (As := []) (rest := [.int (x_1 * 10)]) ⟨hx, hb, hml, hown, hts⟩ (met_X4_look l D ct q_t q_t_tape q_t_tape_bytes H.size t_length t_place t_numberPlace t_faultKind t_faultPlace t_tape_size t_tape_bytes n r9 h10) (cwV 0 hts gX4_readNumber_X4_look rfl rfl rfl (by decide +kernel) ⟨Nat.le_of_ble_eq_true rfl, Nat.le_of_ble_eq_true rfl⟩) ⟨blind_, va_recv hE.1 hP (ci := 4) (q0 := 0) rfl rfl, mkpre_ hE hP hD⟩ rfl rfl hl.1 rfl (lv_room (Nat.le_of_ble_eq_true rfl)) dX4_readNumber_40 ⟨Nat.le_of_ble_eq_true rfl, Nat.le_of_ble_eq_true rfl⟩) hP hD hS hA [0, 1, 2] rfl (fun H locs hP hD hS => ?_)
      refine lv_iadd hx hb dX4_readNumber_43 ?_
      refine lv_bipush (v := 48) hx hb dX4_readNumber_44 (by decide) ?_
      refine lv_isub hx hb dX4_readNumber_46 ?_
      refine lv_sipush (v := 10001) hx hb dX4_readNumber_47 (by decide) ?_
      refine va_mmin hx hb (hml.trans hl.1.symm) hown (hts (.methodLink RX4 122 Lib.Math.min.name) (by decide +kernel)) (hts (.static Lib.Math.min.name) (by decide +kernel)) (hts (.initialized "java/lang/Math") (by decide +kernel)) (hts (.code Lib.Math.min.name Lib.Math.min.code 2 (some .int)) (by decide +kernel)) (Nat.le_of_ble_eq_true rfl) (Nat.le_of_ble_eq_true rfl) (Nat.zero_le _) (Nat.zero_le _) dX4_readNumber_50 ?_
      refine lv_topi (fun x11 ex11 => ?_)
      have hF := bn_as ex11 hF
      refine lv_istore_n (lv' := [(1, .int x11), (0, .ref q_t)]) hx hb dX4_readNumber_53 rfl hl (by decide) rfl (fun ls hl => ?_)
      refine lv_aload_n hx hb dX4_readNumber_54 rfl (lv_at hl 1 rfl) ?_
      refine lv_dup hx hb dX4_readNumber_55 rfl ?_
      refine va_get (D := D) (ci := 4) (v := .int t_place) (C := RX4) (T := TX4) (N := 6) hx hb hts i_X4_readNumber_X4 hown hE.1 hP 0 rfl rfl 2 (by decide) (hts (.fieldLink RX4 22 "NeedleHouse$RuleReader" "place" "I") (by decide +kernel)) (fun _ h9 => h9) rfl dX4_readNumber_56 ?_
      refine lv_iconst (v := 1) hx hb dX4_readNumber_59 (by decide) ?_
      refine lv_iadd hx hb dX4_readNumber_60 ?_
      refine lv_topi (fun x12 ex12 => ?_)
      have hF := bn_as ex12 hF
      refine va_put (D := D) (ci := 4) (v := .int x12) (ty := .int) (C := RX4) (T := TX4) (N := 6) hx hb hts i_X4_readNumber_X4 tyX4 tyX4_ok nmX4 hown hE.1 hP hD hS 0 rfl rfl 2 (by decide) (hts (.fieldLink RX4 22 "NeedleHouse$RuleReader" "place" "I") (by decide +kernel)) (fun _ h9 => h9) rfl (by decide +kernel) rfl rfl (Nat.le_of_ble_eq_true rfl) dX4_readNumber_61 (fun H locs hP hD hS => ?_)
      have hP : va_P D vwCl (W_30 ct q_t q_t_tape q_t_tape_bytes t_length x12 t_numberPlace t_faultKind t_faultPlace t_tape_size t_tape_bytes) H := hP
      have hD : va_D A (W_30 ct q_t q_t_tape q_t_tape_bytes t_length x12 t_numberPlace t_faultKind t_faultPlace t_tape_size t_tape_bytes) := hD
      refine lv_goto (tgt := 14) hx hb dX4_readNumber_64 (by decide) ?_
      exact hk14 x12 t_numberPlace t_faultKind t_faultPlace x11 _ _ _ hF hP hD hS (lv_sub hl [1, 0] rfl)
theorem lX4_readNumber_14 {p : Program} {l : Launch} {e : Env} {s : State} {m : MethodId} {args : Array Value} {below : List Frame} {meth : Method} {c : Code} {D : va_G} {ct : Nat → ClassId} {A : Nat → Prop} {q_t q_t_tape q_t_tape_bytes : Nat} {t_length : Int32} {t_tape_size : Int32} {t_tape_bytes : Nat → Int32} {o_r : Int32} {o_t_place : Int32} {o_t_numberPlace : Int32} {o_t_faultKind : Int32} {o_t_faultPlace : Int32} (C0 : Cx RX4 cX4_readNumber 2 (some .int) wsX4_readNumber D ct A p s m args meth c) : ∀ (n : Nat) (t_place : Int32) (t_numberPlace : Int32) (t_faultKind : Int32) (t_faultPlace : Int32) (x_1 : Int32) (H : Heap) (locs : List Loc) (ls : Array Slot), LX4_readNumber_14 n t_length t_place t_numberPlace t_faultKind t_faultPlace t_tape_size t_tape_bytes x_1 = some (o_r, o_t_place, o_t_numberPlace, o_t_faultKind, o_t_faultPlace) → va_P D vwCl (W_30 ct q_t q_t_tape q_t_tape_bytes t_length t_place t_numberPlace t_faultKind t_faultPlace t_tape_size t_tape_bytes) H → va_D A (W_30 ct q_t q_t_tape q_t_tape_bytes t_length t_place t_numberPlace t_faultKind t_faultPlace t_tape_size t_tape_bytes) → va_S A s.heap H locs → lv_has ls 2 [(0, .ref q_t), (1, .int x_1)] → W p l e ({ frames := 3, cells := 0, slots := 0, locals := 61 } : Room) s m args below meth c H locs 0 0 (MQ below (va_Qi (fun r (_ : Unit) => r = o_r) (fun _ t => va_P D vwCl (W_30 ct q_t q_t_tape q_t_tape_bytes t_length o_t_place o_t_numberPlace o_t_faultKind o_t_faultPlace t_tape_size t_tape_bytes) t.heap) A) args s 0 0 A) (F0 m 14 ls []) := by
  intro n
  induction n with
  | zero => intro t_place t_numberPlace t_faultKind t_faultPlace x_1 H locs ls hF; exact nomatch (show (none : Option (Int32 × Int32 × Int32 × Int32 × Int32)) = _ from hF)
  | succ n ih => intro t_place t_numberPlace t_faultKind t_faultPlace x_1 H locs ls hF; exact jX4_readNumber_14 C0 (LX4_readNumber_14 n) ih n t_place t_numberPlace t_faultKind t_faultPlace x_1 H locs ls hF
set_option maxHeartbeats 4000000 in
set_option maxRecDepth 100000 in
theorem met_X4_readNumber (l : Launch) (D : va_G) (ct : Nat → ClassId) (q_t : Nat) (q_t_tape : Nat) (q_t_tape_bytes : Nat) (sz : Nat) (t_length : Int32) (t_place : Int32) (t_numberPlace : Int32) (t_faultKind : Int32) (t_faultPlace : Int32) (t_tape_size : Int32) (t_tape_bytes : Nat → Int32) (n : Nat) (o_r : Int32) (o_t_place : Int32) (o_t_numberPlace : Int32) (o_t_faultKind : Int32) (o_t_faultPlace : Int32) (hF : FX4_readNumber n t_length t_place t_numberPlace t_faultKind t_faultPlace t_tape_size t_tape_bytes = some (o_r, o_t_place, o_t_numberPlace, o_t_faultKind, o_t_faultPlace)) : Met l yX4_readNumber wsX4_readNumber ({ frames := 3, cells := 0, slots := 0, locals := 61 } : Room) (va_Pc [.ref q_t] (pre_ D ct sz (W_30 ct q_t q_t_tape q_t_tape_bytes t_length t_place t_numberPlace t_faultKind t_faultPlace t_tape_size t_tape_bytes))) (va_Qi (fun r (_ : Unit) => r = o_r) (fun _ t => va_P D vwCl (W_30 ct q_t q_t_tape q_t_tape_bytes t_length o_t_place o_t_numberPlace o_t_faultKind o_t_faultPlace t_tape_size t_tape_bytes) t.heap) (va_A (W_30 ct q_t q_t_tape q_t_tape_bytes t_length t_place t_numberPlace t_faultKind t_faultPlace t_tape_size t_tape_bytes) sz)) 0 0 (va_A (W_30 ct q_t q_t_tape q_t_tape_bytes t_length t_place t_numberPlace t_faultKind t_faultPlace t_tape_size t_tape_bytes) sz) := by
  refine Met.ofW (cc := cX4_readNumber) (maxL := 2) (ret := (some .int)) (by decide) rfl ?_
  intro p e s m args below meth c s₁ B hml hv
  obtain ⟨rfl, hsz, hP, hE, hD0⟩ := hv
  have hx := B.exec
  have hb := B.bytes
  have hr := B.returns
  have hts := atoms_spec (ws := wsX4_readNumber) B.pre
  have hown : s.vm.findClass RX4 = some m.cls := findClass_of_methodNamed B.named
  have hlocks := B.notSynchronized
  subst hsz
  have hD := hD0.self (sz := s.heap.size)
  generalize hAe : va_A (W_30 ct q_t q_t_tape q_t_tape_bytes t_length t_place t_numberPlace t_faultKind t_faultPlace t_tape_size t_tape_bytes) s.heap.size = A at hD ⊢
  have hA : ∀ q : Nat, s.heap.size ≤ q → A q := fun q h => by rw [← hAe]; exact Or.inr h
  have hl := lv_entry ([.ref q_t]) (n := 2) (Nat.le_of_ble_eq_true rfl)
  rw [lg_entry_eq]
  generalize (lg_sl ([.ref q_t]) ++ List.replicate (2 - (lg_sl ([.ref q_t])).length) Slot.unset).toArray = ls at hl ⊢
  have hl : lv_has ls 2 [(0, .ref q_t)] := hl
  have C0 : Cx RX4 cX4_readNumber 2 (some .int) wsX4_readNumber D ct A p s m ([.ref q_t]).toArray meth c := ⟨hx, hb, hml, hown, hts, hr, hlocks, hE, hA⟩
  have hS : ∀ H : Heap, s.heap = H → va_S A s.heap H [] := fun H h => h ▸ va_S.rf
  generalize hH : s.heap = H at hP ⊢
  have hS := hS H hH
  unfold FX4_readNumber at hF
  refine lv_aload_n hx hb dX4_readNumber_0 rfl (lv_at hl 0 rfl) ?_
  obtain ⟨v1, h2, hF⟩ := ob1_ex hF
  refine xvA (va_runV (As := []) (rest := []) ⟨hx, hb, hml, hown, hts⟩ (met_X4_skipBlanks l D ct q_t q_t_tape q_t_tape_bytes H.size t_length t_place t_numberPlace t_faultKind t_faultPlace t_tape_size t_tape_bytes n v1 h2) (cwV 0 hts gX4_readNumber_X4_skipBlanks rfl rfl rfl (by decide +kernel) ⟨Nat.le_of_ble_eq_true rfl, Nat.le_of_ble_eq_true rfl⟩) ⟨blind_, va_recv hE.1 hP (ci := 4) (q0 := 0) rfl rfl, mkpre_ hE hP hD⟩ rfl rfl hl.1 rfl (lv_room (Nat.le_of_ble_eq_true rfl)) dX4_readNumber_1 ⟨Nat.le_of_ble_eq_true rfl, Nat.le_of_ble_eq_true rfl⟩) hP hD hS hA rfl (fun H locs hP hD hS => ?_)
  refine lv_aload_n hx hb dX4_readNumber_4 rfl (lv_at hl 0 rfl) ?_
  refine lv_aload_n hx hb dX4_readNumber_5 rfl (lv_at hl 0 rfl) ?_
  refine va_get (D := D) (ci := 4) (v := .int v1) (C := RX4) (T := TX4) (N := 6) hx hb hts i_X4_readNumber_X4 hown hE.1 hP 0 rfl rfl 2 (by decide) (hts (.fieldLink RX4 22 "NeedleHouse$RuleReader" "place" "I") (by decide +kernel)) (fun _ h9 => h9) rfl dX4_readNumber_6 ?_
  refine va_put (D := D) (ci := 4) (v := .int v1) (ty := .int) (C := RX4) (T := TX4) (N := 6) hx hb hts i_X4_readNumber_X4 tyX4 tyX4_ok nmX4 hown hE.1 hP hD hS 0 rfl rfl 3 (by decide) (hts (.fieldLink RX4 25 "NeedleHouse$RuleReader" "numberPlace" "I") (by decide +kernel)) (fun _ h9 => h9) rfl (by decide +kernel) rfl rfl (Nat.le_of_ble_eq_true rfl) dX4_readNumber_9 (fun H locs hP hD hS => ?_)
  have hP : va_P D vwCl (W_30 ct q_t q_t_tape q_t_tape_bytes t_length v1 v1 t_faultKind t_faultPlace t_tape_size t_tape_bytes) H := hP
  have hD : va_D A (W_30 ct q_t q_t_tape q_t_tape_bytes t_length v1 v1 t_faultKind t_faultPlace t_tape_size t_tape_bytes) := hD
  refine lv_iconst (v := 0) hx hb dX4_readNumber_12 (by decide) ?_
  refine lv_istore_n (lv' := [(1, .int 0), (0, .ref q_t)]) hx hb dX4_readNumber_13 rfl hl (by decide) rfl (fun ls hl => ?_)
  exact lX4_readNumber_14 C0 n v1 v1 t_faultKind t_faultPlace 0 _ _ _ hF hP hD hS (lv_sub hl [1, 0] rfl)
def W_31 (ct : Nat → ClassId) (a0 a1 a2 a3 a4 : Nat) (v0 : Int32) (v1 : Int32) (v2 : Int32) (v3 : Int32) (v4 : Int32) (v5 : Int32) (v6 : Nat → Int32) (v7 : Int32) (v8 : Int32) (v9 : Int32) (v10 : Int32) (v11 : Int32) (v12 : Int32) (v13 : Int32) (v14 : Int32) (v15 : Nat → Int32) : va_W := [(a0, .inr (4, [.ref a1, .int v0, .int v1, .int v2, .int v3, .int v4])), (a1, .inr (5, [.ref a2, .int v5])), (a2, .inl (ct 0, 300, .inl v6)), (a3, .inr (3, [.int v7, .int v8, .int v9, .int v10, .int v11, .int v12, .ref a4, .int v13, .int v14])), (a4, .inl (ct 0, 9, .inl v15))]
/-! NeedleHouse$RuleReader.readSteps(LNeedleHouse$Rule;)Z -/
theorem i_X4_readSteps_X4 : ∀ w ∈ wsX40, w ∈ wsX4_readSteps := by decide +kernel
set_option maxHeartbeats 4000000 in
set_option maxRecDepth 100000 in
theorem jX4_readSteps_8 {p : Program} {l : Launch} {e : Env} {s : State} {m : MethodId} {args : Array Value} {below : List Frame} {meth : Method} {c : Code} {D : va_G} {ct : Nat → ClassId} {A : Nat → Prop} {q_t q_t_tape q_t_tape_bytes q_p1 q_p1_steps : Nat} {t_length : Int32} {t_tape_size : Int32} {t_tape_bytes : Nat → Int32} {p1_limit : Int32} {p1_near : Int32} {p1_share : Int32} {p1_shareOf : Int32} {p1_window : Int32} {p1_storm : Int32} {p1_clauses : Int32} {o_r : Int32} {o_t_place : Int32} {o_t_numberPlace : Int32} {o_t_faultKind : Int32} {o_t_faultPlace : Int32} {o_p1_stepCount : Int32} {o_p1_steps : Nat → Int32} (C0 : Cx RX4 cX4_readSteps 5 (some .boolean) wsX4_readSteps D ct A p s m args meth c) (k8 : Int32 → Int32 → Int32 → Int32 → Int32 → Int32 → (Nat → Int32) → Int32 → (Nat → Int32) → Int32 → Int32 → Option (Int32 × Int32 × Int32 × Int32 × Int32 × Int32 × (Nat → Int32))) (hk8 : ∀ (t_place : Int32) (t_numberPlace : Int32) (t_faultKind : Int32) (t_faultPlace : Int32) (p1_stepCount : Int32) (p1_steps : Nat → Int32) (x_2 : Int32) (x_3 : Int32) (H : Heap) (locs : List Loc) (ls : Array Slot), k8 t_length t_place t_numberPlace t_faultKind t_faultPlace t_tape_size t_tape_bytes p1_stepCount p1_steps x_2 x_3 = some (o_r, o_t_place, o_t_numberPlace, o_t_faultKind, o_t_faultPlace, o_p1_stepCount, o_p1_steps) → va_P D vwCl (W_31 ct q_t q_t_tape q_t_tape_bytes q_p1 q_p1_steps t_length t_place t_numberPlace t_faultKind t_faultPlace t_tape_size t_tape_bytes p1_limit p1_near p1_share p1_shareOf p1_window p1_storm p1_stepCount p1_clauses p1_steps) H → va_D A (W_31 ct q_t q_t_tape q_t_tape_bytes q_p1 q_p1_steps t_length t_place t_numberPlace t_faultKind t_faultPlace t_tape_size t_tape_bytes p1_limit p1_near p1_share p1_shareOf p1_window p1_storm p1_stepCount p1_clauses p1_steps) → va_S A s.heap H locs → lv_has ls 5 [(0, .ref q_t), (1, .ref q_p1), (2, .int x_2), (3, .int x_3)] → W p l e ({ frames := 4, cells := 0, slots := 0, locals := 82 } : Room) s m args below meth c H locs 0 0 (MQ below (va_Qi (fun r (_ : Unit) => r = o_r) (fun _ t => va_P D vwCl (W_31 ct q_t q_t_tape q_t_tape_bytes q_p1 q_p1_steps t_length o_t_place o_t_numberPlace o_t_faultKind o_t_faultPlace t_tape_size t_tape_bytes p1_limit p1_near p1_share p1_shareOf p1_window p1_storm o_p1_stepCount p1_clauses o_p1_steps) t.heap) A) args s 0 0 A) (F0 m 8 ls [])) (n : Nat) (t_place : Int32) (t_numberPlace : Int32) (t_faultKind : Int32) (t_faultPlace : Int32) (p1_stepCount : Int32) (p1_steps : Nat → Int32) (x_2 : Int32) (x_3 : Int32) (H : Heap) (locs : List Loc) (ls : Array Slot) : JX4_readSteps_8 k8 n t_length t_place t_numberPlace t_faultKind t_faultPlace t_tape_size t_tape_bytes p1_stepCount p1_steps x_2 x_3 = some (o_r, o_t_place, o_t_numberPlace, o_t_faultKind, o_t_faultPlace, o_p1_stepCount, o_p1_steps) → va_P D vwCl (W_31 ct q_t q_t_tape q_t_tape_bytes q_p1 q_p1_steps t_length t_place t_numberPlace t_faultKind t_faultPlace t_tape_size t_tape_bytes p1_limit p1_near p1_share p1_shareOf p1_window p1_storm p1_stepCount p1_clauses p1_steps) H → va_D A (W_31 ct q_t q_t_tape q_t_tape_bytes q_p1 q_p1_steps t_length t_place t_numberPlace t_faultKind t_faultPlace t_tape_size t_tape_bytes p1_limit p1_near p1_share p1_shareOf p1_window p1_storm p1_stepCount p1_clauses p1_steps) → va_S A s.heap H locs → lv_has ls 5 [(0, .ref q_t), (1, .ref q_p1), (2, .int x_2), (3, .int x_3)] → W p l e ({ frames := 4, cells := 0, slots := 0, locals := 82 } : Room) s m args below meth c H locs 0 0 (MQ below (va_Qi (fun r (_ : Unit) => r = o_r) (fun _ t => va_P D vwCl (W_31 ct q_t q_t_tape q_t_tape_bytes q_p1 q_p1_steps t_length o_t_place o_t_numberPlace o_t_faultKind o_t_faultPlace t_tape_size t_tape_bytes p1_limit p1_near p1_share p1_shareOf p1_window p1_storm o_p1_stepCount p1_clauses o_p1_steps) t.heap) A) args s 0 0 A) (F0 m 8 ls []) := by
  intro hF hP hD hS hl
  obtain ⟨hx, hb, hml, hown, hts, hr, hlocks, hE, hA⟩ := id C0
  unfold JX4_readSteps_8 at hF
  refine lv_iload_n hx hb dX4_readSteps_8 rfl (lv_at hl 3 rfl) ?_
  refine lv_bipush (v := 9) hx hb dX4_readSteps_9 (by decide) ?_
  refine lv_icmp_gt (tgt := 91) hx hb dX4_readSteps_11 (by decide) (fun c3 => ?_) (fun c3 => ?_)
  · have hF := ifT c3 hF
    refine lv_iconst (v := 0) hx hb dX4_readSteps_91 (by decide) ?_
    obtain ⟨rfl, rfl, rfl, rfl, rfl, rfl, rfl⟩ := in7 hF
    exact W.zret hx hb hr rfl (fun t ht hW => ⟨⟨_, (), rfl, rfl, vaP_at ht hP⟩, hS.F ht⟩) hS.2.2 dX4_readSteps_92
  · have hF := ifF c3 hF
    refine lv_aload_n hx hb dX4_readSteps_14 rfl (lv_at hl 0 rfl) ?_
    obtain ⟨r4, v5, v6, v7, v8, h9, hF⟩ := ob5_ex hF
    refine xiM (ws1 := (W_31 ct q_t q_t_tape q_t_tape_bytes q_p1 q_p1_steps t_length v5 v6 v7 v8 t_tape_size t_tape_bytes p1_limit p1_near p1_share p1_shareOf p1_window p1_storm p1_stepCount p1_clauses p1_steps)) (va_runV (As := []) (rest := []) ⟨hx, hb, hml, hown, hts⟩ (met_X4_readNumber l D ct q_t q_t_tape q_t_tape_bytes H.size t_length t_place t_numberPlace t_faultKind t_faultPlace t_tape_size t_tape_bytes n r4 v5 v6 v7 v8 h9) (cwV 0 hts gX4_readSteps_X4_readNumber rfl rfl rfl (by decide +kernel) ⟨Nat.le_of_ble_eq_true rfl, Nat.le_of_ble_eq_true rfl⟩) ⟨blind_, va_recv hE.1 hP (ci := 4) (q0 := 0) rfl rfl, mkpre_ hE (hP.sub [0, 1, 2] rfl) (hD.sub [0, 1, 2] (by decide) rfl)⟩ rfl rfl hl.1 rfl (lv_room (Nat.le_of_ble_eq_true rfl)) dX4_readSteps_15 ⟨Nat.le_of_ble_eq_true rfl, Nat.le_of_ble_eq_true rfl⟩) hP hD hS hA [0, 1, 2] [3, 4] 5 rfl rfl rfl rfl (by decide) rfl (fun H locs hP hD hS => ?_)
    refine lv_istore (lv' := [(4, .int r4), (0, .ref q_t), (1, .ref q_p1), (2, .int x_2), (3, .int x_3)]) hx hb dX4_readSteps_18 hl (by decide) rfl (fun ls hl => ?_)
    refine lv_iload hx hb dX4_readSteps_20 (lv_at hl 0 rfl) ?_
    refine lv_iconst (v := (-1)) hx hb dX4_readSteps_22 (by decide) ?_
    refine lv_icmp_ne (tgt := 28) hx hb dX4_readSteps_23 (by decide) (fun c10 => ?_) (fun c10 => ?_)
    · have hF := ifF c10 hF
      refine lv_iload hx hb dX4_readSteps_28 (lv_at hl 0 rfl) ?_
      refine lv_iload_n hx hb dX4_readSteps_30 rfl (lv_at hl 3 rfl) ?_
      refine lv_icmp_gt (tgt := 44) hx hb dX4_readSteps_31 (by decide) (fun c11 => ?_) (fun c11 => ?_)
      · have hF := ifT c11 hF
        refine lv_iload_n hx hb dX4_readSteps_44 rfl (lv_at hl 4 rfl) ?_
        refine lv_bipush (v := 9) hx hb dX4_readSteps_45 (by decide) ?_
        refine lv_icmp_ne (tgt := 60) hx hb dX4_readSteps_47 (by decide) (fun c12 => ?_) (fun c12 => ?_)
        · have hF := ifF c12 hF
          refine lv_aload_n hx hb dX4_readSteps_60 rfl (lv_at hl 2 rfl) ?_
          refine lv_iload hx hb dX4_readSteps_61 (lv_at hl 0 rfl) ?_
          obtain ⟨v13, f14, h15, hF⟩ := ob2_ex hF
          refine xvM (ws1 := (W_31 ct q_t q_t_tape q_t_tape_bytes q_p1 q_p1_steps t_length v5 v6 v7 v8 t_tape_size t_tape_bytes p1_limit p1_near p1_share p1_shareOf p1_window p1_storm v13 p1_clauses f14)) (va_runV (As := [.int r4]) (rest := []) ⟨hx, hb, hml, hown, hts⟩ (met_X3_addStep l D ct q_p1 q_p1_steps H.size p1_limit p1_near p1_share p1_shareOf p1_window p1_storm p1_stepCount p1_clauses p1_steps r4 n v13 f14 h15) (cwV 1 hts gX4_readSteps_X3_addStep rfl rfl rfl (by decide +kernel) ⟨Nat.le_of_ble_eq_true rfl, Nat.le_of_ble_eq_true rfl⟩) ⟨blind_, va_recv hE.1 hP (ci := 3) (q0 := 3) rfl rfl, mkpre_ hE (hP.sub [3, 4] rfl) (hD.sub [3, 4] (by decide) rfl)⟩ rfl rfl hl.1 rfl (lv_room (Nat.le_of_ble_eq_true rfl)) dX4_readSteps_63 ⟨Nat.le_of_ble_eq_true rfl, Nat.le_of_ble_eq_true rfl⟩) hP hD hS hA [3, 4] [0, 1, 2] 5 rfl rfl rfl rfl (by decide) rfl (fun H locs hP hD hS => ?_)
          refine lv_iload hx hb dX4_readSteps_66 (lv_at hl 0 rfl) ?_
          refine lv_istore_n (lv' := [(2, .int r4), (4, .int r4), (0, .ref q_t), (1, .ref q_p1), (3, .int x_3)]) hx hb dX4_readSteps_68 rfl hl (by decide) rfl (fun ls hl => ?_)
          refine lv_aload_n hx hb dX4_readSteps_69 rfl (lv_at hl 2 rfl) ?_
          obtain ⟨v16, h17, hF⟩ := ob1_ex hF
          refine xvM (ws1 := (W_31 ct q_t q_t_tape q_t_tape_bytes q_p1 q_p1_steps t_length v16 v6 v7 v8 t_tape_size t_tape_bytes p1_limit p1_near p1_share p1_shareOf p1_window p1_storm v13 p1_clauses f14)) (va_runV (As := []) (rest := []) ⟨hx, hb, hml, hown, hts⟩ (met_X4_skipBlanks l D ct q_t q_t_tape q_t_tape_bytes H.size t_length v5 v6 v7 v8 t_tape_size t_tape_bytes n v16 h17) (cwV 0 hts gX4_readSteps_X4_skipBlanks rfl rfl rfl (by decide +kernel) ⟨Nat.le_of_ble_eq_true rfl, Nat.le_of_ble_eq_true rfl⟩) ⟨blind_, va_recv hE.1 hP (ci := 4) (q0 := 0) rfl rfl, mkpre_ hE (hP.sub [0, 1, 2] rfl) (hD.sub [0, 1, 2] (by decide) rfl)⟩ rfl rfl hl.1 rfl (lv_room (Nat.le_of_ble_eq_true rfl)) dX4_readSteps_70 ⟨Nat.le_of_ble_eq_true rfl, Nat.le_of_ble_eq_true rfl⟩) hP hD hS hA [0, 1, 2] [3, 4] 5 rfl rfl rfl rfl (by decide) rfl (fun H locs hP hD hS => ?_)
          refine lv_aload_n hx hb dX4_readSteps_73 rfl (lv_at hl 2 rfl) ?_
          obtain ⟨r18, h19, hF⟩ := ob1_ex hF
          refine xiR (va_runV (As := []) (rest := []) ⟨hx, hb, hml, hown, hts⟩ (met_X4_look l D ct q_t q_t_tape q_t_tape_bytes H.size t_length v16 v6 v7 v8 t_tape_size t_tape_bytes n r18 h19) (cwV 0 hts gX4_readSteps_X4_look rfl rfl rfl (by decide +kernel) ⟨Nat.le_of_ble_eq_true rfl, Nat.le_of_ble_eq_true rfl⟩) ⟨blind_, va_recv hE.1 hP (ci := 4) (q0 := 0) rfl rfl, mkpre_ hE (hP.sub [0, 1, 2] rfl) (hD.sub [0, 1, 2] (by decide) rfl)⟩ rfl rfl hl.1 rfl (lv_room (Nat.le_of_ble_eq_true rfl)) dX4_readSteps_74 ⟨Nat.le_of_ble_eq_true rfl, Nat.le_of_ble_eq_true rfl⟩) hP hD hS hA [0, 1, 2] rfl (fun H locs hP hD hS => ?_)
          obtain ⟨r20, h21, hF⟩ := ob1_ex hF
          refine xiR (va_runS (As := [.int r18]) (rest := []) ⟨hx, hb, hml, hown, hts⟩ (met_X4_isDigit l D ct H.size r18 n r20 h21) (va_cwS 1 hts gX4_readSteps_X4_isDigit rfl rfl rfl (by decide +kernel) ⟨Nat.le_of_ble_eq_true rfl, Nat.le_of_ble_eq_true rfl⟩) ⟨blind_, mkpre_ hE (hP.sub [] rfl) (hD.sub [] (by decide) rfl)⟩ rfl rfl hl.1 rfl (lv_room (Nat.le_of_ble_eq_true rfl)) dX4_readSteps_77 ⟨Nat.le_of_ble_eq_true rfl, Nat.le_of_ble_eq_true rfl⟩) hP hD hS hA [] rfl (fun H locs hP hD hS => ?_)
          refine lv_if_ne (tgt := 85) hx hb dX4_readSteps_80 (by decide) (fun c22 => ?_) (fun c22 => ?_)
          · have hF := ifF c22 hF
            obtain ⟨x23, ex23⟩ : ∃ y : Int32, y = x_3 + 1 := ⟨_, rfl⟩
            refine lv_iinc (v := x23) (lv' := [(3, .int x23), (2, .int r4), (4, .int r4), (0, .ref q_t), (1, .ref q_p1)]) hx hb dX4_readSteps_85 hl (k := 4) rfl (by rw [ex23]; rfl) (by decide) rfl (fun ls hl => ?_)
            have hF := bn_as ex23 hF
            refine lv_goto (tgt := 8) hx hb dX4_readSteps_88 (by decide) ?_
            exact hk8 v16 v6 v7 v8 v13 f14 r4 x23 _ _ _ hF hP hD hS (lv_sub hl [3, 4, 1, 0] rfl)
          · have hF := ifT c22 hF
            refine lv_iconst (v := 1) hx hb dX4_readSteps_83 (by decide) ?_
            obtain ⟨rfl, rfl, rfl, rfl, rfl, rfl, rfl⟩ := in7 hF
            exact W.zret hx hb hr rfl (fun t ht hW => ⟨⟨_, (), rfl, rfl, vaP_at ht hP⟩, hS.F ht⟩) hS.2.2 dX4_readSteps_84
        · have hF := ifT c12 hF
          refine lv_aload_n hx hb dX4_readSteps_50 rfl (lv_at hl 1 rfl) ?_
          refine lv_iconst (v := 3) hx hb dX4_readSteps_51 (by decide) ?_
          refine lv_aload_n hx hb dX4_readSteps_52 rfl (lv_at hl 1 rfl) ?_
          refine va_get (D := D) (ci := 4) (v := .int v6) (C := RX4) (T := TX4) (N := 6) hx hb hts i_X4_readSteps_X4 hown hE.1 hP 0 rfl rfl 3 (by decide) (hts (.fieldLink RX4 25 "NeedleHouse$RuleReader" "numberPlace" "I") (by decide +kernel)) (fun _ h9 => h9) rfl dX4_readSteps_53 ?_
          obtain ⟨r24, v25, v26, h27, hF⟩ := ob3_ex hF
          refine xiM (ws1 := (W_31 ct q_t q_t_tape q_t_tape_bytes q_p1 q_p1_steps t_length v5 v6 v25 v26 t_tape_size t_tape_bytes p1_limit p1_near p1_share p1_shareOf p1_window p1_storm p1_stepCount p1_clauses p1_steps)) (va_runV (As := [.int 3, .int v6]) (rest := []) ⟨hx, hb, hml, hown, hts⟩ (met_X4_refuse l D ct q_t q_t_tape H.size t_length v5 v6 v7 v8 3 v6 n r24 v25 v26 h27) (cwV 2 hts gX4_readSteps_X4_refuse rfl rfl rfl (by decide +kernel) ⟨Nat.le_of_ble_eq_true rfl, Nat.le_of_ble_eq_true rfl⟩) ⟨blind_, va_recv hE.1 hP (ci := 4) (q0 := 0) rfl rfl, mkpre_ hE (hP.sub [0] rfl) (hD.sub [0] (by decide) rfl)⟩ rfl rfl hl.1 rfl (lv_room (Nat.le_of_ble_eq_true rfl)) dX4_readSteps_56 ⟨Nat.le_of_ble_eq_true rfl, Nat.le_of_ble_eq_true rfl⟩) hP hD hS hA [0] [1, 2, 3, 4] 5 rfl rfl rfl rfl (by decide) rfl (fun H locs hP hD hS => ?_)
          obtain ⟨hz, hF⟩ := gd_ex hF
          obtain ⟨rfl, rfl, rfl, rfl, rfl, rfl, rfl⟩ := in7 hF
          exact W.zret hx hb hr hz (fun t ht hW => ⟨⟨_, (), rfl, rfl, vaP_at ht hP⟩, hS.F ht⟩) hS.2.2 dX4_readSteps_59
      · have hF := ifF c11 hF
        refine lv_aload_n hx hb dX4_readSteps_34 rfl (lv_at hl 1 rfl) ?_
        refine lv_iconst (v := 2) hx hb dX4_readSteps_35 (by decide) ?_
        refine lv_aload_n hx hb dX4_readSteps_36 rfl (lv_at hl 1 rfl) ?_
        refine va_get (D := D) (ci := 4) (v := .int v6) (C := RX4) (T := TX4) (N := 6) hx hb hts i_X4_readSteps_X4 hown hE.1 hP 0 rfl rfl 3 (by decide) (hts (.fieldLink RX4 25 "NeedleHouse$RuleReader" "numberPlace" "I") (by decide +kernel)) (fun _ h9 => h9) rfl dX4_readSteps_37 ?_
        obtain ⟨r28, v29, v30, h31, hF⟩ := ob3_ex hF
        refine xiM (ws1 := (W_31 ct q_t q_t_tape q_t_tape_bytes q_p1 q_p1_steps t_length v5 v6 v29 v30 t_tape_size t_tape_bytes p1_limit p1_near p1_share p1_shareOf p1_window p1_storm p1_stepCount p1_clauses p1_steps)) (va_runV (As := [.int 2, .int v6]) (rest := []) ⟨hx, hb, hml, hown, hts⟩ (met_X4_refuse l D ct q_t q_t_tape H.size t_length v5 v6 v7 v8 2 v6 n r28 v29 v30 h31) (cwV 2 hts gX4_readSteps_X4_refuse rfl rfl rfl (by decide +kernel) ⟨Nat.le_of_ble_eq_true rfl, Nat.le_of_ble_eq_true rfl⟩) ⟨blind_, va_recv hE.1 hP (ci := 4) (q0 := 0) rfl rfl, mkpre_ hE (hP.sub [0] rfl) (hD.sub [0] (by decide) rfl)⟩ rfl rfl hl.1 rfl (lv_room (Nat.le_of_ble_eq_true rfl)) dX4_readSteps_40 ⟨Nat.le_of_ble_eq_true rfl, Nat.le_of_ble_eq_true rfl⟩) hP hD hS hA [0] [1, 2, 3, 4] 5 rfl rfl rfl rfl (by decide) rfl (fun H locs hP hD hS => ?_)
        obtain ⟨hz, hF⟩ := gd_ex hF
        obtain ⟨rfl, rfl, rfl, rfl, rfl, rfl, rfl⟩ := in7 hF
        exact W.zret hx hb hr hz (fun t ht hW => ⟨⟨_, (), rfl, rfl, vaP_at ht hP⟩, hS.F ht⟩) hS.2.2 dX4_readSteps_43
    · have hF := ifT c10 hF
      refine lv_iconst (v := 0) hx hb dX4_readSteps_26 (by decide) ?_
      obtain ⟨rfl, rfl, rfl, rfl, rfl, rfl, rfl⟩ := in7 hF
      exact W.zret hx hb hr rfl (fun t ht hW => ⟨⟨_, (), rfl, rfl, vaP_at ht hP⟩, hS.F ht⟩) hS.2.2 dX4_readSteps_27
theorem lX4_readSteps_8 {p : Program} {l : Launch} {e : Env} {s : State} {m : MethodId} {args : Array Value} {below : List Frame} {meth : Method} {c : Code} {D : va_G} {ct : Nat → ClassId} {A : Nat → Prop} {q_t q_t_tape q_t_tape_bytes q_p1 q_p1_steps : Nat} {t_length : Int32} {t_tape_size : Int32} {t_tape_bytes : Nat → Int32} {p1_limit : Int32} {p1_near : Int32} {p1_share : Int32} {p1_shareOf : Int32} {p1_window : Int32} {p1_storm : Int32} {p1_clauses : Int32} {o_r : Int32} {o_t_place : Int32} {o_t_numberPlace : Int32} {o_t_faultKind : Int32} {o_t_faultPlace : Int32} {o_p1_stepCount : Int32} {o_p1_steps : Nat → Int32} (C0 : Cx RX4 cX4_readSteps 5 (some .boolean) wsX4_readSteps D ct A p s m args meth c) : ∀ (n : Nat) (t_place : Int32) (t_numberPlace : Int32) (t_faultKind : Int32) (t_faultPlace : Int32) (p1_stepCount : Int32) (p1_steps : Nat → Int32) (x_2 : Int32) (x_3 : Int32) (H : Heap) (locs : List Loc) (ls : Array Slot), LX4_readSteps_8 n t_length t_place t_numberPlace t_faultKind t_faultPlace t_tape_size t_tape_bytes p1_stepCount p1_steps x_2 x_3 = some (o_r, o_t_place, o_t_numberPlace, o_t_faultKind, o_t_faultPlace, o_p1_stepCount, o_p1_steps) → va_P D vwCl (W_31 ct q_t q_t_tape q_t_tape_bytes q_p1 q_p1_steps t_length t_place t_numberPlace t_faultKind t_faultPlace t_tape_size t_tape_bytes p1_limit p1_near p1_share p1_shareOf p1_window p1_storm p1_stepCount p1_clauses p1_steps) H → va_D A (W_31 ct q_t q_t_tape q_t_tape_bytes q_p1 q_p1_steps t_length t_place t_numberPlace t_faultKind t_faultPlace t_tape_size t_tape_bytes p1_limit p1_near p1_share p1_shareOf p1_window p1_storm p1_stepCount p1_clauses p1_steps) → va_S A s.heap H locs → lv_has ls 5 [(0, .ref q_t), (1, .ref q_p1), (2, .int x_2), (3, .int x_3)] → W p l e ({ frames := 4, cells := 0, slots := 0, locals := 82 } : Room) s m args below meth c H locs 0 0 (MQ below (va_Qi (fun r (_ : Unit) => r = o_r) (fun _ t => va_P D vwCl (W_31 ct q_t q_t_tape q_t_tape_bytes q_p1 q_p1_steps t_length o_t_place o_t_numberPlace o_t_faultKind o_t_faultPlace t_tape_size t_tape_bytes p1_limit p1_near p1_share p1_shareOf p1_window p1_storm o_p1_stepCount p1_clauses o_p1_steps) t.heap) A) args s 0 0 A) (F0 m 8 ls []) := by
  intro n
  induction n with
  | zero => intro t_place t_numberPlace t_faultKind t_faultPlace p1_stepCount p1_steps x_2 x_3 H locs ls hF; exact nomatch (show (none : Option (Int32 × Int32 × Int32 × Int32 × Int32 × Int32 × (Nat → Int32))) = _ from hF)
  | succ n ih => intro t_place t_numberPlace t_faultKind t_faultPlace p1_stepCount p1_steps x_2 x_3 H locs ls hF; exact jX4_readSteps_8 C0 (LX4_readSteps_8 n) ih n t_place t_numberPlace t_faultKind t_faultPlace p1_stepCount p1_steps x_2 x_3 H locs ls hF
set_option maxHeartbeats 4000000 in
set_option maxRecDepth 100000 in
theorem met_X4_readSteps (l : Launch) (D : va_G) (ct : Nat → ClassId) (q_t : Nat) (q_t_tape : Nat) (q_t_tape_bytes : Nat) (q_p1 : Nat) (q_p1_steps : Nat) (sz : Nat) (t_length : Int32) (t_place : Int32) (t_numberPlace : Int32) (t_faultKind : Int32) (t_faultPlace : Int32) (t_tape_size : Int32) (t_tape_bytes : Nat → Int32) (p1_limit : Int32) (p1_near : Int32) (p1_share : Int32) (p1_shareOf : Int32) (p1_window : Int32) (p1_storm : Int32) (p1_stepCount : Int32) (p1_clauses : Int32) (p1_steps : Nat → Int32) (n : Nat) (o_r : Int32) (o_t_place : Int32) (o_t_numberPlace : Int32) (o_t_faultKind : Int32) (o_t_faultPlace : Int32) (o_p1_stepCount : Int32) (o_p1_steps : Nat → Int32) (hF : FX4_readSteps n t_length t_place t_numberPlace t_faultKind t_faultPlace t_tape_size t_tape_bytes p1_stepCount p1_steps = some (o_r, o_t_place, o_t_numberPlace, o_t_faultKind, o_t_faultPlace, o_p1_stepCount, o_p1_steps)) : Met l yX4_readSteps wsX4_readSteps ({ frames := 4, cells := 0, slots := 0, locals := 82 } : Room) (va_Pc [.ref q_t, .ref q_p1] (pre_ D ct sz (W_31 ct q_t q_t_tape q_t_tape_bytes q_p1 q_p1_steps t_length t_place t_numberPlace t_faultKind t_faultPlace t_tape_size t_tape_bytes p1_limit p1_near p1_share p1_shareOf p1_window p1_storm p1_stepCount p1_clauses p1_steps))) (va_Qi (fun r (_ : Unit) => r = o_r) (fun _ t => va_P D vwCl (W_31 ct q_t q_t_tape q_t_tape_bytes q_p1 q_p1_steps t_length o_t_place o_t_numberPlace o_t_faultKind o_t_faultPlace t_tape_size t_tape_bytes p1_limit p1_near p1_share p1_shareOf p1_window p1_storm o_p1_stepCount p1_clauses o_p1_steps) t.heap) (va_A (W_31 ct q_t q_t_tape q_t_tape_bytes q_p1 q_p1_steps t_length t_place t_numberPlace t_faultKind t_faultPlace t_tape_size t_tape_bytes p1_limit p1_near p1_share p1_shareOf p1_window p1_storm p1_stepCount p1_clauses p1_steps) sz)) 0 0 (va_A (W_31 ct q_t q_t_tape q_t_tape_bytes q_p1 q_p1_steps t_length t_place t_numberPlace t_faultKind t_faultPlace t_tape_size t_tape_bytes p1_limit p1_near p1_share p1_shareOf p1_window p1_storm p1_stepCount p1_clauses p1_steps) sz) := by
  refine Met.ofW (cc := cX4_readSteps) (maxL := 5) (ret := (some .boolean)) (by decide) rfl ?_
  intro p e s m args below meth c s₁ B hml hv
  obtain ⟨rfl, hsz, hP, hE, hD0⟩ := hv
  have hx := B.exec
  have hb := B.bytes
  have hr := B.returns
  have hts := atoms_spec (ws := wsX4_readSteps) B.pre
  have hown : s.vm.findClass RX4 = some m.cls := findClass_of_methodNamed B.named
  have hlocks := B.notSynchronized
  subst hsz
  have hD := hD0.self (sz := s.heap.size)
  generalize hAe : va_A (W_31 ct q_t q_t_tape q_t_tape_bytes q_p1 q_p1_steps t_length t_place t_numberPlace t_faultKind t_faultPlace t_tape_size t_tape_bytes p1_limit p1_near p1_share p1_shareOf p1_window p1_storm p1_stepCount p1_clauses p1_steps) s.heap.size = A at hD ⊢
  have hA : ∀ q : Nat, s.heap.size ≤ q → A q := fun q h => by rw [← hAe]; exact Or.inr h
  have hl := lv_entry ([.ref q_t, .ref q_p1]) (n := 5) (Nat.le_of_ble_eq_true rfl)
  rw [lg_entry_eq]
  generalize (lg_sl ([.ref q_t, .ref q_p1]) ++ List.replicate (5 - (lg_sl ([.ref q_t, .ref q_p1])).length) Slot.unset).toArray = ls at hl ⊢
  have hl : lv_has ls 5 [(0, .ref q_t), (1, .ref q_p1)] := hl
  have C0 : Cx RX4 cX4_readSteps 5 (some .boolean) wsX4_readSteps D ct A p s m ([.ref q_t, .ref q_p1]).toArray meth c := ⟨hx, hb, hml, hown, hts, hr, hlocks, hE, hA⟩
  have hS : ∀ H : Heap, s.heap = H → va_S A s.heap H [] := fun H h => h ▸ va_S.rf
  generalize hH : s.heap = H at hP ⊢
  have hS := hS H hH
  unfold FX4_readSteps at hF
  refine lv_aload_n hx hb dX4_readSteps_0 rfl (lv_at hl 1 rfl) ?_
  obtain ⟨v1, h2, hF⟩ := ob1_ex hF
  refine xvM (ws1 := (W_31 ct q_t q_t_tape q_t_tape_bytes q_p1 q_p1_steps t_length t_place t_numberPlace t_faultKind t_faultPlace t_tape_size t_tape_bytes p1_limit p1_near p1_share p1_shareOf p1_window p1_storm v1 p1_clauses p1_steps)) (va_runV (As := []) (rest := []) ⟨hx, hb, hml, hown, hts⟩ (met_X3_clearSteps l D ct q_p1 q_p1_steps H.size p1_limit p1_near p1_share p1_shareOf p1_window p1_storm p1_stepCount p1_clauses n v1 h2) (cwV 0 hts gX4_readSteps_X3_clearSteps rfl rfl rfl (by decide +kernel) ⟨Nat.le_of_ble_eq_true rfl, Nat.le_of_ble_eq_true rfl⟩) ⟨blind_, va_recv hE.1 hP (ci := 3) (q0 := 3) rfl rfl, mkpre_ hE (hP.sub [3] rfl) (hD.sub [3] (by decide) rfl)⟩ rfl rfl hl.1 rfl (lv_room (Nat.le_of_ble_eq_true rfl)) dX4_readSteps_1 ⟨Nat.le_of_ble_eq_true rfl, Nat.le_of_ble_eq_true rfl⟩) hP hD hS hA [3] [0, 1, 2, 4] 5 rfl rfl rfl rfl (by decide) rfl (fun H locs hP hD hS => ?_)
  refine lv_iconst (v := (-1)) hx hb dX4_readSteps_4 (by decide) ?_
  refine lv_istore_n (lv' := [(2, .int ((-1))), (0, .ref q_t), (1, .ref q_p1)]) hx hb dX4_readSteps_5 rfl hl (by decide) rfl (fun ls hl => ?_)
  refine lv_iconst (v := 0) hx hb dX4_readSteps_6 (by decide) ?_
  refine lv_istore_n (lv' := [(3, .int 0), (2, .int ((-1))), (0, .ref q_t), (1, .ref q_p1)]) hx hb dX4_readSteps_7 rfl hl (by decide) rfl (fun ls hl => ?_)
  exact lX4_readSteps_8 C0 n t_place t_numberPlace t_faultKind t_faultPlace v1 p1_steps ((-1)) 0 _ _ _ hF hP hD hS (lv_sub hl [2, 3, 1, 0] rfl)
def W_32 (ct : Nat → ClassId) (a0 a1 a2 a3 a4 : Nat) (v0 : Int32) (v1 : Int32) (v2 : Int32) (v3 : Int32) (v4 : Int32) (v5 : Int32) (v6 : Nat → Int32) (v7 : Int32) (v8 : Int32) (v9 : Int32) (v10 : Int32) (v11 : Int32) (v12 : Int32) (v13 : Int32) (v14 : Int32) : va_W := [(a0, .inr (4, [.ref a1, .int v0, .int v1, .int v2, .int v3, .int v4])), (a1, .inr (5, [.ref a2, .int v5])), (a2, .inl (ct 0, 300, .inl v6)), (a3, .inr (3, [.int v7, .int v8, .int v9, .int v10, .int v11, .int v12, .ref a4, .int v13, .int v14]))]
/-! NeedleHouse$RuleReader.readShare(LNeedleHouse$Rule;)Z -/
theorem i_X4_readShare_X3 : ∀ w ∈ wsX30, w ∈ wsX4_readShare := by decide +kernel
theorem i_X4_readShare_X4 : ∀ w ∈ wsX40, w ∈ wsX4_readShare := by decide +kernel
set_option maxHeartbeats 4000000 in
set_option maxRecDepth 100000 in
theorem met_X4_readShare (l : Launch) (D : va_G) (ct : Nat → ClassId) (adK adV : Nat → Nat) (q_t : Nat) (q_t_tape : Nat) (q_t_tape_bytes : Nat) (q_p1 : Nat) (q_p1_steps : Nat) (sz : Nat) (t_length : Int32) (t_place : Int32) (t_numberPlace : Int32) (t_faultKind : Int32) (t_faultPlace : Int32) (t_tape_size : Int32) (t_tape_bytes : Nat → Int32) (p1_limit : Int32) (p1_near : Int32) (p1_share : Int32) (p1_shareOf : Int32) (p1_window : Int32) (p1_storm : Int32) (p1_stepCount : Int32) (p1_clauses : Int32) (n : Nat) (o_r : Int32) (o_t_place : Int32) (o_t_numberPlace : Int32) (o_t_faultKind : Int32) (o_t_faultPlace : Int32) (o_p1_share : Int32) (o_p1_shareOf : Int32) (hF : FX4_readShare n t_length t_place t_numberPlace t_faultKind t_faultPlace t_tape_size t_tape_bytes p1_share p1_shareOf = some (o_r, o_t_place, o_t_numberPlace, o_t_faultKind, o_t_faultPlace, o_p1_share, o_p1_shareOf)) : Met l yX4_readShare wsX4_readShare ({ frames := 5, cells := 0, slots := 0, locals := 108 } : Room) (va_Pc [.ref q_t, .ref q_p1] (preS D ct sz (W_32 ct q_t q_t_tape q_t_tape_bytes q_p1 q_p1_steps t_length t_place t_numberPlace t_faultKind t_faultPlace t_tape_size t_tape_bytes p1_limit p1_near p1_share p1_shareOf p1_window p1_storm p1_stepCount p1_clauses) adK adV)) (va_Qi (fun r (_ : Unit) => r = o_r) (fun _ t => va_P D vwCl (W_32 ct q_t q_t_tape q_t_tape_bytes q_p1 q_p1_steps t_length o_t_place o_t_numberPlace o_t_faultKind o_t_faultPlace t_tape_size t_tape_bytes p1_limit p1_near o_p1_share o_p1_shareOf p1_window p1_storm p1_stepCount p1_clauses) t.heap) (va_A (W_32 ct q_t q_t_tape q_t_tape_bytes q_p1 q_p1_steps t_length t_place t_numberPlace t_faultKind t_faultPlace t_tape_size t_tape_bytes p1_limit p1_near p1_share p1_shareOf p1_window p1_storm p1_stepCount p1_clauses) sz)) 0 0 (va_A (W_32 ct q_t q_t_tape q_t_tape_bytes q_p1 q_p1_steps t_length t_place t_numberPlace t_faultKind t_faultPlace t_tape_size t_tape_bytes p1_limit p1_near p1_share p1_shareOf p1_window p1_storm p1_stepCount p1_clauses) sz) := by
  refine Met.ofW (cc := cX4_readShare) (maxL := 5) (ret := (some .boolean)) (by decide) rfl ?_
  intro p e s m args below meth c s₁ B hml hv
  obtain ⟨rfl, ⟨hsz, hP, hE, hD0⟩, hSE⟩ := hv
  have hx := B.exec
  have hb := B.bytes
  have hr := B.returns
  have hts := atoms_spec (ws := wsX4_readShare) B.pre
  have hown : s.vm.findClass RX4 = some m.cls := findClass_of_methodNamed B.named
  have hlocks := B.notSynchronized
  subst hsz
  have hD := hD0.self (sz := s.heap.size)
  generalize hAe : va_A (W_32 ct q_t q_t_tape q_t_tape_bytes q_p1 q_p1_steps t_length t_place t_numberPlace t_faultKind t_faultPlace t_tape_size t_tape_bytes p1_limit p1_near p1_share p1_shareOf p1_window p1_storm p1_stepCount p1_clauses) s.heap.size = A at hD hSE ⊢
  have hA : ∀ q : Nat, s.heap.size ≤ q → A q := fun q h => by rw [← hAe]; exact Or.inr h
  have hl := lv_entry ([.ref q_t, .ref q_p1]) (n := 5) (Nat.le_of_ble_eq_true rfl)
  rw [lg_entry_eq]
  generalize (lg_sl ([.ref q_t, .ref q_p1]) ++ List.replicate (5 - (lg_sl ([.ref q_t, .ref q_p1])).length) Slot.unset).toArray = ls at hl ⊢
  have hl : lv_has ls 5 [(0, .ref q_t), (1, .ref q_p1)] := hl
  have C0 : Cx RX4 cX4_readShare 5 (some .boolean) wsX4_readShare D ct A p s m ([.ref q_t, .ref q_p1]).toArray meth c := ⟨hx, hb, hml, hown, hts, hr, hlocks, hE, hA⟩
  have hS : ∀ H : Heap, s.heap = H → va_S A s.heap H [] := fun H h => h ▸ va_S.rf
  generalize hH : s.heap = H at hP ⊢
  have hS := hS H hH
  unfold FX4_readShare at hF
  refine lv_aload_n hx hb dX4_readShare_0 rfl (lv_at hl 0 rfl) ?_
  obtain ⟨r1, v2, v3, v4, v5, h6, hF⟩ := ob5_ex hF
  refine xiM (ws1 := (W_32 ct q_t q_t_tape q_t_tape_bytes q_p1 q_p1_steps t_length v2 v3 v4 v5 t_tape_size t_tape_bytes p1_limit p1_near p1_share p1_shareOf p1_window p1_storm p1_stepCount p1_clauses)) (va_runV (As := []) (rest := []) ⟨hx, hb, hml, hown, hts⟩ (met_X4_readNumber l D ct q_t q_t_tape q_t_tape_bytes H.size t_length t_place t_numberPlace t_faultKind t_faultPlace t_tape_size t_tape_bytes n r1 v2 v3 v4 v5 h6) (cwV 0 hts gX4_readShare_X4_readNumber rfl rfl rfl (by decide +kernel) ⟨Nat.le_of_ble_eq_true rfl, Nat.le_of_ble_eq_true rfl⟩) ⟨blind_, va_recv hE.1 hP (ci := 4) (q0 := 0) rfl rfl, mkpre_ hE (hP.sub [0, 1, 2] rfl) (hD.sub [0, 1, 2] (by decide) rfl)⟩ rfl rfl hl.1 rfl (lv_room (Nat.le_of_ble_eq_true rfl)) dX4_readShare_1 ⟨Nat.le_of_ble_eq_true rfl, Nat.le_of_ble_eq_true rfl⟩) hP hD hS hA [0, 1, 2] [3] 4 rfl rfl rfl rfl (by decide) rfl (fun H locs hP hD hS => ?_)
  refine lv_istore_n (lv' := [(2, .int r1), (0, .ref q_t), (1, .ref q_p1)]) hx hb dX4_readShare_4 rfl hl (by decide) rfl (fun ls hl => ?_)
  refine lv_iload_n hx hb dX4_readShare_5 rfl (lv_at hl 0 rfl) ?_
  refine lv_iconst (v := (-1)) hx hb dX4_readShare_6 (by decide) ?_
  refine lv_icmp_ne (tgt := 12) hx hb dX4_readShare_7 (by decide) (fun c7 => ?_) (fun c7 => ?_)
  · have hF := ifF c7 hF
    refine lv_aload_n hx hb dX4_readShare_12 rfl (lv_at hl 1 rfl) ?_
    obtain ⟨v8, h9, hF⟩ := ob1_ex hF
    refine xvM (ws1 := (W_32 ct q_t q_t_tape q_t_tape_bytes q_p1 q_p1_steps t_length v8 v3 v4 v5 t_tape_size t_tape_bytes p1_limit p1_near p1_share p1_shareOf p1_window p1_storm p1_stepCount p1_clauses)) (va_runV (As := []) (rest := []) ⟨hx, hb, hml, hown, hts⟩ (met_X4_skipBlanks l D ct q_t q_t_tape q_t_tape_bytes H.size t_length v2 v3 v4 v5 t_tape_size t_tape_bytes n v8 h9) (cwV 0 hts gX4_readShare_X4_skipBlanks rfl rfl rfl (by decide +kernel) ⟨Nat.le_of_ble_eq_true rfl, Nat.le_of_ble_eq_true rfl⟩) ⟨blind_, va_recv hE.1 hP (ci := 4) (q0 := 0) rfl rfl, mkpre_ hE (hP.sub [0, 1, 2] rfl) (hD.sub [0, 1, 2] (by decide) rfl)⟩ rfl rfl hl.1 rfl (lv_room (Nat.le_of_ble_eq_true rfl)) dX4_readShare_13 ⟨Nat.le_of_ble_eq_true rfl, Nat.le_of_ble_eq_true rfl⟩) hP hD hS hA [0, 1, 2] [3] 4 rfl rfl rfl rfl (by decide) rfl (fun H locs hP hD hS => ?_)
    refine lv_aload_n hx hb dX4_readShare_16 rfl (lv_at hl 1 rfl) ?_
    refine va_get (D := D) (ci := 4) (v := .int v8) (C := RX4) (T := TX4) (N := 6) hx hb hts i_X4_readShare_X4 hown hE.1 hP 0 rfl rfl 2 (by decide) (hts (.fieldLink RX4 22 "NeedleHouse$RuleReader" "place" "I") (by decide +kernel)) (fun _ h9 => h9) rfl dX4_readShare_17 ?_
    refine lv_istore_n (lv' := [(3, .int v8), (2, .int r1), (0, .ref q_t), (1, .ref q_p1)]) hx hb dX4_readShare_20 rfl hl (by decide) rfl (fun ls hl => ?_)
    refine lv_aload_n hx hb dX4_readShare_21 rfl (lv_at hl 2 rfl) ?_
    obtain ⟨v10, h11, hF⟩ := ob1_ex hF
    refine xvM (ws1 := (W_32 ct q_t q_t_tape q_t_tape_bytes q_p1 q_p1_steps t_length v10 v3 v4 v5 t_tape_size t_tape_bytes p1_limit p1_near p1_share p1_shareOf p1_window p1_storm p1_stepCount p1_clauses)) (va_runV (As := []) (rest := []) ⟨hx, hb, hml, hown, hts⟩ (met_X4_skipLetters l D ct q_t q_t_tape q_t_tape_bytes H.size t_length v8 v3 v4 v5 t_tape_size t_tape_bytes n v10 h11) (cwV 0 hts gX4_readShare_X4_skipLetters rfl rfl rfl (by decide +kernel) ⟨Nat.le_of_ble_eq_true rfl, Nat.le_of_ble_eq_true rfl⟩) ⟨blind_, va_recv hE.1 hP (ci := 4) (q0 := 0) rfl rfl, mkpre_ hE (hP.sub [0, 1, 2] rfl) (hD.sub [0, 1, 2] (by decide) rfl)⟩ rfl rfl hl.1 rfl (lv_room (Nat.le_of_ble_eq_true rfl)) dX4_readShare_22 ⟨Nat.le_of_ble_eq_true rfl, Nat.le_of_ble_eq_true rfl⟩) hP hD hS hA [0, 1, 2] [3] 4 rfl rfl rfl rfl (by decide) rfl (fun H locs hP hD hS => ?_)
    refine lv_aload_n hx hb dX4_readShare_25 rfl (lv_at hl 2 rfl) ?_
    refine va_ldcS hx hb hown (SR_6 hSE.2.2.2) dX4_readShare_26 ?_
    refine lv_iload_n hx hb dX4_readShare_28 rfl (lv_at hl 0 rfl) ?_
    obtain ⟨r12, h13, hF⟩ := ob1_ex hF
    refine xiR (va_runV (As := [.ref ((adK 6)), .int v8]) (rest := []) ⟨hx, hb, hml, hown, hts⟩ (met_X4_spells l D ct adK adV q_t q_t_tape q_t_tape_bytes 6 (by decide) H.size t_length v10 v3 v4 v5 t_tape_size t_tape_bytes v8 n r12 h13) (cwV 2 hts gX4_readShare_X4_spells rfl rfl rfl (by decide +kernel) ⟨Nat.le_of_ble_eq_true rfl, Nat.le_of_ble_eq_true rfl⟩) ⟨blindS, va_recv hE.1 hP (ci := 4) (q0 := 0) rfl rfl, mkpreS hE hSE hS (va_free hD hS hA [0, 1, 2] rfl) (hP.sub [0, 1, 2] rfl) (hD.sub [0, 1, 2] (by decide) rfl)⟩ rfl rfl hl.1 rfl (lv_room (Nat.le_of_ble_eq_true rfl)) dX4_readShare_29 ⟨Nat.le_of_ble_eq_true rfl, Nat.le_of_ble_eq_true rfl⟩) hP hD hS hA [0, 1, 2] rfl (fun H locs hP hD hS => ?_)
    refine lv_if_ne (tgt := 42) hx hb dX4_readShare_32 (by decide) (fun c14 => ?_) (fun c14 => ?_)
    · have hF := ifF c14 hF
      refine lv_aload_n hx hb dX4_readShare_42 rfl (lv_at hl 2 rfl) ?_
      obtain ⟨r15, v16, v17, v18, v19, h20, hF⟩ := ob5_ex hF
      refine xiM (ws1 := (W_32 ct q_t q_t_tape q_t_tape_bytes q_p1 q_p1_steps t_length v16 v17 v18 v19 t_tape_size t_tape_bytes p1_limit p1_near p1_share p1_shareOf p1_window p1_storm p1_stepCount p1_clauses)) (va_runV (As := []) (rest := []) ⟨hx, hb, hml, hown, hts⟩ (met_X4_readNumber l D ct q_t q_t_tape q_t_tape_bytes H.size t_length v10 v3 v4 v5 t_tape_size t_tape_bytes n r15 v16 v17 v18 v19 h20) (cwV 0 hts gX4_readShare_X4_readNumber rfl rfl rfl (by decide +kernel) ⟨Nat.le_of_ble_eq_true rfl, Nat.le_of_ble_eq_true rfl⟩) ⟨blind_, va_recv hE.1 hP (ci := 4) (q0 := 0) rfl rfl, mkpre_ hE (hP.sub [0, 1, 2] rfl) (hD.sub [0, 1, 2] (by decide) rfl)⟩ rfl rfl hl.1 rfl (lv_room (Nat.le_of_ble_eq_true rfl)) dX4_readShare_43 ⟨Nat.le_of_ble_eq_true rfl, Nat.le_of_ble_eq_true rfl⟩) hP hD hS hA [0, 1, 2] [3] 4 rfl rfl rfl rfl (by decide) rfl (fun H locs hP hD hS => ?_)
      refine lv_istore (lv' := [(4, .int r15), (3, .int v8), (2, .int r1), (0, .ref q_t), (1, .ref q_p1)]) hx hb dX4_readShare_46 hl (by decide) rfl (fun ls hl => ?_)
      refine lv_iload hx hb dX4_readShare_48 (lv_at hl 0 rfl) ?_
      refine lv_iconst (v := (-1)) hx hb dX4_readShare_50 (by decide) ?_
      refine lv_icmp_ne (tgt := 56) hx hb dX4_readShare_51 (by decide) (fun c21 => ?_) (fun c21 => ?_)
      · have hF := ifF c21 hF
        refine lv_iload hx hb dX4_readShare_56 (lv_at hl 0 rfl) ?_
        refine lv_if_eq (tgt := 67) hx hb dX4_readShare_58 (by decide) (fun c22 => ?_) (fun c22 => ?_)
        · have hF := ifT c22 hF
          refine lv_aload_n hx hb dX4_readShare_67 rfl (lv_at hl 3 rfl) ?_
          refine lv_iconst (v := 2) hx hb dX4_readShare_68 (by decide) ?_
          refine lv_aload_n hx hb dX4_readShare_69 rfl (lv_at hl 3 rfl) ?_
          refine va_get (D := D) (ci := 4) (v := .int v17) (C := RX4) (T := TX4) (N := 6) hx hb hts i_X4_readShare_X4 hown hE.1 hP 0 rfl rfl 3 (by decide) (hts (.fieldLink RX4 25 "NeedleHouse$RuleReader" "numberPlace" "I") (by decide +kernel)) (fun _ h9 => h9) rfl dX4_readShare_70 ?_
          obtain ⟨r23, v24, v25, h26, hF⟩ := ob3_ex hF
          refine xiM (ws1 := (W_32 ct q_t q_t_tape q_t_tape_bytes q_p1 q_p1_steps t_length v16 v17 v24 v25 t_tape_size t_tape_bytes p1_limit p1_near p1_share p1_shareOf p1_window p1_storm p1_stepCount p1_clauses)) (va_runV (As := [.int 2, .int v17]) (rest := []) ⟨hx, hb, hml, hown, hts⟩ (met_X4_refuse l D ct q_t q_t_tape H.size t_length v16 v17 v18 v19 2 v17 n r23 v24 v25 h26) (cwV 2 hts gX4_readShare_X4_refuse rfl rfl rfl (by decide +kernel) ⟨Nat.le_of_ble_eq_true rfl, Nat.le_of_ble_eq_true rfl⟩) ⟨blind_, va_recv hE.1 hP (ci := 4) (q0 := 0) rfl rfl, mkpre_ hE (hP.sub [0] rfl) (hD.sub [0] (by decide) rfl)⟩ rfl rfl hl.1 rfl (lv_room (Nat.le_of_ble_eq_true rfl)) dX4_readShare_73 ⟨Nat.le_of_ble_eq_true rfl, Nat.le_of_ble_eq_true rfl⟩) hP hD hS hA [0] [1, 2, 3] 4 rfl rfl rfl rfl (by decide) rfl (fun H locs hP hD hS => ?_)
          obtain ⟨hz, hF⟩ := gd_ex hF
          obtain ⟨rfl, rfl, rfl, rfl, rfl, rfl, rfl⟩ := in7 hF
          exact W.zret hx hb hr hz (fun t ht hW => ⟨⟨_, (), rfl, rfl, vaP_at ht hP⟩, hS.F ht⟩) hS.2.2 dX4_readShare_76
        · have hF := ifF c22 hF
          refine lv_iload hx hb dX4_readShare_61 (lv_at hl 0 rfl) ?_
          refine lv_iload_n hx hb dX4_readShare_63 rfl (lv_at hl 2 rfl) ?_
          refine lv_icmp_ge (tgt := 77) hx hb dX4_readShare_64 (by decide) (fun c27 => ?_) (fun c27 => ?_)
          · have hF := ifT c27 hF
            refine lv_aload_n hx hb dX4_readShare_77 rfl (lv_at hl 4 rfl) ?_
            refine lv_iload_n hx hb dX4_readShare_78 rfl (lv_at hl 2 rfl) ?_
            refine va_putN (D := D) (ci := 3) (v := .int r1) (ty := .int) (C := RX3) (T := TX3) (N := 9) hx hb hts i_X4_readShare_X3 tyX3 tyX3_ok nmX3 hown hE.1 hP hD hS 3 rfl rfl 2 (by decide) (va_Nw.use rfl (NW_7 hE.2)) (fun _ h9 => h9) rfl (by decide +kernel) rfl rfl (Nat.le_of_ble_eq_true rfl) dX4_readShare_79 (fun H locs hP hD hS => ?_)
            have hP : va_P D vwCl (W_32 ct q_t q_t_tape q_t_tape_bytes q_p1 q_p1_steps t_length v16 v17 v18 v19 t_tape_size t_tape_bytes p1_limit p1_near r1 p1_shareOf p1_window p1_storm p1_stepCount p1_clauses) H := hP
            have hD : va_D A (W_32 ct q_t q_t_tape q_t_tape_bytes q_p1 q_p1_steps t_length v16 v17 v18 v19 t_tape_size t_tape_bytes p1_limit p1_near r1 p1_shareOf p1_window p1_storm p1_stepCount p1_clauses) := hD
            refine lv_aload_n hx hb dX4_readShare_82 rfl (lv_at hl 4 rfl) ?_
            refine lv_iload hx hb dX4_readShare_83 (lv_at hl 0 rfl) ?_
            refine va_putN (D := D) (ci := 3) (v := .int r15) (ty := .int) (C := RX3) (T := TX3) (N := 9) hx hb hts i_X4_readShare_X3 tyX3 tyX3_ok nmX3 hown hE.1 hP hD hS 3 rfl rfl 3 (by decide) (va_Nw.use rfl (NW_8 hE.2)) (fun _ h9 => h9) rfl (by decide +kernel) rfl rfl (Nat.le_of_ble_eq_true rfl) dX4_readShare_85 (fun H locs hP hD hS => ?_)
            have hP : va_P D vwCl (W_32 ct q_t q_t_tape q_t_tape_bytes q_p1 q_p1_steps t_length v16 v17 v18 v19 t_tape_size t_tape_bytes p1_limit p1_near r1 r15 p1_window p1_storm p1_stepCount p1_clauses) H := hP
            have hD : va_D A (W_32 ct q_t q_t_tape q_t_tape_bytes q_p1 q_p1_steps t_length v16 v17 v18 v19 t_tape_size t_tape_bytes p1_limit p1_near r1 r15 p1_window p1_storm p1_stepCount p1_clauses) := hD
            refine lv_iconst (v := 1) hx hb dX4_readShare_88 (by decide) ?_
            obtain ⟨rfl, rfl, rfl, rfl, rfl, rfl, rfl⟩ := in7 hF
            exact W.zret hx hb hr rfl (fun t ht hW => ⟨⟨_, (), rfl, rfl, vaP_at ht hP⟩, hS.F ht⟩) hS.2.2 dX4_readShare_89
          · have hF := ifF c27 hF
            refine lv_aload_n hx hb dX4_readShare_67 rfl (lv_at hl 3 rfl) ?_
            refine lv_iconst (v := 2) hx hb dX4_readShare_68 (by decide) ?_
            refine lv_aload_n hx hb dX4_readShare_69 rfl (lv_at hl 3 rfl) ?_
            refine va_get (D := D) (ci := 4) (v := .int v17) (C := RX4) (T := TX4) (N := 6) hx hb hts i_X4_readShare_X4 hown hE.1 hP 0 rfl rfl 3 (by decide) (hts (.fieldLink RX4 25 "NeedleHouse$RuleReader" "numberPlace" "I") (by decide +kernel)) (fun _ h9 => h9) rfl dX4_readShare_70 ?_
            obtain ⟨r28, v29, v30, h31, hF⟩ := ob3_ex hF
            refine xiM (ws1 := (W_32 ct q_t q_t_tape q_t_tape_bytes q_p1 q_p1_steps t_length v16 v17 v29 v30 t_tape_size t_tape_bytes p1_limit p1_near p1_share p1_shareOf p1_window p1_storm p1_stepCount p1_clauses)) (va_runV (As := [.int 2, .int v17]) (rest := []) ⟨hx, hb, hml, hown, hts⟩ (met_X4_refuse l D ct q_t q_t_tape H.size t_length v16 v17 v18 v19 2 v17 n r28 v29 v30 h31) (cwV 2 hts gX4_readShare_X4_refuse rfl rfl rfl (by decide +kernel) ⟨Nat.le_of_ble_eq_true rfl, Nat.le_of_ble_eq_true rfl⟩) ⟨blind_, va_recv hE.1 hP (ci := 4) (q0 := 0) rfl rfl, mkpre_ hE (hP.sub [0] rfl) (hD.sub [0] (by decide) rfl)⟩ rfl rfl hl.1 rfl (lv_room (Nat.le_of_ble_eq_true rfl)) dX4_readShare_73 ⟨Nat.le_of_ble_eq_true rfl, Nat.le_of_ble_eq_true rfl⟩) hP hD hS hA [0] [1, 2, 3] 4 rfl rfl rfl rfl (by decide) rfl (fun H locs hP hD hS => ?_)
            obtain ⟨hz, hF⟩ := gd_ex hF
            obtain ⟨rfl, rfl, rfl, rfl, rfl, rfl, rfl⟩ := in7 hF
            exact W.zret hx hb hr hz (fun t ht hW => ⟨⟨_, (), rfl, rfl, vaP_at ht hP⟩, hS.F ht⟩) hS.2.2 dX4_readShare_76
      · have hF := ifT c21 hF
        refine lv_iconst (v := 0) hx hb dX4_readShare_54 (by decide) ?_
        obtain ⟨rfl, rfl, rfl, rfl, rfl, rfl, rfl⟩ := in7 hF
        exact W.zret hx hb hr rfl (fun t ht hW => ⟨⟨_, (), rfl, rfl, vaP_at ht hP⟩, hS.F ht⟩) hS.2.2 dX4_readShare_55
    · have hF := ifT c14 hF
      refine lv_aload_n hx hb dX4_readShare_35 rfl (lv_at hl 2 rfl) ?_
      refine lv_iconst (v := 1) hx hb dX4_readShare_36 (by decide) ?_
      refine lv_iload_n hx hb dX4_readShare_37 rfl (lv_at hl 0 rfl) ?_
      obtain ⟨r32, v33, v34, h35, hF⟩ := ob3_ex hF
      refine xiM (ws1 := (W_32 ct q_t q_t_tape q_t_tape_bytes q_p1 q_p1_steps t_length v10 v3 v33 v34 t_tape_size t_tape_bytes p1_limit p1_near p1_share p1_shareOf p1_window p1_storm p1_stepCount p1_clauses)) (va_runV (As := [.int 1, .int v8]) (rest := []) ⟨hx, hb, hml, hown, hts⟩ (met_X4_refuse l D ct q_t q_t_tape H.size t_length v10 v3 v4 v5 1 v8 n r32 v33 v34 h35) (cwV 2 hts gX4_readShare_X4_refuse rfl rfl rfl (by decide +kernel) ⟨Nat.le_of_ble_eq_true rfl, Nat.le_of_ble_eq_true rfl⟩) ⟨blind_, va_recv hE.1 hP (ci := 4) (q0 := 0) rfl rfl, mkpre_ hE (hP.sub [0] rfl) (hD.sub [0] (by decide) rfl)⟩ rfl rfl hl.1 rfl (lv_room (Nat.le_of_ble_eq_true rfl)) dX4_readShare_38 ⟨Nat.le_of_ble_eq_true rfl, Nat.le_of_ble_eq_true rfl⟩) hP hD hS hA [0] [1, 2, 3] 4 rfl rfl rfl rfl (by decide) rfl (fun H locs hP hD hS => ?_)
      obtain ⟨hz, hF⟩ := gd_ex hF
      obtain ⟨rfl, rfl, rfl, rfl, rfl, rfl, rfl⟩ := in7 hF
      exact W.zret hx hb hr hz (fun t ht hW => ⟨⟨_, (), rfl, rfl, vaP_at ht hP⟩, hS.F ht⟩) hS.2.2 dX4_readShare_41
  · have hF := ifT c7 hF
    refine lv_iconst (v := 0) hx hb dX4_readShare_10 (by decide) ?_
    obtain ⟨rfl, rfl, rfl, rfl, rfl, rfl, rfl⟩ := in7 hF
    exact W.zret hx hb hr rfl (fun t ht hW => ⟨⟨_, (), rfl, rfl, vaP_at ht hP⟩, hS.F ht⟩) hS.2.2 dX4_readShare_11
/-! NeedleHouse$RuleReader.readSetting(ILNeedleHouse$Rule;)Z -/
theorem i_X4_readSetting_X3 : ∀ w ∈ wsX30, w ∈ wsX4_readSetting := by decide +kernel
theorem i_X4_readSetting_X4 : ∀ w ∈ wsX40, w ∈ wsX4_readSetting := by decide +kernel
set_option maxHeartbeats 4000000 in
set_option maxRecDepth 100000 in
theorem met_X4_readSetting (l : Launch) (D : va_G) (ct : Nat → ClassId) (q_t : Nat) (q_t_tape : Nat) (q_t_tape_bytes : Nat) (q_p2 : Nat) (q_p2_steps : Nat) (sz : Nat) (t_length : Int32) (t_place : Int32) (t_numberPlace : Int32) (t_faultKind : Int32) (t_faultPlace : Int32) (t_tape_size : Int32) (t_tape_bytes : Nat → Int32) (p2_limit : Int32) (p2_near : Int32) (p2_share : Int32) (p2_shareOf : Int32) (p2_window : Int32) (p2_storm : Int32) (p2_stepCount : Int32) (p2_clauses : Int32) (p1 : Int32) (n : Nat) (o_r : Int32) (o_t_place : Int32) (o_t_numberPlace : Int32) (o_t_faultKind : Int32) (o_t_faultPlace : Int32) (o_p2_limit : Int32) (o_p2_near : Int32) (o_p2_window : Int32) (o_p2_storm : Int32) (hF : FX4_readSetting n t_length t_place t_numberPlace t_faultKind t_faultPlace t_tape_size t_tape_bytes p2_limit p2_near p2_window p2_storm p1 = some (o_r, o_t_place, o_t_numberPlace, o_t_faultKind, o_t_faultPlace, o_p2_limit, o_p2_near, o_p2_window, o_p2_storm)) : Met l yX4_readSetting wsX4_readSetting ({ frames := 4, cells := 0, slots := 0, locals := 82 } : Room) (va_Pc [.ref q_t, .int p1, .ref q_p2] (pre_ D ct sz (W_32 ct q_t q_t_tape q_t_tape_bytes q_p2 q_p2_steps t_length t_place t_numberPlace t_faultKind t_faultPlace t_tape_size t_tape_bytes p2_limit p2_near p2_share p2_shareOf p2_window p2_storm p2_stepCount p2_clauses))) (va_Qi (fun r (_ : Unit) => r = o_r) (fun _ t => va_P D vwCl (W_32 ct q_t q_t_tape q_t_tape_bytes q_p2 q_p2_steps t_length o_t_place o_t_numberPlace o_t_faultKind o_t_faultPlace t_tape_size t_tape_bytes o_p2_limit o_p2_near p2_share p2_shareOf o_p2_window o_p2_storm p2_stepCount p2_clauses) t.heap) (va_A (W_32 ct q_t q_t_tape q_t_tape_bytes q_p2 q_p2_steps t_length t_place t_numberPlace t_faultKind t_faultPlace t_tape_size t_tape_bytes p2_limit p2_near p2_share p2_shareOf p2_window p2_storm p2_stepCount p2_clauses) sz)) 0 0 (va_A (W_32 ct q_t q_t_tape q_t_tape_bytes q_p2 q_p2_steps t_length t_place t_numberPlace t_faultKind t_faultPlace t_tape_size t_tape_bytes p2_limit p2_near p2_share p2_shareOf p2_window p2_storm p2_stepCount p2_clauses) sz) := by
  refine Met.ofW (cc := cX4_readSetting) (maxL := 4) (ret := (some .boolean)) (by decide) rfl ?_
  intro p e s m args below meth c s₁ B hml hv
  obtain ⟨rfl, hsz, hP, hE, hD0⟩ := hv
  have hx := B.exec
  have hb := B.bytes
  have hr := B.returns
  have hts := atoms_spec (ws := wsX4_readSetting) B.pre
  have hown : s.vm.findClass RX4 = some m.cls := findClass_of_methodNamed B.named
  have hlocks := B.notSynchronized
  subst hsz
  have hD := hD0.self (sz := s.heap.size)
  generalize hAe : va_A (W_32 ct q_t q_t_tape q_t_tape_bytes q_p2 q_p2_steps t_length t_place t_numberPlace t_faultKind t_faultPlace t_tape_size t_tape_bytes p2_limit p2_near p2_share p2_shareOf p2_window p2_storm p2_stepCount p2_clauses) s.heap.size = A at hD ⊢
  have hA : ∀ q : Nat, s.heap.size ≤ q → A q := fun q h => by rw [← hAe]; exact Or.inr h
  have hl := lv_entry ([.ref q_t, .int p1, .ref q_p2]) (n := 4) (Nat.le_of_ble_eq_true rfl)
  rw [lg_entry_eq]
  generalize (lg_sl ([.ref q_t, .int p1, .ref q_p2]) ++ List.replicate (4 - (lg_sl ([.ref q_t, .int p1, .ref q_p2])).length) Slot.unset).toArray = ls at hl ⊢
  have hl : lv_has ls 4 [(0, .ref q_t), (1, .int p1), (2, .ref q_p2)] := hl
  have C0 : Cx RX4 cX4_readSetting 4 (some .boolean) wsX4_readSetting D ct A p s m ([.ref q_t, .int p1, .ref q_p2]).toArray meth c := ⟨hx, hb, hml, hown, hts, hr, hlocks, hE, hA⟩
  have hS : ∀ H : Heap, s.heap = H → va_S A s.heap H [] := fun H h => h ▸ va_S.rf
  generalize hH : s.heap = H at hP ⊢
  have hS := hS H hH
  unfold FX4_readSetting at hF
  refine lv_aload_n hx hb dX4_readSetting_0 rfl (lv_at hl 0 rfl) ?_
  obtain ⟨r1, v2, v3, v4, v5, h6, hF⟩ := ob5_ex hF
  refine xiM (ws1 := (W_32 ct q_t q_t_tape q_t_tape_bytes q_p2 q_p2_steps t_length v2 v3 v4 v5 t_tape_size t_tape_bytes p2_limit p2_near p2_share p2_shareOf p2_window p2_storm p2_stepCount p2_clauses)) (va_runV (As := []) (rest := []) ⟨hx, hb, hml, hown, hts⟩ (met_X4_readNumber l D ct q_t q_t_tape q_t_tape_bytes H.size t_length t_place t_numberPlace t_faultKind t_faultPlace t_tape_size t_tape_bytes n r1 v2 v3 v4 v5 h6) (cwV 0 hts gX4_readSetting_X4_readNumber rfl rfl rfl (by decide +kernel) ⟨Nat.le_of_ble_eq_true rfl, Nat.le_of_ble_eq_true rfl⟩) ⟨blind_, va_recv hE.1 hP (ci := 4) (q0 := 0) rfl rfl, mkpre_ hE (hP.sub [0, 1, 2] rfl) (hD.sub [0, 1, 2] (by decide) rfl)⟩ rfl rfl hl.1 rfl (lv_room (Nat.le_of_ble_eq_true rfl)) dX4_readSetting_1 ⟨Nat.le_of_ble_eq_true rfl, Nat.le_of_ble_eq_true rfl⟩) hP hD hS hA [0, 1, 2] [3] 4 rfl rfl rfl rfl (by decide) rfl (fun H locs hP hD hS => ?_)
  refine lv_istore_n (lv' := [(3, .int r1), (0, .ref q_t), (1, .int p1), (2, .ref q_p2)]) hx hb dX4_readSetting_4 rfl hl (by decide) rfl (fun ls hl => ?_)
  refine lv_iload_n hx hb dX4_readSetting_5 rfl (lv_at hl 0 rfl) ?_
  refine lv_iconst (v := (-1)) hx hb dX4_readSetting_6 (by decide) ?_
  refine lv_icmp_ne (tgt := 12) hx hb dX4_readSetting_7 (by decide) (fun c7 => ?_) (fun c7 => ?_)
  · have hF := ifF c7 hF
    refine lv_iload_n hx hb dX4_readSetting_12 rfl (lv_at hl 2 rfl) ?_
    by_cases c8 : p1 = 0
    · have hF := ifT c8 hF
      refine lv_tableIn (off := 35) (tgt := 48) hx hb dX4_readSetting_13 (by rw [c8]; decide) (by rw [c8]; decide) (by rw [c8]; decide) (by decide) ?_
      refine lv_aload_n hx hb dX4_readSetting_48 rfl (lv_at hl 3 rfl) ?_
      refine lv_iload_n hx hb dX4_readSetting_49 rfl (lv_at hl 0 rfl) ?_
      refine va_putN (D := D) (ci := 3) (v := .int r1) (ty := .int) (C := RX3) (T := TX3) (N := 9) hx hb hts i_X4_readSetting_X3 tyX3 tyX3_ok nmX3 hown hE.1 hP hD hS 3 rfl rfl 0 (by decide) (va_Nw.use rfl (NW_10 hE.2)) (fun _ h9 => h9) rfl (by decide +kernel) rfl rfl (Nat.le_of_ble_eq_true rfl) dX4_readSetting_50 (fun H locs hP hD hS => ?_)
      have hP : va_P D vwCl (W_32 ct q_t q_t_tape q_t_tape_bytes q_p2 q_p2_steps t_length v2 v3 v4 v5 t_tape_size t_tape_bytes r1 p2_near p2_share p2_shareOf p2_window p2_storm p2_stepCount p2_clauses) H := hP
      have hD : va_D A (W_32 ct q_t q_t_tape q_t_tape_bytes q_p2 q_p2_steps t_length v2 v3 v4 v5 t_tape_size t_tape_bytes r1 p2_near p2_share p2_shareOf p2_window p2_storm p2_stepCount p2_clauses) := hD
      refine lv_iconst (v := 1) hx hb dX4_readSetting_53 (by decide) ?_
      obtain ⟨rfl, rfl, rfl, rfl, rfl, rfl, rfl, rfl, rfl⟩ := in9 hF
      exact W.zret hx hb hr rfl (fun t ht hW => ⟨⟨_, (), rfl, rfl, vaP_at ht hP⟩, hS.F ht⟩) hS.2.2 dX4_readSetting_54
    have hF := ifF c8 hF
    by_cases c9 : p1 = 1
    · have hF := ifT c9 hF
      refine lv_tableIn (off := 42) (tgt := 55) hx hb dX4_readSetting_13 (by rw [c9]; decide) (by rw [c9]; decide) (by rw [c9]; decide) (by decide) ?_
      refine lv_aload_n hx hb dX4_readSetting_55 rfl (lv_at hl 3 rfl) ?_
      refine lv_iload_n hx hb dX4_readSetting_56 rfl (lv_at hl 0 rfl) ?_
      refine va_putN (D := D) (ci := 3) (v := .int r1) (ty := .int) (C := RX3) (T := TX3) (N := 9) hx hb hts i_X4_readSetting_X3 tyX3 tyX3_ok nmX3 hown hE.1 hP hD hS 3 rfl rfl 1 (by decide) (va_Nw.use rfl (NW_11 hE.2)) (fun _ h9 => h9) rfl (by decide +kernel) rfl rfl (Nat.le_of_ble_eq_true rfl) dX4_readSetting_57 (fun H locs hP hD hS => ?_)
      have hP : va_P D vwCl (W_32 ct q_t q_t_tape q_t_tape_bytes q_p2 q_p2_steps t_length v2 v3 v4 v5 t_tape_size t_tape_bytes p2_limit r1 p2_share p2_shareOf p2_window p2_storm p2_stepCount p2_clauses) H := hP
      have hD : va_D A (W_32 ct q_t q_t_tape q_t_tape_bytes q_p2 q_p2_steps t_length v2 v3 v4 v5 t_tape_size t_tape_bytes p2_limit r1 p2_share p2_shareOf p2_window p2_storm p2_stepCount p2_clauses) := hD
      refine lv_iconst (v := 1) hx hb dX4_readSetting_60 (by decide) ?_
      obtain ⟨rfl, rfl, rfl, rfl, rfl, rfl, rfl, rfl, rfl⟩ := in9 hF
      exact W.zret hx hb hr rfl (fun t ht hW => ⟨⟨_, (), rfl, rfl, vaP_at ht hP⟩, hS.F ht⟩) hS.2.2 dX4_readSetting_61
    have hF := ifF c9 hF
    by_cases c10 : p1 = 2
    · have hF := ifT c10 hF
      refine lv_tableIn (off := 56) (tgt := 69) hx hb dX4_readSetting_13 (by rw [c10]; decide) (by rw [c10]; decide) (by rw [c10]; decide) (by decide) ?_
      refine lv_aload_n hx hb dX4_readSetting_69 rfl (lv_at hl 3 rfl) ?_
      refine lv_iload_n hx hb dX4_readSetting_70 rfl (lv_at hl 0 rfl) ?_
      refine va_putN (D := D) (ci := 3) (v := .int r1) (ty := .int) (C := RX3) (T := TX3) (N := 9) hx hb hts i_X4_readSetting_X3 tyX3 tyX3_ok nmX3 hown hE.1 hP hD hS 3 rfl rfl 4 (by decide) (va_Nw.use rfl (NW_13 hE.2)) (fun _ h9 => h9) rfl (by decide +kernel) rfl rfl (Nat.le_of_ble_eq_true rfl) dX4_readSetting_71 (fun H locs hP hD hS => ?_)
      have hP : va_P D vwCl (W_32 ct q_t q_t_tape q_t_tape_bytes q_p2 q_p2_steps t_length v2 v3 v4 v5 t_tape_size t_tape_bytes p2_limit p2_near p2_share p2_shareOf r1 p2_storm p2_stepCount p2_clauses) H := hP
      have hD : va_D A (W_32 ct q_t q_t_tape q_t_tape_bytes q_p2 q_p2_steps t_length v2 v3 v4 v5 t_tape_size t_tape_bytes p2_limit p2_near p2_share p2_shareOf r1 p2_storm p2_stepCount p2_clauses) := hD
      refine lv_iload_n hx hb dX4_readSetting_74 rfl (lv_at hl 0 rfl) ?_
      refine lv_iconst (v := 2) hx hb dX4_readSetting_75 (by decide) ?_
      refine lv_bipush (v := 60) hx hb dX4_readSetting_76 (by decide) ?_
      obtain ⟨r11, h12, hF⟩ := ob1_ex hF
      refine xiR (va_runSN (As := [.int r1, .int 2, .int 60]) (rest := []) ⟨hx, hb, hml, hown, hts⟩ (met_X9_within l D ct H.size r1 2 60 n r11 h12) ⟨va_cnB 3 hts gX4_readSetting_X9_within_n100 rfl rfl rfl (NW_18 hE.2) (hts (.initialized RX9) (by decide +kernel)) (by decide +kernel) ⟨Nat.le_of_ble_eq_true rfl, Nat.le_of_ble_eq_true rfl⟩, (hts (.static yX9_within) (by decide +kernel)), trivial⟩ ⟨blind_, mkpre_ hE (hP.sub [] rfl) (hD.sub [] (by decide) rfl)⟩ rfl rfl hl.1 rfl (lv_room (Nat.le_of_ble_eq_true rfl)) dX4_readSetting_78 ⟨Nat.le_of_ble_eq_true rfl, Nat.le_of_ble_eq_true rfl⟩) hP hD hS hA [] rfl (fun H locs hP hD hS => ?_)
      refine lv_if_ne (tgt := 96) hx hb dX4_readSetting_81 (by decide) (fun c13 => ?_) (fun c13 => ?_)
      · have hF := ifF c13 hF
        refine lv_iconst (v := 1) hx hb dX4_readSetting_96 (by decide) ?_
        refine lv_goto (tgt := 101) hx hb dX4_readSetting_97 (by decide) ?_
        obtain ⟨rfl, rfl, rfl, rfl, rfl, rfl, rfl, rfl, rfl⟩ := in9 hF
        exact W.zret hx hb hr rfl (fun t ht hW => ⟨⟨_, (), rfl, rfl, vaP_at ht hP⟩, hS.F ht⟩) hS.2.2 dX4_readSetting_101
      · have hF := ifT c13 hF
        refine lv_aload_n hx hb dX4_readSetting_84 rfl (lv_at hl 1 rfl) ?_
        refine lv_iconst (v := 2) hx hb dX4_readSetting_85 (by decide) ?_
        refine lv_aload_n hx hb dX4_readSetting_86 rfl (lv_at hl 1 rfl) ?_
        refine va_get (D := D) (ci := 4) (v := .int v3) (C := RX4) (T := TX4) (N := 6) hx hb hts i_X4_readSetting_X4 hown hE.1 hP 0 rfl rfl 3 (by decide) (hts (.fieldLink RX4 25 "NeedleHouse$RuleReader" "numberPlace" "I") (by decide +kernel)) (fun _ h9 => h9) rfl dX4_readSetting_87 ?_
        obtain ⟨r14, v15, v16, h17, hF⟩ := ob3_ex hF
        refine xiM (ws1 := (W_32 ct q_t q_t_tape q_t_tape_bytes q_p2 q_p2_steps t_length v2 v3 v15 v16 t_tape_size t_tape_bytes p2_limit p2_near p2_share p2_shareOf r1 p2_storm p2_stepCount p2_clauses)) (va_runV (As := [.int 2, .int v3]) (rest := []) ⟨hx, hb, hml, hown, hts⟩ (met_X4_refuse l D ct q_t q_t_tape H.size t_length v2 v3 v4 v5 2 v3 n r14 v15 v16 h17) (cwV 2 hts gX4_readSetting_X4_refuse rfl rfl rfl (by decide +kernel) ⟨Nat.le_of_ble_eq_true rfl, Nat.le_of_ble_eq_true rfl⟩) ⟨blind_, va_recv hE.1 hP (ci := 4) (q0 := 0) rfl rfl, mkpre_ hE (hP.sub [0] rfl) (hD.sub [0] (by decide) rfl)⟩ rfl rfl hl.1 rfl (lv_room (Nat.le_of_ble_eq_true rfl)) dX4_readSetting_90 ⟨Nat.le_of_ble_eq_true rfl, Nat.le_of_ble_eq_true rfl⟩) hP hD hS hA [0] [1, 2, 3] 4 rfl rfl rfl rfl (by decide) rfl (fun H locs hP hD hS => ?_)
        refine lv_if_eq (tgt := 100) hx hb dX4_readSetting_93 (by decide) (fun c18 => ?_) (fun c18 => ?_)
        · have hF := ifT c18 hF
          refine lv_iconst (v := 0) hx hb dX4_readSetting_100 (by decide) ?_
          obtain ⟨rfl, rfl, rfl, rfl, rfl, rfl, rfl, rfl, rfl⟩ := in9 hF
          exact W.zret hx hb hr rfl (fun t ht hW => ⟨⟨_, (), rfl, rfl, vaP_at ht hP⟩, hS.F ht⟩) hS.2.2 dX4_readSetting_101
        · have hF := ifF c18 hF
          refine lv_iconst (v := 1) hx hb dX4_readSetting_96 (by decide) ?_
          refine lv_goto (tgt := 101) hx hb dX4_readSetting_97 (by decide) ?_
          obtain ⟨rfl, rfl, rfl, rfl, rfl, rfl, rfl, rfl, rfl⟩ := in9 hF
          exact W.zret hx hb hr rfl (fun t ht hW => ⟨⟨_, (), rfl, rfl, vaP_at ht hP⟩, hS.F ht⟩) hS.2.2 dX4_readSetting_101
    have hF := ifF c10 hF
    by_cases c19 : p1 = 3
    · have hF := ifT c19 hF
      refine lv_tableIn (off := 56) (tgt := 69) hx hb dX4_readSetting_13 (by rw [c19]; decide) (by rw [c19]; decide) (by rw [c19]; decide) (by decide) ?_
      refine lv_aload_n hx hb dX4_readSetting_69 rfl (lv_at hl 3 rfl) ?_
      refine lv_iload_n hx hb dX4_readSetting_70 rfl (lv_at hl 0 rfl) ?_
      refine va_putN (D := D) (ci := 3) (v := .int r1) (ty := .int) (C := RX3) (T := TX3) (N := 9) hx hb hts i_X4_readSetting_X3 tyX3 tyX3_ok nmX3 hown hE.1 hP hD hS 3 rfl rfl 4 (by decide) (va_Nw.use rfl (NW_13 hE.2)) (fun _ h9 => h9) rfl (by decide +kernel) rfl rfl (Nat.le_of_ble_eq_true rfl) dX4_readSetting_71 (fun H locs hP hD hS => ?_)
      have hP : va_P D vwCl (W_32 ct q_t q_t_tape q_t_tape_bytes q_p2 q_p2_steps t_length v2 v3 v4 v5 t_tape_size t_tape_bytes p2_limit p2_near p2_share p2_shareOf r1 p2_storm p2_stepCount p2_clauses) H := hP
      have hD : va_D A (W_32 ct q_t q_t_tape q_t_tape_bytes q_p2 q_p2_steps t_length v2 v3 v4 v5 t_tape_size t_tape_bytes p2_limit p2_near p2_share p2_shareOf r1 p2_storm p2_stepCount p2_clauses) := hD
      refine lv_iload_n hx hb dX4_readSetting_74 rfl (lv_at hl 0 rfl) ?_
      refine lv_iconst (v := 2) hx hb dX4_readSetting_75 (by decide) ?_
      refine lv_bipush (v := 60) hx hb dX4_readSetting_76 (by decide) ?_
      obtain ⟨r20, h21, hF⟩ := ob1_ex hF
      refine xiR (va_runSN (As := [.int r1, .int 2, .int 60]) (rest := []) ⟨hx, hb, hml, hown, hts⟩ (met_X9_within l D ct H.size r1 2 60 n r20 h21) ⟨va_cnB 3 hts gX4_readSetting_X9_within_n100 rfl rfl rfl (NW_18 hE.2) (hts (.initialized RX9) (by decide +kernel)) (by decide +kernel) ⟨Nat.le_of_ble_eq_true rfl, Nat.le_of_ble_eq_true rfl⟩, (hts (.static yX9_within) (by decide +kernel)), trivial⟩ ⟨blind_, mkpre_ hE (hP.sub [] rfl) (hD.sub [] (by decide) rfl)⟩ rfl rfl hl.1 rfl (lv_room (Nat.le_of_ble_eq_true rfl)) dX4_readSetting_78 ⟨Nat.le_of_ble_eq_true rfl, Nat.le_of_ble_eq_true rfl⟩) hP hD hS hA [] rfl (fun H locs hP hD hS => ?_)
      refine lv_if_ne (tgt := 96) hx hb dX4_readSetting_81 (by decide) (fun c22 => ?_) (fun c22 => ?_)
      · have hF := ifF c22 hF
        refine lv_iconst (v := 1) hx hb dX4_readSetting_96 (by decide) ?_
        refine lv_goto (tgt := 101) hx hb dX4_readSetting_97 (by decide) ?_
        obtain ⟨rfl, rfl, rfl, rfl, rfl, rfl, rfl, rfl, rfl⟩ := in9 hF
        exact W.zret hx hb hr rfl (fun t ht hW => ⟨⟨_, (), rfl, rfl, vaP_at ht hP⟩, hS.F ht⟩) hS.2.2 dX4_readSetting_101
      · have hF := ifT c22 hF
        refine lv_aload_n hx hb dX4_readSetting_84 rfl (lv_at hl 1 rfl) ?_
        refine lv_iconst (v := 2) hx hb dX4_readSetting_85 (by decide) ?_
        refine lv_aload_n hx hb dX4_readSetting_86 rfl (lv_at hl 1 rfl) ?_
        refine va_get (D := D) (ci := 4) (v := .int v3) (C := RX4) (T := TX4) (N := 6) hx hb hts i_X4_readSetting_X4 hown hE.1 hP 0 rfl rfl 3 (by decide) (hts (.fieldLink RX4 25 "NeedleHouse$RuleReader" "numberPlace" "I") (by decide +kernel)) (fun _ h9 => h9) rfl dX4_readSetting_87 ?_
        obtain ⟨r23, v24, v25, h26, hF⟩ := ob3_ex hF
        refine xiM (ws1 := (W_32 ct q_t q_t_tape q_t_tape_bytes q_p2 q_p2_steps t_length v2 v3 v24 v25 t_tape_size t_tape_bytes p2_limit p2_near p2_share p2_shareOf r1 p2_storm p2_stepCount p2_clauses)) (va_runV (As := [.int 2, .int v3]) (rest := []) ⟨hx, hb, hml, hown, hts⟩ (met_X4_refuse l D ct q_t q_t_tape H.size t_length v2 v3 v4 v5 2 v3 n r23 v24 v25 h26) (cwV 2 hts gX4_readSetting_X4_refuse rfl rfl rfl (by decide +kernel) ⟨Nat.le_of_ble_eq_true rfl, Nat.le_of_ble_eq_true rfl⟩) ⟨blind_, va_recv hE.1 hP (ci := 4) (q0 := 0) rfl rfl, mkpre_ hE (hP.sub [0] rfl) (hD.sub [0] (by decide) rfl)⟩ rfl rfl hl.1 rfl (lv_room (Nat.le_of_ble_eq_true rfl)) dX4_readSetting_90 ⟨Nat.le_of_ble_eq_true rfl, Nat.le_of_ble_eq_true rfl⟩) hP hD hS hA [0] [1, 2, 3] 4 rfl rfl rfl rfl (by decide) rfl (fun H locs hP hD hS => ?_)
        refine lv_if_eq (tgt := 100) hx hb dX4_readSetting_93 (by decide) (fun c27 => ?_) (fun c27 => ?_)
        · have hF := ifT c27 hF
          refine lv_iconst (v := 0) hx hb dX4_readSetting_100 (by decide) ?_
          obtain ⟨rfl, rfl, rfl, rfl, rfl, rfl, rfl, rfl, rfl⟩ := in9 hF
          exact W.zret hx hb hr rfl (fun t ht hW => ⟨⟨_, (), rfl, rfl, vaP_at ht hP⟩, hS.F ht⟩) hS.2.2 dX4_readSetting_101
        · have hF := ifF c27 hF
          refine lv_iconst (v := 1) hx hb dX4_readSetting_96 (by decide) ?_
          refine lv_goto (tgt := 101) hx hb dX4_readSetting_97 (by decide) ?_
          obtain ⟨rfl, rfl, rfl, rfl, rfl, rfl, rfl, rfl, rfl⟩ := in9 hF
          exact W.zret hx hb hr rfl (fun t ht hW => ⟨⟨_, (), rfl, rfl, vaP_at ht hP⟩, hS.F ht⟩) hS.2.2 dX4_readSetting_101
    have hF := ifF c19 hF
    by_cases c28 : p1 = 4
    · have hF := ifT c28 hF
      refine lv_tableIn (off := 49) (tgt := 62) hx hb dX4_readSetting_13 (by rw [c28]; decide) (by rw [c28]; decide) (by rw [c28]; decide) (by decide) ?_
      refine lv_aload_n hx hb dX4_readSetting_62 rfl (lv_at hl 3 rfl) ?_
      refine lv_iload_n hx hb dX4_readSetting_63 rfl (lv_at hl 0 rfl) ?_
      refine va_putN (D := D) (ci := 3) (v := .int r1) (ty := .int) (C := RX3) (T := TX3) (N := 9) hx hb hts i_X4_readSetting_X3 tyX3 tyX3_ok nmX3 hown hE.1 hP hD hS 3 rfl rfl 5 (by decide) (va_Nw.use rfl (NW_12 hE.2)) (fun _ h9 => h9) rfl (by decide +kernel) rfl rfl (Nat.le_of_ble_eq_true rfl) dX4_readSetting_64 (fun H locs hP hD hS => ?_)
      have hP : va_P D vwCl (W_32 ct q_t q_t_tape q_t_tape_bytes q_p2 q_p2_steps t_length v2 v3 v4 v5 t_tape_size t_tape_bytes p2_limit p2_near p2_share p2_shareOf p2_window r1 p2_stepCount p2_clauses) H := hP
      have hD : va_D A (W_32 ct q_t q_t_tape q_t_tape_bytes q_p2 q_p2_steps t_length v2 v3 v4 v5 t_tape_size t_tape_bytes p2_limit p2_near p2_share p2_shareOf p2_window r1 p2_stepCount p2_clauses) := hD
      refine lv_iconst (v := 1) hx hb dX4_readSetting_67 (by decide) ?_
      obtain ⟨rfl, rfl, rfl, rfl, rfl, rfl, rfl, rfl, rfl⟩ := in9 hF
      exact W.zret hx hb hr rfl (fun t ht hW => ⟨⟨_, (), rfl, rfl, vaP_at ht hP⟩, hS.F ht⟩) hS.2.2 dX4_readSetting_68
    have hF := ifF c28 hF
    refine lv_tableOut (tgt := 69) hx hb dX4_readSetting_13 (tsw5 c8 c9 c10 c19 c28) (by decide) ?_
    refine lv_aload_n hx hb dX4_readSetting_69 rfl (lv_at hl 3 rfl) ?_
    refine lv_iload_n hx hb dX4_readSetting_70 rfl (lv_at hl 0 rfl) ?_
    refine va_putN (D := D) (ci := 3) (v := .int r1) (ty := .int) (C := RX3) (T := TX3) (N := 9) hx hb hts i_X4_readSetting_X3 tyX3 tyX3_ok nmX3 hown hE.1 hP hD hS 3 rfl rfl 4 (by decide) (va_Nw.use rfl (NW_13 hE.2)) (fun _ h9 => h9) rfl (by decide +kernel) rfl rfl (Nat.le_of_ble_eq_true rfl) dX4_readSetting_71 (fun H locs hP hD hS => ?_)
    have hP : va_P D vwCl (W_32 ct q_t q_t_tape q_t_tape_bytes q_p2 q_p2_steps t_length v2 v3 v4 v5 t_tape_size t_tape_bytes p2_limit p2_near p2_share p2_shareOf r1 p2_storm p2_stepCount p2_clauses) H := hP
    have hD : va_D A (W_32 ct q_t q_t_tape q_t_tape_bytes q_p2 q_p2_steps t_length v2 v3 v4 v5 t_tape_size t_tape_bytes p2_limit p2_near p2_share p2_shareOf r1 p2_storm p2_stepCount p2_clauses) := hD
    refine lv_iload_n hx hb dX4_readSetting_74 rfl (lv_at hl 0 rfl) ?_
    refine lv_iconst (v := 2) hx hb dX4_readSetting_75 (by decide) ?_
    refine lv_bipush (v := 60) hx hb dX4_readSetting_76 (by decide) ?_
    obtain ⟨r29, h30, hF⟩ := ob1_ex hF
    refine xiR (va_runSN (As := [.int r1, .int 2, .int 60]) (rest := []) ⟨hx, hb, hml, hown, hts⟩ (met_X9_within l D ct H.size r1 2 60 n r29 h30) ⟨va_cnB 3 hts gX4_readSetting_X9_within_n100 rfl rfl rfl (NW_18 hE.2) (hts (.initialized RX9) (by decide +kernel)) (by decide +kernel) ⟨Nat.le_of_ble_eq_true rfl, Nat.le_of_ble_eq_true rfl⟩, (hts (.static yX9_within) (by decide +kernel)), trivial⟩ ⟨blind_, mkpre_ hE (hP.sub [] rfl) (hD.sub [] (by decide) rfl)⟩ rfl rfl hl.1 rfl (lv_room (Nat.le_of_ble_eq_true rfl)) dX4_readSetting_78 ⟨Nat.le_of_ble_eq_true rfl, Nat.le_of_ble_eq_true rfl⟩) hP hD hS hA [] rfl (fun H locs hP hD hS => ?_)
    refine lv_if_ne (tgt := 96) hx hb dX4_readSetting_81 (by decide) (fun c31 => ?_) (fun c31 => ?_)
    · have hF := ifF c31 hF
      refine lv_iconst (v := 1) hx hb dX4_readSetting_96 (by decide) ?_
      refine lv_goto (tgt := 101) hx hb dX4_readSetting_97 (by decide) ?_
      obtain ⟨rfl, rfl, rfl, rfl, rfl, rfl, rfl, rfl, rfl⟩ := in9 hF
      exact W.zret hx hb hr rfl (fun t ht hW => ⟨⟨_, (), rfl, rfl, vaP_at ht hP⟩, hS.F ht⟩) hS.2.2 dX4_readSetting_101
    · have hF := ifT c31 hF
      refine lv_aload_n hx hb dX4_readSetting_84 rfl (lv_at hl 1 rfl) ?_
      refine lv_iconst (v := 2) hx hb dX4_readSetting_85 (by decide) ?_
      refine lv_aload_n hx hb dX4_readSetting_86 rfl (lv_at hl 1 rfl) ?_
      refine va_get (D := D) (ci := 4) (v := .int v3) (C := RX4) (T := TX4) (N := 6) hx hb hts i_X4_readSetting_X4 hown hE.1 hP 0 rfl rfl 3 (by decide) (hts (.fieldLink RX4 25 "NeedleHouse$RuleReader" "numberPlace" "I") (by decide +kernel)) (fun _ h9 => h9) rfl dX4_readSetting_87 ?_
      obtain ⟨r32, v33, v34, h35, hF⟩ := ob3_ex hF
      refine xiM (ws1 := (W_32 ct q_t q_t_tape q_t_tape_bytes q_p2 q_p2_steps t_length v2 v3 v33 v34 t_tape_size t_tape_bytes p2_limit p2_near p2_share p2_shareOf r1 p2_storm p2_stepCount p2_clauses)) (va_runV (As := [.int 2, .int v3]) (rest := []) ⟨hx, hb, hml, hown, hts⟩ (met_X4_refuse l D ct q_t q_t_tape H.size t_length v2 v3 v4 v5 2 v3 n r32 v33 v34 h35) (cwV 2 hts gX4_readSetting_X4_refuse rfl rfl rfl (by decide +kernel) ⟨Nat.le_of_ble_eq_true rfl, Nat.le_of_ble_eq_true rfl⟩) ⟨blind_, va_recv hE.1 hP (ci := 4) (q0 := 0) rfl rfl, mkpre_ hE (hP.sub [0] rfl) (hD.sub [0] (by decide) rfl)⟩ rfl rfl hl.1 rfl (lv_room (Nat.le_of_ble_eq_true rfl)) dX4_readSetting_90 ⟨Nat.le_of_ble_eq_true rfl, Nat.le_of_ble_eq_true rfl⟩) hP hD hS hA [0] [1, 2, 3] 4 rfl rfl rfl rfl (by decide) rfl (fun H locs hP hD hS => ?_)
      refine lv_if_eq (tgt := 100) hx hb dX4_readSetting_93 (by decide) (fun c36 => ?_) (fun c36 => ?_)
      · have hF := ifT c36 hF
        refine lv_iconst (v := 0) hx hb dX4_readSetting_100 (by decide) ?_
        obtain ⟨rfl, rfl, rfl, rfl, rfl, rfl, rfl, rfl, rfl⟩ := in9 hF
        exact W.zret hx hb hr rfl (fun t ht hW => ⟨⟨_, (), rfl, rfl, vaP_at ht hP⟩, hS.F ht⟩) hS.2.2 dX4_readSetting_101
      · have hF := ifF c36 hF
        refine lv_iconst (v := 1) hx hb dX4_readSetting_96 (by decide) ?_
        refine lv_goto (tgt := 101) hx hb dX4_readSetting_97 (by decide) ?_
        obtain ⟨rfl, rfl, rfl, rfl, rfl, rfl, rfl, rfl, rfl⟩ := in9 hF
        exact W.zret hx hb hr rfl (fun t ht hW => ⟨⟨_, (), rfl, rfl, vaP_at ht hP⟩, hS.F ht⟩) hS.2.2 dX4_readSetting_101
  · have hF := ifT c7 hF
    refine lv_iconst (v := 0) hx hb dX4_readSetting_10 (by decide) ?_
    obtain ⟨rfl, rfl, rfl, rfl, rfl, rfl, rfl, rfl, rfl⟩ := in9 hF
    exact W.zret hx hb hr rfl (fun t ht hW => ⟨⟨_, (), rfl, rfl, vaP_at ht hP⟩, hS.F ht⟩) hS.2.2 dX4_readSetting_11
/-! NeedleHouse$RuleReader.readClause(LNeedleHouse$Rule;)Z -/
theorem i_X4_readClause_X3 : ∀ w ∈ wsX30, w ∈ wsX4_readClause := by decide +kernel
theorem i_X4_readClause_X4 : ∀ w ∈ wsX40, w ∈ wsX4_readClause := by decide +kernel
set_option maxHeartbeats 4000000 in
set_option maxRecDepth 100000 in
theorem jX4_readClause_70 {p : Program} {l : Launch} {e : Env} {s : State} {m : MethodId} {args : Array Value} {below : List Frame} {meth : Method} {c : Code} {D : va_G} {ct : Nat → ClassId} {A : Nat → Prop} {adK adV : Nat → Nat} {q_t q_t_tape q_t_tape_bytes q_p1 q_p1_steps : Nat} {t_length : Int32} {t_tape_size : Int32} {t_tape_bytes : Nat → Int32} {o_r : Int32} {o_t_place : Int32} {o_t_numberPlace : Int32} {o_t_faultKind : Int32} {o_t_faultPlace : Int32} {o_p1_limit : Int32} {o_p1_near : Int32} {o_p1_share : Int32} {o_p1_shareOf : Int32} {o_p1_window : Int32} {o_p1_storm : Int32} {o_p1_stepCount : Int32} {o_p1_clauses : Int32} {o_p1_steps : Nat → Int32} (C0 : Cx RX4 cX4_readClause 5 (some .boolean) wsX4_readClause D ct A p s m args meth c) (hSE : SE adK adV A s s.heap) (n : Nat) (t_place : Int32) (t_numberPlace : Int32) (t_faultKind : Int32) (t_faultPlace : Int32) (p1_limit : Int32) (p1_near : Int32) (p1_share : Int32) (p1_shareOf : Int32) (p1_window : Int32) (p1_storm : Int32) (p1_stepCount : Int32) (p1_clauses : Int32) (p1_steps : Nat → Int32) (s_0 : Int32) (H : Heap) (locs : List Loc) (ls : Array Slot) : JX4_readClause_70 n t_length t_place t_numberPlace t_faultKind t_faultPlace t_tape_size t_tape_bytes p1_limit p1_near p1_share p1_shareOf p1_window p1_storm p1_stepCount p1_clauses p1_steps s_0 = some (o_r, o_t_place, o_t_numberPlace, o_t_faultKind, o_t_faultPlace, o_p1_limit, o_p1_near, o_p1_share, o_p1_shareOf, o_p1_window, o_p1_storm, o_p1_stepCount, o_p1_clauses, o_p1_steps) → va_P D vwCl (W_31 ct q_t q_t_tape q_t_tape_bytes q_p1 q_p1_steps t_length t_place t_numberPlace t_faultKind t_faultPlace t_tape_size t_tape_bytes p1_limit p1_near p1_share p1_shareOf p1_window p1_storm p1_stepCount p1_clauses p1_steps) H → va_D A (W_31 ct q_t q_t_tape q_t_tape_bytes q_p1 q_p1_steps t_length t_place t_numberPlace t_faultKind t_faultPlace t_tape_size t_tape_bytes p1_limit p1_near p1_share p1_shareOf p1_window p1_storm p1_stepCount p1_clauses p1_steps) → va_S A s.heap H locs → lv_has ls 5 [(0, .ref q_t), (1, .ref q_p1)] → W p l e ({ frames := 6, cells := 0, slots := 0, locals := 132 } : Room) s m args below meth c H locs 0 0 (MQ below (va_Qi (fun r (_ : Unit) => r = o_r) (fun _ t => va_P D vwCl (W_31 ct q_t q_t_tape q_t_tape_bytes q_p1 q_p1_steps t_length o_t_place o_t_numberPlace o_t_faultKind o_t_faultPlace t_tape_size t_tape_bytes o_p1_limit o_p1_near o_p1_share o_p1_shareOf o_p1_window o_p1_storm o_p1_stepCount o_p1_clauses o_p1_steps) t.heap) A) args s 0 0 A) (F0 m 70 ls [.int s_0]) := by
  intro hF hP hD hS hl
  obtain ⟨hx, hb, hml, hown, hts, hr, hlocks, hE, hA⟩ := id C0
  unfold JX4_readClause_70 at hF
  refine lv_istore (lv' := [(4, .int s_0), (0, .ref q_t), (1, .ref q_p1)]) hx hb dX4_readClause_70 hl (by decide) rfl (fun ls hl => ?_)
  refine lv_iload hx hb dX4_readClause_72 (lv_at hl 0 rfl) ?_
  refine lv_if_ne (tgt := 79) hx hb dX4_readClause_74 (by decide) (fun c42 => ?_) (fun c42 => ?_)
  · have hF := ifF c42 hF
    refine lv_aload_n hx hb dX4_readClause_79 rfl (lv_at hl 1 rfl) ?_
    obtain ⟨v43, h44, hF⟩ := ob1_ex hF
    refine xvM (ws1 := (W_31 ct q_t q_t_tape q_t_tape_bytes q_p1 q_p1_steps t_length v43 t_numberPlace t_faultKind t_faultPlace t_tape_size t_tape_bytes p1_limit p1_near p1_share p1_shareOf p1_window p1_storm p1_stepCount p1_clauses p1_steps)) (va_runV (As := []) (rest := []) ⟨hx, hb, hml, hown, hts⟩ (met_X4_skipBlanks l D ct q_t q_t_tape q_t_tape_bytes H.size t_length t_place t_numberPlace t_faultKind t_faultPlace t_tape_size t_tape_bytes n v43 h44) (cwV 0 hts gX4_readClause_X4_skipBlanks rfl rfl rfl (by decide +kernel) ⟨Nat.le_of_ble_eq_true rfl, Nat.le_of_ble_eq_true rfl⟩) ⟨blind_, va_recv hE.1 hP (ci := 4) (q0 := 0) rfl rfl, mkpre_ hE (hP.sub [0, 1, 2] rfl) (hD.sub [0, 1, 2] (by decide) rfl)⟩ rfl rfl hl.1 rfl (lv_room (Nat.le_of_ble_eq_true rfl)) dX4_readClause_80 ⟨Nat.le_of_ble_eq_true rfl, Nat.le_of_ble_eq_true rfl⟩) hP hD hS hA [0, 1, 2] [3, 4] 5 rfl rfl rfl rfl (by decide) rfl (fun H locs hP hD hS => ?_)
    refine lv_aload_n hx hb dX4_readClause_83 rfl (lv_at hl 1 rfl) ?_
    obtain ⟨r45, h46, hF⟩ := ob1_ex hF
    refine xiR (va_runV (As := []) (rest := []) ⟨hx, hb, hml, hown, hts⟩ (met_X4_look l D ct q_t q_t_tape q_t_tape_bytes H.size t_length v43 t_numberPlace t_faultKind t_faultPlace t_tape_size t_tape_bytes n r45 h46) (cwV 0 hts gX4_readClause_X4_look rfl rfl rfl (by decide +kernel) ⟨Nat.le_of_ble_eq_true rfl, Nat.le_of_ble_eq_true rfl⟩) ⟨blind_, va_recv hE.1 hP (ci := 4) (q0 := 0) rfl rfl, mkpre_ hE (hP.sub [0, 1, 2] rfl) (hD.sub [0, 1, 2] (by decide) rfl)⟩ rfl rfl hl.1 rfl (lv_room (Nat.le_of_ble_eq_true rfl)) dX4_readClause_84 ⟨Nat.le_of_ble_eq_true rfl, Nat.le_of_ble_eq_true rfl⟩) hP hD hS hA [0, 1, 2] rfl (fun H locs hP hD hS => ?_)
    refine lv_bipush (v := 59) hx hb dX4_readClause_87 (by decide) ?_
    refine lv_icmp_eq (tgt := 102) hx hb dX4_readClause_89 (by decide) (fun c47 => ?_) (fun c47 => ?_)
    · have hF := ifT c47 hF
      refine lv_aload_n hx hb dX4_readClause_102 rfl (lv_at hl 1 rfl) ?_
      refine lv_dup hx hb dX4_readClause_103 rfl ?_
      refine va_get (D := D) (ci := 4) (v := .int v43) (C := RX4) (T := TX4) (N := 6) hx hb hts i_X4_readClause_X4 hown hE.1 hP 0 rfl rfl 2 (by decide) (hts (.fieldLink RX4 22 "NeedleHouse$RuleReader" "place" "I") (by decide +kernel)) (fun _ h9 => h9) rfl dX4_readClause_104 ?_
      refine lv_iconst (v := 1) hx hb dX4_readClause_107 (by decide) ?_
      refine lv_iadd hx hb dX4_readClause_108 ?_
      refine lv_topi (fun x48 ex48 => ?_)
      have hF := bn_as ex48 hF
      refine va_put (D := D) (ci := 4) (v := .int x48) (ty := .int) (C := RX4) (T := TX4) (N := 6) hx hb hts i_X4_readClause_X4 tyX4 tyX4_ok nmX4 hown hE.1 hP hD hS 0 rfl rfl 2 (by decide) (hts (.fieldLink RX4 22 "NeedleHouse$RuleReader" "place" "I") (by decide +kernel)) (fun _ h9 => h9) rfl (by decide +kernel) rfl rfl (Nat.le_of_ble_eq_true rfl) dX4_readClause_109 (fun H locs hP hD hS => ?_)
      have hP : va_P D vwCl (W_31 ct q_t q_t_tape q_t_tape_bytes q_p1 q_p1_steps t_length x48 t_numberPlace t_faultKind t_faultPlace t_tape_size t_tape_bytes p1_limit p1_near p1_share p1_shareOf p1_window p1_storm p1_stepCount p1_clauses p1_steps) H := hP
      have hD : va_D A (W_31 ct q_t q_t_tape q_t_tape_bytes q_p1 q_p1_steps t_length x48 t_numberPlace t_faultKind t_faultPlace t_tape_size t_tape_bytes p1_limit p1_near p1_share p1_shareOf p1_window p1_storm p1_stepCount p1_clauses p1_steps) := hD
      refine lv_aload_n hx hb dX4_readClause_112 rfl (lv_at hl 2 rfl) ?_
      refine lv_dup hx hb dX4_readClause_113 rfl ?_
      refine va_getN (D := D) (ci := 3) (v := .int p1_clauses) (C := RX3) (T := TX3) (N := 9) hx hb hts i_X4_readClause_X3 hown hE.1 hP 3 rfl rfl 8 (by decide) (va_Nw.use rfl (NW_9 hE.2)) (fun _ h9 => h9) rfl dX4_readClause_114 ?_
      refine lv_iconst (v := 1) hx hb dX4_readClause_117 (by decide) ?_
      refine lv_iadd hx hb dX4_readClause_118 ?_
      refine lv_topi (fun x49 ex49 => ?_)
      have hF := bn_as ex49 hF
      refine va_putN (D := D) (ci := 3) (v := .int x49) (ty := .int) (C := RX3) (T := TX3) (N := 9) hx hb hts i_X4_readClause_X3 tyX3 tyX3_ok nmX3 hown hE.1 hP hD hS 3 rfl rfl 8 (by decide) (va_Nw.use rfl (NW_9 hE.2)) (fun _ h9 => h9) rfl (by decide +kernel) rfl rfl (Nat.le_of_ble_eq_true rfl) dX4_readClause_119 (fun H locs hP hD hS => ?_)
      have hP : va_P D vwCl (W_31 ct q_t q_t_tape q_t_tape_bytes q_p1 q_p1_steps t_length x48 t_numberPlace t_faultKind t_faultPlace t_tape_size t_tape_bytes p1_limit p1_near p1_share p1_shareOf p1_window p1_storm p1_stepCount x49 p1_steps) H := hP
      have hD : va_D A (W_31 ct q_t q_t_tape q_t_tape_bytes q_p1 q_p1_steps t_length x48 t_numberPlace t_faultKind t_faultPlace t_tape_size t_tape_bytes p1_limit p1_near p1_share p1_shareOf p1_window p1_storm p1_stepCount x49 p1_steps) := hD
      refine lv_iconst (v := 1) hx hb dX4_readClause_122 (by decide) ?_
      obtain ⟨rfl, rfl, rfl, rfl, rfl, rfl, rfl, rfl, rfl, rfl, rfl, rfl, rfl, rfl⟩ := in14 hF
      exact W.zret hx hb hr rfl (fun t ht hW => ⟨⟨_, (), rfl, rfl, vaP_at ht hP⟩, hS.F ht⟩) hS.2.2 dX4_readClause_123
    · have hF := ifF c47 hF
      refine lv_aload_n hx hb dX4_readClause_92 rfl (lv_at hl 1 rfl) ?_
      refine lv_iconst (v := 1) hx hb dX4_readClause_93 (by decide) ?_
      refine lv_aload_n hx hb dX4_readClause_94 rfl (lv_at hl 1 rfl) ?_
      refine va_get (D := D) (ci := 4) (v := .int v43) (C := RX4) (T := TX4) (N := 6) hx hb hts i_X4_readClause_X4 hown hE.1 hP 0 rfl rfl 2 (by decide) (hts (.fieldLink RX4 22 "NeedleHouse$RuleReader" "place" "I") (by decide +kernel)) (fun _ h9 => h9) rfl dX4_readClause_95 ?_
      obtain ⟨r50, v51, v52, h53, hF⟩ := ob3_ex hF
      refine xiM (ws1 := (W_31 ct q_t q_t_tape q_t_tape_bytes q_p1 q_p1_steps t_length v43 t_numberPlace v51 v52 t_tape_size t_tape_bytes p1_limit p1_near p1_share p1_shareOf p1_window p1_storm p1_stepCount p1_clauses p1_steps)) (va_runV (As := [.int 1, .int v43]) (rest := []) ⟨hx, hb, hml, hown, hts⟩ (met_X4_refuse l D ct q_t q_t_tape H.size t_length v43 t_numberPlace t_faultKind t_faultPlace 1 v43 n r50 v51 v52 h53) (cwV 2 hts gX4_readClause_X4_refuse rfl rfl rfl (by decide +kernel) ⟨Nat.le_of_ble_eq_true rfl, Nat.le_of_ble_eq_true rfl⟩) ⟨blind_, va_recv hE.1 hP (ci := 4) (q0 := 0) rfl rfl, mkpre_ hE (hP.sub [0] rfl) (hD.sub [0] (by decide) rfl)⟩ rfl rfl hl.1 rfl (lv_room (Nat.le_of_ble_eq_true rfl)) dX4_readClause_98 ⟨Nat.le_of_ble_eq_true rfl, Nat.le_of_ble_eq_true rfl⟩) hP hD hS hA [0] [1, 2, 3, 4] 5 rfl rfl rfl rfl (by decide) rfl (fun H locs hP hD hS => ?_)
      obtain ⟨hz, hF⟩ := gd_ex hF
      obtain ⟨rfl, rfl, rfl, rfl, rfl, rfl, rfl, rfl, rfl, rfl, rfl, rfl, rfl, rfl⟩ := in14 hF
      exact W.zret hx hb hr hz (fun t ht hW => ⟨⟨_, (), rfl, rfl, vaP_at ht hP⟩, hS.F ht⟩) hS.2.2 dX4_readClause_101
  · have hF := ifT c42 hF
    refine lv_iconst (v := 0) hx hb dX4_readClause_77 (by decide) ?_
    obtain ⟨rfl, rfl, rfl, rfl, rfl, rfl, rfl, rfl, rfl, rfl, rfl, rfl, rfl, rfl⟩ := in14 hF
    exact W.zret hx hb hr rfl (fun t ht hW => ⟨⟨_, (), rfl, rfl, vaP_at ht hP⟩, hS.F ht⟩) hS.2.2 dX4_readClause_78
set_option maxHeartbeats 4000000 in
set_option maxRecDepth 100000 in
theorem met_X4_readClause (l : Launch) (D : va_G) (ct : Nat → ClassId) (adK adV : Nat → Nat) (q_t : Nat) (q_t_tape : Nat) (q_t_tape_bytes : Nat) (q_p1 : Nat) (q_p1_steps : Nat) (sz : Nat) (t_length : Int32) (t_place : Int32) (t_numberPlace : Int32) (t_faultKind : Int32) (t_faultPlace : Int32) (t_tape_size : Int32) (t_tape_bytes : Nat → Int32) (p1_limit : Int32) (p1_near : Int32) (p1_share : Int32) (p1_shareOf : Int32) (p1_window : Int32) (p1_storm : Int32) (p1_stepCount : Int32) (p1_clauses : Int32) (p1_steps : Nat → Int32) (n : Nat) (o_r : Int32) (o_t_place : Int32) (o_t_numberPlace : Int32) (o_t_faultKind : Int32) (o_t_faultPlace : Int32) (o_p1_limit : Int32) (o_p1_near : Int32) (o_p1_share : Int32) (o_p1_shareOf : Int32) (o_p1_window : Int32) (o_p1_storm : Int32) (o_p1_stepCount : Int32) (o_p1_clauses : Int32) (o_p1_steps : Nat → Int32) (hF : FX4_readClause n t_length t_place t_numberPlace t_faultKind t_faultPlace t_tape_size t_tape_bytes p1_limit p1_near p1_share p1_shareOf p1_window p1_storm p1_stepCount p1_clauses p1_steps = some (o_r, o_t_place, o_t_numberPlace, o_t_faultKind, o_t_faultPlace, o_p1_limit, o_p1_near, o_p1_share, o_p1_shareOf, o_p1_window, o_p1_storm, o_p1_stepCount, o_p1_clauses, o_p1_steps)) : Met l yX4_readClause wsX4_readClause ({ frames := 6, cells := 0, slots := 0, locals := 132 } : Room) (va_Pc [.ref q_t, .ref q_p1] (preS D ct sz (W_31 ct q_t q_t_tape q_t_tape_bytes q_p1 q_p1_steps t_length t_place t_numberPlace t_faultKind t_faultPlace t_tape_size t_tape_bytes p1_limit p1_near p1_share p1_shareOf p1_window p1_storm p1_stepCount p1_clauses p1_steps) adK adV)) (va_Qi (fun r (_ : Unit) => r = o_r) (fun _ t => va_P D vwCl (W_31 ct q_t q_t_tape q_t_tape_bytes q_p1 q_p1_steps t_length o_t_place o_t_numberPlace o_t_faultKind o_t_faultPlace t_tape_size t_tape_bytes o_p1_limit o_p1_near o_p1_share o_p1_shareOf o_p1_window o_p1_storm o_p1_stepCount o_p1_clauses o_p1_steps) t.heap) (va_A (W_31 ct q_t q_t_tape q_t_tape_bytes q_p1 q_p1_steps t_length t_place t_numberPlace t_faultKind t_faultPlace t_tape_size t_tape_bytes p1_limit p1_near p1_share p1_shareOf p1_window p1_storm p1_stepCount p1_clauses p1_steps) sz)) 0 0 (va_A (W_31 ct q_t q_t_tape q_t_tape_bytes q_p1 q_p1_steps t_length t_place t_numberPlace t_faultKind t_faultPlace t_tape_size t_tape_bytes p1_limit p1_near p1_share p1_shareOf p1_window p1_storm p1_stepCount p1_clauses p1_steps) sz) := by
  refine Met.ofW (cc := cX4_readClause) (maxL := 5) (ret := (some .boolean)) (by decide) rfl ?_
  intro p e s m args below meth c s₁ B hml hv
  obtain ⟨rfl, ⟨hsz, hP, hE, hD0⟩, hSE⟩ := hv
  have hx := B.exec
  have hb := B.bytes
  have hr := B.returns
  have hts := atoms_spec (ws := wsX4_readClause) B.pre
  have hown : s.vm.findClass RX4 = some m.cls := findClass_of_methodNamed B.named
  have hlocks := B.notSynchronized
  subst hsz
  have hD := hD0.self (sz := s.heap.size)
  generalize hAe : va_A (W_31 ct q_t q_t_tape q_t_tape_bytes q_p1 q_p1_steps t_length t_place t_numberPlace t_faultKind t_faultPlace t_tape_size t_tape_bytes p1_limit p1_near p1_share p1_shareOf p1_window p1_storm p1_stepCount p1_clauses p1_steps) s.heap.size = A at hD hSE ⊢
  have hA : ∀ q : Nat, s.heap.size ≤ q → A q := fun q h => by rw [← hAe]; exact Or.inr h
  have hl := lv_entry ([.ref q_t, .ref q_p1]) (n := 5) (Nat.le_of_ble_eq_true rfl)
  rw [lg_entry_eq]
  generalize (lg_sl ([.ref q_t, .ref q_p1]) ++ List.replicate (5 - (lg_sl ([.ref q_t, .ref q_p1])).length) Slot.unset).toArray = ls at hl ⊢
  have hl : lv_has ls 5 [(0, .ref q_t), (1, .ref q_p1)] := hl
  have C0 : Cx RX4 cX4_readClause 5 (some .boolean) wsX4_readClause D ct A p s m ([.ref q_t, .ref q_p1]).toArray meth c := ⟨hx, hb, hml, hown, hts, hr, hlocks, hE, hA⟩
  have hS : ∀ H : Heap, s.heap = H → va_S A s.heap H [] := fun H h => h ▸ va_S.rf
  generalize hH : s.heap = H at hP ⊢
  have hS := hS H hH
  unfold FX4_readClause at hF
  refine lv_aload_n hx hb dX4_readClause_0 rfl (lv_at hl 0 rfl) ?_
  refine va_get (D := D) (ci := 4) (v := .int t_place) (C := RX4) (T := TX4) (N := 6) hx hb hts i_X4_readClause_X4 hown hE.1 hP 0 rfl rfl 2 (by decide) (hts (.fieldLink RX4 22 "NeedleHouse$RuleReader" "place" "I") (by decide +kernel)) (fun _ h9 => h9) rfl dX4_readClause_1 ?_
  refine lv_istore_n (lv' := [(2, .int t_place), (0, .ref q_t), (1, .ref q_p1)]) hx hb dX4_readClause_4 rfl hl (by decide) rfl (fun ls hl => ?_)
  refine lv_aload_n hx hb dX4_readClause_5 rfl (lv_at hl 1 rfl) ?_
  obtain ⟨r1, v2, h3, hF⟩ := ob2_ex hF
  refine xiM (ws1 := (W_31 ct q_t q_t_tape q_t_tape_bytes q_p1 q_p1_steps t_length v2 t_numberPlace t_faultKind t_faultPlace t_tape_size t_tape_bytes p1_limit p1_near p1_share p1_shareOf p1_window p1_storm p1_stepCount p1_clauses p1_steps)) (va_runV (As := []) (rest := []) ⟨hx, hb, hml, hown, hts⟩ (met_X4_readKind l D ct adK adV q_t q_t_tape q_t_tape_bytes H.size t_length t_place t_numberPlace t_faultKind t_faultPlace t_tape_size t_tape_bytes n r1 v2 h3) (cwV 0 hts gX4_readClause_X4_readKind rfl rfl rfl (by decide +kernel) ⟨Nat.le_of_ble_eq_true rfl, Nat.le_of_ble_eq_true rfl⟩) ⟨blindS, va_recv hE.1 hP (ci := 4) (q0 := 0) rfl rfl, mkpreS hE hSE hS (va_free hD hS hA [0, 1, 2] rfl) (hP.sub [0, 1, 2] rfl) (hD.sub [0, 1, 2] (by decide) rfl)⟩ rfl rfl hl.1 rfl (lv_room (Nat.le_of_ble_eq_true rfl)) dX4_readClause_6 ⟨Nat.le_of_ble_eq_true rfl, Nat.le_of_ble_eq_true rfl⟩) hP hD hS hA [0, 1, 2] [3, 4] 5 rfl rfl rfl rfl (by decide) rfl (fun H locs hP hD hS => ?_)
  refine lv_istore_n (lv' := [(3, .int r1), (2, .int t_place), (0, .ref q_t), (1, .ref q_p1)]) hx hb dX4_readClause_9 rfl hl (by decide) rfl (fun ls hl => ?_)
  refine lv_iload_n hx hb dX4_readClause_10 rfl (lv_at hl 0 rfl) ?_
  refine lv_iconst (v := (-1)) hx hb dX4_readClause_11 (by decide) ?_
  refine lv_icmp_ne (tgt := 22) hx hb dX4_readClause_12 (by decide) (fun c4 => ?_) (fun c4 => ?_)
  · have hF := ifF c4 hF
    refine lv_aload_n hx hb dX4_readClause_22 rfl (lv_at hl 3 rfl) ?_
    refine va_getN (D := D) (ci := 3) (v := .int p1_clauses) (C := RX3) (T := TX3) (N := 9) hx hb hts i_X4_readClause_X3 hown hE.1 hP 3 rfl rfl 8 (by decide) (va_Nw.use rfl (NW_9 hE.2)) (fun _ h9 => h9) rfl dX4_readClause_23 ?_
    refine lv_bipush (v := 12) hx hb dX4_readClause_26 (by decide) ?_
    refine lv_icmp_lt (tgt := 38) hx hb dX4_readClause_28 (by decide) (fun c5 => ?_) (fun c5 => ?_)
    · have hF := ifT c5 hF
      refine lv_iload_n hx hb dX4_readClause_38 rfl (lv_at hl 0 rfl) ?_
      refine lv_iconst (v := 5) hx hb dX4_readClause_39 (by decide) ?_
      refine lv_icmp_ne (tgt := 51) hx hb dX4_readClause_40 (by decide) (fun c6 => ?_) (fun c6 => ?_)
      · have hF := ifF c6 hF
        refine lv_iload_n hx hb dX4_readClause_51 rfl (lv_at hl 0 rfl) ?_
        refine lv_iconst (v := 2) hx hb dX4_readClause_52 (by decide) ?_
        refine lv_icmp_ne (tgt := 64) hx hb dX4_readClause_53 (by decide) (fun c7 => ?_) (fun c7 => ?_)
        · have hF := ifF c7 hF
          refine lv_aload_n hx hb dX4_readClause_64 rfl (lv_at hl 2 rfl) ?_
          refine lv_iload_n hx hb dX4_readClause_65 rfl (lv_at hl 0 rfl) ?_
          refine lv_aload_n hx hb dX4_readClause_66 rfl (lv_at hl 3 rfl) ?_
          obtain ⟨r8, v9, v10, v11, v12, v13, v14, v15, v16, h17, hF⟩ := ob9_ex hF
          refine xiM (ws1 := (W_31 ct q_t q_t_tape q_t_tape_bytes q_p1 q_p1_steps t_length v9 v10 v11 v12 t_tape_size t_tape_bytes v13 v14 p1_share p1_shareOf v15 v16 p1_stepCount p1_clauses p1_steps)) (va_runV (As := [.int r1, .ref q_p1]) (rest := []) ⟨hx, hb, hml, hown, hts⟩ (met_X4_readSetting l D ct q_t q_t_tape q_t_tape_bytes q_p1 q_p1_steps H.size t_length v2 t_numberPlace t_faultKind t_faultPlace t_tape_size t_tape_bytes p1_limit p1_near p1_share p1_shareOf p1_window p1_storm p1_stepCount p1_clauses r1 n r8 v9 v10 v11 v12 v13 v14 v15 v16 h17) (cwV 2 hts gX4_readClause_X4_readSetting rfl rfl rfl (by decide +kernel) ⟨Nat.le_of_ble_eq_true rfl, Nat.le_of_ble_eq_true rfl⟩) ⟨blind_, va_recv hE.1 hP (ci := 4) (q0 := 0) rfl rfl, mkpre_ hE (hP.sub [0, 1, 2, 3] rfl) (hD.sub [0, 1, 2, 3] (by decide) rfl)⟩ rfl rfl hl.1 rfl (lv_room (Nat.le_of_ble_eq_true rfl)) dX4_readClause_67 ⟨Nat.le_of_ble_eq_true rfl, Nat.le_of_ble_eq_true rfl⟩) hP hD hS hA [0, 1, 2, 3] [4] 5 rfl rfl rfl rfl (by decide) rfl (fun H locs hP hD hS => ?_)
          exact jX4_readClause_70 C0 hSE n v9 v10 v11 v12 v13 v14 p1_share p1_shareOf v15 v16 p1_stepCount p1_clauses p1_steps r8 _ _ _ hF hP hD hS (lv_sub hl [2, 3] rfl)
        · have hF := ifT c7 hF
          refine lv_aload_n hx hb dX4_readClause_56 rfl (lv_at hl 2 rfl) ?_
          refine lv_aload_n hx hb dX4_readClause_57 rfl (lv_at hl 3 rfl) ?_
          obtain ⟨r18, v19, v20, v21, v22, v23, v24, h25, hF⟩ := ob7_ex hF
          refine xiM (ws1 := (W_31 ct q_t q_t_tape q_t_tape_bytes q_p1 q_p1_steps t_length v19 v20 v21 v22 t_tape_size t_tape_bytes p1_limit p1_near v23 v24 p1_window p1_storm p1_stepCount p1_clauses p1_steps)) (va_runV (As := [.ref q_p1]) (rest := []) ⟨hx, hb, hml, hown, hts⟩ (met_X4_readShare l D ct adK adV q_t q_t_tape q_t_tape_bytes q_p1 q_p1_steps H.size t_length v2 t_numberPlace t_faultKind t_faultPlace t_tape_size t_tape_bytes p1_limit p1_near p1_share p1_shareOf p1_window p1_storm p1_stepCount p1_clauses n r18 v19 v20 v21 v22 v23 v24 h25) (cwV 1 hts gX4_readClause_X4_readShare rfl rfl rfl (by decide +kernel) ⟨Nat.le_of_ble_eq_true rfl, Nat.le_of_ble_eq_true rfl⟩) ⟨blindS, va_recv hE.1 hP (ci := 4) (q0 := 0) rfl rfl, mkpreS hE hSE hS (va_free hD hS hA [0, 1, 2, 3] rfl) (hP.sub [0, 1, 2, 3] rfl) (hD.sub [0, 1, 2, 3] (by decide) rfl)⟩ rfl rfl hl.1 rfl (lv_room (Nat.le_of_ble_eq_true rfl)) dX4_readClause_58 ⟨Nat.le_of_ble_eq_true rfl, Nat.le_of_ble_eq_true rfl⟩) hP hD hS hA [0, 1, 2, 3] [4] 5 rfl rfl rfl rfl (by decide) rfl (fun H locs hP hD hS => ?_)
          refine lv_goto (tgt := 70) hx hb dX4_readClause_61 (by decide) ?_
          exact jX4_readClause_70 C0 hSE n v19 v20 v21 v22 p1_limit p1_near v23 v24 p1_window p1_storm p1_stepCount p1_clauses p1_steps r18 _ _ _ hF hP hD hS (lv_sub hl [2, 3] rfl)
      · have hF := ifT c6 hF
        refine lv_aload_n hx hb dX4_readClause_43 rfl (lv_at hl 2 rfl) ?_
        refine lv_aload_n hx hb dX4_readClause_44 rfl (lv_at hl 3 rfl) ?_
        obtain ⟨r26, v27, v28, v29, v30, v31, f32, h33, hF⟩ := ob7_ex hF
        refine xiA (va_runV (As := [.ref q_p1]) (rest := []) ⟨hx, hb, hml, hown, hts⟩ (met_X4_readSteps l D ct q_t q_t_tape q_t_tape_bytes q_p1 q_p1_steps H.size t_length v2 t_numberPlace t_faultKind t_faultPlace t_tape_size t_tape_bytes p1_limit p1_near p1_share p1_shareOf p1_window p1_storm p1_stepCount p1_clauses p1_steps n r26 v27 v28 v29 v30 v31 f32 h33) (cwV 1 hts gX4_readClause_X4_readSteps rfl rfl rfl (by decide +kernel) ⟨Nat.le_of_ble_eq_true rfl, Nat.le_of_ble_eq_true rfl⟩) ⟨blind_, va_recv hE.1 hP (ci := 4) (q0 := 0) rfl rfl, mkpre_ hE hP hD⟩ rfl rfl hl.1 rfl (lv_room (Nat.le_of_ble_eq_true rfl)) dX4_readClause_45 ⟨Nat.le_of_ble_eq_true rfl, Nat.le_of_ble_eq_true rfl⟩) hP hD hS hA rfl (fun H locs hP hD hS => ?_)
        refine lv_goto (tgt := 70) hx hb dX4_readClause_48 (by decide) ?_
        exact jX4_readClause_70 C0 hSE n v27 v28 v29 v30 p1_limit p1_near p1_share p1_shareOf p1_window p1_storm v31 p1_clauses f32 r26 _ _ _ hF hP hD hS (lv_sub hl [2, 3] rfl)
    · have hF := ifF c5 hF
      refine lv_aload_n hx hb dX4_readClause_31 rfl (lv_at hl 2 rfl) ?_
      refine lv_iconst (v := 3) hx hb dX4_readClause_32 (by decide) ?_
      refine lv_iload_n hx hb dX4_readClause_33 rfl (lv_at hl 1 rfl) ?_
      obtain ⟨r34, v35, v36, h37, hF⟩ := ob3_ex hF
      refine xiM (ws1 := (W_31 ct q_t q_t_tape q_t_tape_bytes q_p1 q_p1_steps t_length v2 t_numberPlace v35 v36 t_tape_size t_tape_bytes p1_limit p1_near p1_share p1_shareOf p1_window p1_storm p1_stepCount p1_clauses p1_steps)) (va_runV (As := [.int 3, .int t_place]) (rest := []) ⟨hx, hb, hml, hown, hts⟩ (met_X4_refuse l D ct q_t q_t_tape H.size t_length v2 t_numberPlace t_faultKind t_faultPlace 3 t_place n r34 v35 v36 h37) (cwV 2 hts gX4_readClause_X4_refuse rfl rfl rfl (by decide +kernel) ⟨Nat.le_of_ble_eq_true rfl, Nat.le_of_ble_eq_true rfl⟩) ⟨blind_, va_recv hE.1 hP (ci := 4) (q0 := 0) rfl rfl, mkpre_ hE (hP.sub [0] rfl) (hD.sub [0] (by decide) rfl)⟩ rfl rfl hl.1 rfl (lv_room (Nat.le_of_ble_eq_true rfl)) dX4_readClause_34 ⟨Nat.le_of_ble_eq_true rfl, Nat.le_of_ble_eq_true rfl⟩) hP hD hS hA [0] [1, 2, 3, 4] 5 rfl rfl rfl rfl (by decide) rfl (fun H locs hP hD hS => ?_)
      obtain ⟨hz, hF⟩ := gd_ex hF
      obtain ⟨rfl, rfl, rfl, rfl, rfl, rfl, rfl, rfl, rfl, rfl, rfl, rfl, rfl, rfl⟩ := in14 hF
      exact W.zret hx hb hr hz (fun t ht hW => ⟨⟨_, (), rfl, rfl, vaP_at ht hP⟩, hS.F ht⟩) hS.2.2 dX4_readClause_37
  · have hF := ifT c4 hF
    refine lv_aload_n hx hb dX4_readClause_15 rfl (lv_at hl 2 rfl) ?_
    refine lv_iconst (v := 1) hx hb dX4_readClause_16 (by decide) ?_
    refine lv_iload_n hx hb dX4_readClause_17 rfl (lv_at hl 1 rfl) ?_
    obtain ⟨r38, v39, v40, h41, hF⟩ := ob3_ex hF
    refine xiM (ws1 := (W_31 ct q_t q_t_tape q_t_tape_bytes q_p1 q_p1_steps t_length v2 t_numberPlace v39 v40 t_tape_size t_tape_bytes p1_limit p1_near p1_share p1_shareOf p1_window p1_storm p1_stepCount p1_clauses p1_steps)) (va_runV (As := [.int 1, .int t_place]) (rest := []) ⟨hx, hb, hml, hown, hts⟩ (met_X4_refuse l D ct q_t q_t_tape H.size t_length v2 t_numberPlace t_faultKind t_faultPlace 1 t_place n r38 v39 v40 h41) (cwV 2 hts gX4_readClause_X4_refuse rfl rfl rfl (by decide +kernel) ⟨Nat.le_of_ble_eq_true rfl, Nat.le_of_ble_eq_true rfl⟩) ⟨blind_, va_recv hE.1 hP (ci := 4) (q0 := 0) rfl rfl, mkpre_ hE (hP.sub [0] rfl) (hD.sub [0] (by decide) rfl)⟩ rfl rfl hl.1 rfl (lv_room (Nat.le_of_ble_eq_true rfl)) dX4_readClause_18 ⟨Nat.le_of_ble_eq_true rfl, Nat.le_of_ble_eq_true rfl⟩) hP hD hS hA [0] [1, 2, 3, 4] 5 rfl rfl rfl rfl (by decide) rfl (fun H locs hP hD hS => ?_)
    obtain ⟨hz, hF⟩ := gd_ex hF
    obtain ⟨rfl, rfl, rfl, rfl, rfl, rfl, rfl, rfl, rfl, rfl, rfl, rfl, rfl, rfl⟩ := in14 hF
    exact W.zret hx hb hr hz (fun t ht hW => ⟨⟨_, (), rfl, rfl, vaP_at ht hP⟩, hS.F ht⟩) hS.2.2 dX4_readClause_21
/-! NeedleHouse$RuleReader.readInto(LNeedleHouse$Rule;I)Z -/
theorem i_X4_readInto_X4 : ∀ w ∈ wsX40, w ∈ wsX4_readInto := by decide +kernel
set_option maxHeartbeats 4000000 in
set_option maxRecDepth 100000 in
theorem jX4_readInto_33 {p : Program} {l : Launch} {e : Env} {s : State} {m : MethodId} {args : Array Value} {below : List Frame} {meth : Method} {c : Code} {D : va_G} {ct : Nat → ClassId} {A : Nat → Prop} {adK adV : Nat → Nat} {q_t q_t_tape q_t_tape_bytes q_p1 q_p1_steps : Nat} {t_tape_size : Int32} {t_tape_bytes : Nat → Int32} {o_r : Int32} {o_t_length : Int32} {o_t_place : Int32} {o_t_numberPlace : Int32} {o_t_faultKind : Int32} {o_t_faultPlace : Int32} {o_p1_limit : Int32} {o_p1_near : Int32} {o_p1_share : Int32} {o_p1_shareOf : Int32} {o_p1_window : Int32} {o_p1_storm : Int32} {o_p1_stepCount : Int32} {o_p1_clauses : Int32} {o_p1_steps : Nat → Int32} (C0 : Cx RX4 cX4_readInto 5 (some .boolean) wsX4_readInto D ct A p s m args meth c) (hSE : SE adK adV A s s.heap) (k33 : Int32 → Int32 → Int32 → Int32 → Int32 → Int32 → (Nat → Int32) → Int32 → Int32 → Int32 → Int32 → Int32 → Int32 → Int32 → Int32 → (Nat → Int32) → Int32 → Int32 → Option (Int32 × Int32 × Int32 × Int32 × Int32 × Int32 × Int32 × Int32 × Int32 × Int32 × Int32 × Int32 × Int32 × Int32 × (Nat → Int32))) (hk33 : ∀ (t_length : Int32) (t_place : Int32) (t_numberPlace : Int32) (t_faultKind : Int32) (t_faultPlace : Int32) (p1_limit : Int32) (p1_near : Int32) (p1_share : Int32) (p1_shareOf : Int32) (p1_window : Int32) (p1_storm : Int32) (p1_stepCount : Int32) (p1_clauses : Int32) (p1_steps : Nat → Int32) (x_3 : Int32) (x_4 : Int32) (H : Heap) (locs : List Loc) (ls : Array Slot), k33 t_length t_place t_numberPlace t_faultKind t_faultPlace t_tape_size t_tape_bytes p1_limit p1_near p1_share p1_shareOf p1_window p1_storm p1_stepCount p1_clauses p1_steps x_3 x_4 = some (o_r, o_t_length, o_t_place, o_t_numberPlace, o_t_faultKind, o_t_faultPlace, o_p1_limit, o_p1_near, o_p1_share, o_p1_shareOf, o_p1_window, o_p1_storm, o_p1_stepCount, o_p1_clauses, o_p1_steps) → va_P D vwCl (W_31 ct q_t q_t_tape q_t_tape_bytes q_p1 q_p1_steps t_length t_place t_numberPlace t_faultKind t_faultPlace t_tape_size t_tape_bytes p1_limit p1_near p1_share p1_shareOf p1_window p1_storm p1_stepCount p1_clauses p1_steps) H → va_D A (W_31 ct q_t q_t_tape q_t_tape_bytes q_p1 q_p1_steps t_length t_place t_numberPlace t_faultKind t_faultPlace t_tape_size t_tape_bytes p1_limit p1_near p1_share p1_shareOf p1_window p1_storm p1_stepCount p1_clauses p1_steps) → va_S A s.heap H locs → lv_has ls 5 [(0, .ref q_t), (1, .ref q_p1), (3, .int x_3), (4, .int x_4)] → W p l e ({ frames := 7, cells := 0, slots := 0, locals := 156 } : Room) s m args below meth c H locs 0 0 (MQ below (va_Qi (fun r (_ : Unit) => r = o_r) (fun _ t => va_P D vwCl (W_31 ct q_t q_t_tape q_t_tape_bytes q_p1 q_p1_steps o_t_length o_t_place o_t_numberPlace o_t_faultKind o_t_faultPlace t_tape_size t_tape_bytes o_p1_limit o_p1_near o_p1_share o_p1_shareOf o_p1_window o_p1_storm o_p1_stepCount o_p1_clauses o_p1_steps) t.heap) A) args s 0 0 A) (F0 m 33 ls [])) (n : Nat) (t_length : Int32) (t_place : Int32) (t_numberPlace : Int32) (t_faultKind : Int32) (t_faultPlace : Int32) (p1_limit : Int32) (p1_near : Int32) (p1_share : Int32) (p1_shareOf : Int32) (p1_window : Int32) (p1_storm : Int32) (p1_stepCount : Int32) (p1_clauses : Int32) (p1_steps : Nat → Int32) (x_3 : Int32) (x_4 : Int32) (H : Heap) (locs : List Loc) (ls : Array Slot) : JX4_readInto_33 k33 n t_length t_place t_numberPlace t_faultKind t_faultPlace t_tape_size t_tape_bytes p1_limit p1_near p1_share p1_shareOf p1_window p1_storm p1_stepCount p1_clauses p1_steps x_3 x_4 = some (o_r, o_t_length, o_t_place, o_t_numberPlace, o_t_faultKind, o_t_faultPlace, o_p1_limit, o_p1_near, o_p1_share, o_p1_shareOf, o_p1_window, o_p1_storm, o_p1_stepCount, o_p1_clauses, o_p1_steps) → va_P D vwCl (W_31 ct q_t q_t_tape q_t_tape_bytes q_p1 q_p1_steps t_length t_place t_numberPlace t_faultKind t_faultPlace t_tape_size t_tape_bytes p1_limit p1_near p1_share p1_shareOf p1_window p1_storm p1_stepCount p1_clauses p1_steps) H → va_D A (W_31 ct q_t q_t_tape q_t_tape_bytes q_p1 q_p1_steps t_length t_place t_numberPlace t_faultKind t_faultPlace t_tape_size t_tape_bytes p1_limit p1_near p1_share p1_shareOf p1_window p1_storm p1_stepCount p1_clauses p1_steps) → va_S A s.heap H locs → lv_has ls 5 [(0, .ref q_t), (1, .ref q_p1), (3, .int x_3), (4, .int x_4)] → W p l e ({ frames := 7, cells := 0, slots := 0, locals := 156 } : Room) s m args below meth c H locs 0 0 (MQ below (va_Qi (fun r (_ : Unit) => r = o_r) (fun _ t => va_P D vwCl (W_31 ct q_t q_t_tape q_t_tape_bytes q_p1 q_p1_steps o_t_length o_t_place o_t_numberPlace o_t_faultKind o_t_faultPlace t_tape_size t_tape_bytes o_p1_limit o_p1_near o_p1_share o_p1_shareOf o_p1_window o_p1_storm o_p1_stepCount o_p1_clauses o_p1_steps) t.heap) A) args s 0 0 A) (F0 m 33 ls []) := by
  intro hF hP hD hS hl
  obtain ⟨hx, hb, hml, hown, hts, hr, hlocks, hE, hA⟩ := id C0
  unfold JX4_readInto_33 at hF
  refine lv_iload hx hb dX4_readInto_33 (lv_at hl 3 rfl) ?_
  refine lv_bipush (v := 12) hx hb dX4_readInto_35 (by decide) ?_
  refine lv_icmp_gt (tgt := 71) hx hb dX4_readInto_37 (by decide) (fun c13 => ?_) (fun c13 => ?_)
  · have hF := ifT c13 hF
    refine lv_iload_n hx hb dX4_readInto_71 rfl (lv_at hl 2 rfl) ?_
    obtain ⟨hz, hF⟩ := gd_ex hF
    obtain ⟨rfl, rfl, rfl, rfl, rfl, rfl, rfl, rfl, rfl, rfl, rfl, rfl, rfl, rfl, rfl⟩ := in15 hF
    exact W.zret hx hb hr hz (fun t ht hW => ⟨⟨_, (), rfl, rfl, vaP_at ht hP⟩, hS.F ht⟩) hS.2.2 dX4_readInto_72
  · have hF := ifF c13 hF
    refine lv_iload_n hx hb dX4_readInto_40 rfl (lv_at hl 2 rfl) ?_
    refine lv_if_eq (tgt := 71) hx hb dX4_readInto_41 (by decide) (fun c14 => ?_) (fun c14 => ?_)
    · have hF := ifT c14 hF
      refine lv_iload_n hx hb dX4_readInto_71 rfl (lv_at hl 2 rfl) ?_
      obtain ⟨hz, hF⟩ := gd_ex hF
      obtain ⟨rfl, rfl, rfl, rfl, rfl, rfl, rfl, rfl, rfl, rfl, rfl, rfl, rfl, rfl, rfl⟩ := in15 hF
      exact W.zret hx hb hr hz (fun t ht hW => ⟨⟨_, (), rfl, rfl, vaP_at ht hP⟩, hS.F ht⟩) hS.2.2 dX4_readInto_72
    · have hF := ifF c14 hF
      refine lv_aload_n hx hb dX4_readInto_44 rfl (lv_at hl 0 rfl) ?_
      refine va_get (D := D) (ci := 4) (v := .int t_place) (C := RX4) (T := TX4) (N := 6) hx hb hts i_X4_readInto_X4 hown hE.1 hP 0 rfl rfl 2 (by decide) (hts (.fieldLink RX4 22 "NeedleHouse$RuleReader" "place" "I") (by decide +kernel)) (fun _ h9 => h9) rfl dX4_readInto_45 ?_
      refine lv_aload_n hx hb dX4_readInto_48 rfl (lv_at hl 0 rfl) ?_
      refine va_get (D := D) (ci := 4) (v := .int t_length) (C := RX4) (T := TX4) (N := 6) hx hb hts i_X4_readInto_X4 hown hE.1 hP 0 rfl rfl 1 (by decide) (hts (.fieldLink RX4 18 "NeedleHouse$RuleReader" "length" "I") (by decide +kernel)) (fun _ h9 => h9) rfl dX4_readInto_49 ?_
      refine lv_icmp_ge (tgt := 71) hx hb dX4_readInto_52 (by decide) (fun c15 => ?_) (fun c15 => ?_)
      · have hF := ifT c15 hF
        refine lv_iload_n hx hb dX4_readInto_71 rfl (lv_at hl 2 rfl) ?_
        obtain ⟨hz, hF⟩ := gd_ex hF
        obtain ⟨rfl, rfl, rfl, rfl, rfl, rfl, rfl, rfl, rfl, rfl, rfl, rfl, rfl, rfl, rfl⟩ := in15 hF
        exact W.zret hx hb hr hz (fun t ht hW => ⟨⟨_, (), rfl, rfl, vaP_at ht hP⟩, hS.F ht⟩) hS.2.2 dX4_readInto_72
      · have hF := ifF c15 hF
        refine lv_aload_n hx hb dX4_readInto_55 rfl (lv_at hl 0 rfl) ?_
        refine lv_aload_n hx hb dX4_readInto_56 rfl (lv_at hl 1 rfl) ?_
        obtain ⟨r16, v17, v18, v19, v20, v21, v22, v23, v24, v25, v26, v27, v28, f29, h30, hF⟩ := ob14_ex hF
        refine xiA (va_runV (As := [.ref q_p1]) (rest := []) ⟨hx, hb, hml, hown, hts⟩ (met_X4_readClause l D ct adK adV q_t q_t_tape q_t_tape_bytes q_p1 q_p1_steps H.size t_length t_place t_numberPlace t_faultKind t_faultPlace t_tape_size t_tape_bytes p1_limit p1_near p1_share p1_shareOf p1_window p1_storm p1_stepCount p1_clauses p1_steps n r16 v17 v18 v19 v20 v21 v22 v23 v24 v25 v26 v27 v28 f29 h30) (cwV 1 hts gX4_readInto_X4_readClause rfl rfl rfl (by decide +kernel) ⟨Nat.le_of_ble_eq_true rfl, Nat.le_of_ble_eq_true rfl⟩) ⟨blindS, va_recv hE.1 hP (ci := 4) (q0 := 0) rfl rfl, mkpreS hE hSE hS (freeA hD hS hA) hP hD⟩ rfl rfl hl.1 rfl (lv_room (Nat.le_of_ble_eq_true rfl)) dX4_readInto_57 ⟨Nat.le_of_ble_eq_true rfl, Nat.le_of_ble_eq_true rfl⟩) hP hD hS hA rfl (fun H locs hP hD hS => ?_)
        refine lv_istore_n (lv' := [(3, .int r16), (0, .ref q_t), (1, .ref q_p1), (4, .int x_4)]) hx hb dX4_readInto_60 rfl hl (by decide) rfl (fun ls hl => ?_)
        refine lv_aload_n hx hb dX4_readInto_61 rfl (lv_at hl 1 rfl) ?_
        obtain ⟨v31, h32, hF⟩ := ob1_ex hF
        refine xvM (ws1 := (W_31 ct q_t q_t_tape q_t_tape_bytes q_p1 q_p1_steps t_length v31 v18 v19 v20 t_tape_size t_tape_bytes v21 v22 v23 v24 v25 v26 v27 v28 f29)) (va_runV (As := []) (rest := []) ⟨hx, hb, hml, hown, hts⟩ (met_X4_skipBlanks l D ct q_t q_t_tape q_t_tape_bytes H.size t_length v17 v18 v19 v20 t_tape_size t_tape_bytes n v31 h32) (cwV 0 hts gX4_readInto_X4_skipBlanks rfl rfl rfl (by decide +kernel) ⟨Nat.le_of_ble_eq_true rfl, Nat.le_of_ble_eq_true rfl⟩) ⟨blind_, va_recv hE.1 hP (ci := 4) (q0 := 0) rfl rfl, mkpre_ hE (hP.sub [0, 1, 2] rfl) (hD.sub [0, 1, 2] (by decide) rfl)⟩ rfl rfl hl.1 rfl (lv_room (Nat.le_of_ble_eq_true rfl)) dX4_readInto_62 ⟨Nat.le_of_ble_eq_true rfl, Nat.le_of_ble_eq_true rfl⟩) hP hD hS hA [0, 1, 2] [3, 4] 5 rfl rfl rfl rfl (by decide) rfl (fun H locs hP hD hS => ?_)
        obtain ⟨x33, ex33⟩ : ∃ y : Int32, y = x_4 + 1 := ⟨_, rfl⟩
        refine lv_iinc (v := x33) (lv' := [(4, .int x33), (3, .int r16), (0, .ref q_t), (1, .ref q_p1)]) hx hb dX4_readInto_65 hl (k := 3) rfl (by rw [ex33]; rfl) (by decide) rfl (fun ls hl => ?_)
        have hF := bn_as ex33 hF
        refine lv_goto (tgt := 33) hx hb dX4_readInto_68 (by decide) ?_
        exact hk33 t_length v31 v18 v19 v20 v21 v22 v23 v24 v25 v26 v27 v28 f29 r16 x33 _ _ _ hF hP hD hS (lv_sub hl [2, 3, 1, 0] rfl)
theorem lX4_readInto_33 {p : Program} {l : Launch} {e : Env} {s : State} {m : MethodId} {args : Array Value} {below : List Frame} {meth : Method} {c : Code} {D : va_G} {ct : Nat → ClassId} {A : Nat → Prop} {adK adV : Nat → Nat} {q_t q_t_tape q_t_tape_bytes q_p1 q_p1_steps : Nat} {t_tape_size : Int32} {t_tape_bytes : Nat → Int32} {o_r : Int32} {o_t_length : Int32} {o_t_place : Int32} {o_t_numberPlace : Int32} {o_t_faultKind : Int32} {o_t_faultPlace : Int32} {o_p1_limit : Int32} {o_p1_near : Int32} {o_p1_share : Int32} {o_p1_shareOf : Int32} {o_p1_window : Int32} {o_p1_storm : Int32} {o_p1_stepCount : Int32} {o_p1_clauses : Int32} {o_p1_steps : Nat → Int32} (C0 : Cx RX4 cX4_readInto 5 (some .boolean) wsX4_readInto D ct A p s m args meth c) (hSE : SE adK adV A s s.heap) : ∀ (n : Nat) (t_length : Int32) (t_place : Int32) (t_numberPlace : Int32) (t_faultKind : Int32) (t_faultPlace : Int32) (p1_limit : Int32) (p1_near : Int32) (p1_share : Int32) (p1_shareOf : Int32) (p1_window : Int32) (p1_storm : Int32) (p1_stepCount : Int32) (p1_clauses : Int32) (p1_steps : Nat → Int32) (x_3 : Int32) (x_4 : Int32) (H : Heap) (locs : List Loc) (ls : Array Slot), LX4_readInto_33 n t_length t_place t_numberPlace t_faultKind t_faultPlace t_tape_size t_tape_bytes p1_limit p1_near p1_share p1_shareOf p1_window p1_storm p1_stepCount p1_clauses p1_steps x_3 x_4 = some (o_r, o_t_length, o_t_place, o_t_numberPlace, o_t_faultKind, o_t_faultPlace, o_p1_limit, o_p1_near, o_p1_share, o_p1_shareOf, o_p1_window, o_p1_storm, o_p1_stepCount, o_p1_clauses, o_p1_steps) → va_P D vwCl (W_31 ct q_t q_t_tape q_t_tape_bytes q_p1 q_p1_steps t_length t_place t_numberPlace t_faultKind t_faultPlace t_tape_size t_tape_bytes p1_limit p1_near p1_share p1_shareOf p1_window p1_storm p1_stepCount p1_clauses p1_steps) H → va_D A (W_31 ct q_t q_t_tape q_t_tape_bytes q_p1 q_p1_steps t_length t_place t_numberPlace t_faultKind t_faultPlace t_tape_size t_tape_bytes p1_limit p1_near p1_share p1_shareOf p1_window p1_storm p1_stepCount p1_clauses p1_steps) → va_S A s.heap H locs → lv_has ls 5 [(0, .ref q_t), (1, .ref q_p1), (3, .int x_3), (4, .int x_4)] → W p l e ({ frames := 7, cells := 0, slots := 0, locals := 156 } : Room) s m args below meth c H locs 0 0 (MQ below (va_Qi (fun r (_ : Unit) => r = o_r) (fun _ t => va_P D vwCl (W_31 ct q_t q_t_tape q_t_tape_bytes q_p1 q_p1_steps o_t_length o_t_place o_t_numberPlace o_t_faultKind o_t_faultPlace t_tape_size t_tape_bytes o_p1_limit o_p1_near o_p1_share o_p1_shareOf o_p1_window o_p1_storm o_p1_stepCount o_p1_clauses o_p1_steps) t.heap) A) args s 0 0 A) (F0 m 33 ls []) := by
  intro n
  induction n with
  | zero => intro t_length t_place t_numberPlace t_faultKind t_faultPlace p1_limit p1_near p1_share p1_shareOf p1_window p1_storm p1_stepCount p1_clauses p1_steps x_3 x_4 H locs ls hF; exact nomatch (show (none : Option (Int32 × Int32 × Int32 × Int32 × Int32 × Int32 × Int32 × Int32 × Int32 × Int32 × Int32 × Int32 × Int32 × Int32 × (Nat → Int32))) = _ from hF)
  | succ n ih => intro t_length t_place t_numberPlace t_faultKind t_faultPlace p1_limit p1_near p1_share p1_shareOf p1_window p1_storm p1_stepCount p1_clauses p1_steps x_3 x_4 H locs ls hF; exact jX4_readInto_33 C0 hSE (LX4_readInto_33 n) ih n t_length t_place t_numberPlace t_faultKind t_faultPlace p1_limit p1_near p1_share p1_shareOf p1_window p1_storm p1_stepCount p1_clauses p1_steps x_3 x_4 H locs ls hF
set_option maxHeartbeats 4000000 in
set_option maxRecDepth 100000 in
theorem met_X4_readInto (l : Launch) (D : va_G) (ct : Nat → ClassId) (adK adV : Nat → Nat) (q_t : Nat) (q_t_tape : Nat) (q_t_tape_bytes : Nat) (q_p1 : Nat) (q_p1_steps : Nat) (sz : Nat) (t_length : Int32) (t_place : Int32) (t_numberPlace : Int32) (t_faultKind : Int32) (t_faultPlace : Int32) (t_tape_size : Int32) (t_tape_bytes : Nat → Int32) (p1_limit : Int32) (p1_near : Int32) (p1_share : Int32) (p1_shareOf : Int32) (p1_window : Int32) (p1_storm : Int32) (p1_stepCount : Int32) (p1_clauses : Int32) (p1_steps : Nat → Int32) (p2 : Int32) (n : Nat) (o_r : Int32) (o_t_length : Int32) (o_t_place : Int32) (o_t_numberPlace : Int32) (o_t_faultKind : Int32) (o_t_faultPlace : Int32) (o_p1_limit : Int32) (o_p1_near : Int32) (o_p1_share : Int32) (o_p1_shareOf : Int32) (o_p1_window : Int32) (o_p1_storm : Int32) (o_p1_stepCount : Int32) (o_p1_clauses : Int32) (o_p1_steps : Nat → Int32) (hF : FX4_readInto n t_length t_place t_numberPlace t_faultKind t_faultPlace t_tape_size t_tape_bytes p1_limit p1_near p1_share p1_shareOf p1_window p1_storm p1_stepCount p1_clauses p1_steps p2 = some (o_r, o_t_length, o_t_place, o_t_numberPlace, o_t_faultKind, o_t_faultPlace, o_p1_limit, o_p1_near, o_p1_share, o_p1_shareOf, o_p1_window, o_p1_storm, o_p1_stepCount, o_p1_clauses, o_p1_steps)) : Met l yX4_readInto wsX4_readInto ({ frames := 7, cells := 0, slots := 0, locals := 156 } : Room) (va_Pc [.ref q_t, .ref q_p1, .int p2] (preS D ct sz (W_31 ct q_t q_t_tape q_t_tape_bytes q_p1 q_p1_steps t_length t_place t_numberPlace t_faultKind t_faultPlace t_tape_size t_tape_bytes p1_limit p1_near p1_share p1_shareOf p1_window p1_storm p1_stepCount p1_clauses p1_steps) adK adV)) (va_Qi (fun r (_ : Unit) => r = o_r) (fun _ t => va_P D vwCl (W_31 ct q_t q_t_tape q_t_tape_bytes q_p1 q_p1_steps o_t_length o_t_place o_t_numberPlace o_t_faultKind o_t_faultPlace t_tape_size t_tape_bytes o_p1_limit o_p1_near o_p1_share o_p1_shareOf o_p1_window o_p1_storm o_p1_stepCount o_p1_clauses o_p1_steps) t.heap) (va_A (W_31 ct q_t q_t_tape q_t_tape_bytes q_p1 q_p1_steps t_length t_place t_numberPlace t_faultKind t_faultPlace t_tape_size t_tape_bytes p1_limit p1_near p1_share p1_shareOf p1_window p1_storm p1_stepCount p1_clauses p1_steps) sz)) 0 0 (va_A (W_31 ct q_t q_t_tape q_t_tape_bytes q_p1 q_p1_steps t_length t_place t_numberPlace t_faultKind t_faultPlace t_tape_size t_tape_bytes p1_limit p1_near p1_share p1_shareOf p1_window p1_storm p1_stepCount p1_clauses p1_steps) sz) := by
  refine Met.ofW (cc := cX4_readInto) (maxL := 5) (ret := (some .boolean)) (by decide) rfl ?_
  intro p e s m args below meth c s₁ B hml hv
  obtain ⟨rfl, ⟨hsz, hP, hE, hD0⟩, hSE⟩ := hv
  have hx := B.exec
  have hb := B.bytes
  have hr := B.returns
  have hts := atoms_spec (ws := wsX4_readInto) B.pre
  have hown : s.vm.findClass RX4 = some m.cls := findClass_of_methodNamed B.named
  have hlocks := B.notSynchronized
  subst hsz
  have hD := hD0.self (sz := s.heap.size)
  generalize hAe : va_A (W_31 ct q_t q_t_tape q_t_tape_bytes q_p1 q_p1_steps t_length t_place t_numberPlace t_faultKind t_faultPlace t_tape_size t_tape_bytes p1_limit p1_near p1_share p1_shareOf p1_window p1_storm p1_stepCount p1_clauses p1_steps) s.heap.size = A at hD hSE ⊢
  have hA : ∀ q : Nat, s.heap.size ≤ q → A q := fun q h => by rw [← hAe]; exact Or.inr h
  have hl := lv_entry ([.ref q_t, .ref q_p1, .int p2]) (n := 5) (Nat.le_of_ble_eq_true rfl)
  rw [lg_entry_eq]
  generalize (lg_sl ([.ref q_t, .ref q_p1, .int p2]) ++ List.replicate (5 - (lg_sl ([.ref q_t, .ref q_p1, .int p2])).length) Slot.unset).toArray = ls at hl ⊢
  have hl : lv_has ls 5 [(0, .ref q_t), (1, .ref q_p1), (2, .int p2)] := hl
  have C0 : Cx RX4 cX4_readInto 5 (some .boolean) wsX4_readInto D ct A p s m ([.ref q_t, .ref q_p1, .int p2]).toArray meth c := ⟨hx, hb, hml, hown, hts, hr, hlocks, hE, hA⟩
  have hS : ∀ H : Heap, s.heap = H → va_S A s.heap H [] := fun H h => h ▸ va_S.rf
  generalize hH : s.heap = H at hP ⊢
  have hS := hS H hH
  unfold FX4_readInto at hF
  refine lv_aload_n hx hb dX4_readInto_0 rfl (lv_at hl 0 rfl) ?_
  refine lv_iload_n hx hb dX4_readInto_1 rfl (lv_at hl 2 rfl) ?_
  refine va_put (D := D) (ci := 4) (v := .int p2) (ty := .int) (C := RX4) (T := TX4) (N := 6) hx hb hts i_X4_readInto_X4 tyX4 tyX4_ok nmX4 hown hE.1 hP hD hS 0 rfl rfl 1 (by decide) (hts (.fieldLink RX4 18 "NeedleHouse$RuleReader" "length" "I") (by decide +kernel)) (fun _ h9 => h9) rfl (by decide +kernel) rfl rfl (Nat.le_of_ble_eq_true rfl) dX4_readInto_2 (fun H locs hP hD hS => ?_)
  have hP : va_P D vwCl (W_31 ct q_t q_t_tape q_t_tape_bytes q_p1 q_p1_steps p2 t_place t_numberPlace t_faultKind t_faultPlace t_tape_size t_tape_bytes p1_limit p1_near p1_share p1_shareOf p1_window p1_storm p1_stepCount p1_clauses p1_steps) H := hP
  have hD : va_D A (W_31 ct q_t q_t_tape q_t_tape_bytes q_p1 q_p1_steps p2 t_place t_numberPlace t_faultKind t_faultPlace t_tape_size t_tape_bytes p1_limit p1_near p1_share p1_shareOf p1_window p1_storm p1_stepCount p1_clauses p1_steps) := hD
  refine lv_aload_n hx hb dX4_readInto_5 rfl (lv_at hl 0 rfl) ?_
  refine lv_iconst (v := 0) hx hb dX4_readInto_6 (by decide) ?_
  refine va_put (D := D) (ci := 4) (v := .int 0) (ty := .int) (C := RX4) (T := TX4) (N := 6) hx hb hts i_X4_readInto_X4 tyX4 tyX4_ok nmX4 hown hE.1 hP hD hS 0 rfl rfl 2 (by decide) (hts (.fieldLink RX4 22 "NeedleHouse$RuleReader" "place" "I") (by decide +kernel)) (fun _ h9 => h9) rfl (by decide +kernel) rfl rfl (Nat.le_of_ble_eq_true rfl) dX4_readInto_7 (fun H locs hP hD hS => ?_)
  have hP : va_P D vwCl (W_31 ct q_t q_t_tape q_t_tape_bytes q_p1 q_p1_steps p2 0 t_numberPlace t_faultKind t_faultPlace t_tape_size t_tape_bytes p1_limit p1_near p1_share p1_shareOf p1_window p1_storm p1_stepCount p1_clauses p1_steps) H := hP
  have hD : va_D A (W_31 ct q_t q_t_tape q_t_tape_bytes q_p1 q_p1_steps p2 0 t_numberPlace t_faultKind t_faultPlace t_tape_size t_tape_bytes p1_limit p1_near p1_share p1_shareOf p1_window p1_storm p1_stepCount p1_clauses p1_steps) := hD
  refine lv_aload_n hx hb dX4_readInto_10 rfl (lv_at hl 0 rfl) ?_
  refine lv_iconst (v := 0) hx hb dX4_readInto_11 (by decide) ?_
  refine va_put (D := D) (ci := 4) (v := .int 0) (ty := .int) (C := RX4) (T := TX4) (N := 6) hx hb hts i_X4_readInto_X4 tyX4 tyX4_ok nmX4 hown hE.1 hP hD hS 0 rfl rfl 4 (by decide) (hts (.fieldLink RX4 28 "NeedleHouse$RuleReader" "faultKind" "I") (by decide +kernel)) (fun _ h9 => h9) rfl (by decide +kernel) rfl rfl (Nat.le_of_ble_eq_true rfl) dX4_readInto_12 (fun H locs hP hD hS => ?_)
  have hP : va_P D vwCl (W_31 ct q_t q_t_tape q_t_tape_bytes q_p1 q_p1_steps p2 0 t_numberPlace 0 t_faultPlace t_tape_size t_tape_bytes p1_limit p1_near p1_share p1_shareOf p1_window p1_storm p1_stepCount p1_clauses p1_steps) H := hP
  have hD : va_D A (W_31 ct q_t q_t_tape q_t_tape_bytes q_p1 q_p1_steps p2 0 t_numberPlace 0 t_faultPlace t_tape_size t_tape_bytes p1_limit p1_near p1_share p1_shareOf p1_window p1_storm p1_stepCount p1_clauses p1_steps) := hD
  refine lv_aload_n hx hb dX4_readInto_15 rfl (lv_at hl 0 rfl) ?_
  refine lv_iconst (v := (-1)) hx hb dX4_readInto_16 (by decide) ?_
  refine va_put (D := D) (ci := 4) (v := .int ((-1))) (ty := .int) (C := RX4) (T := TX4) (N := 6) hx hb hts i_X4_readInto_X4 tyX4 tyX4_ok nmX4 hown hE.1 hP hD hS 0 rfl rfl 5 (by decide) (hts (.fieldLink RX4 31 "NeedleHouse$RuleReader" "faultPlace" "I") (by decide +kernel)) (fun _ h9 => h9) rfl (by decide +kernel) rfl rfl (Nat.le_of_ble_eq_true rfl) dX4_readInto_17 (fun H locs hP hD hS => ?_)
  have hP : va_P D vwCl (W_31 ct q_t q_t_tape q_t_tape_bytes q_p1 q_p1_steps p2 0 t_numberPlace 0 ((-1)) t_tape_size t_tape_bytes p1_limit p1_near p1_share p1_shareOf p1_window p1_storm p1_stepCount p1_clauses p1_steps) H := hP
  have hD : va_D A (W_31 ct q_t q_t_tape q_t_tape_bytes q_p1 q_p1_steps p2 0 t_numberPlace 0 ((-1)) t_tape_size t_tape_bytes p1_limit p1_near p1_share p1_shareOf p1_window p1_storm p1_stepCount p1_clauses p1_steps) := hD
  refine lv_aload_n hx hb dX4_readInto_20 rfl (lv_at hl 1 rfl) ?_
  obtain ⟨v1, v2, v3, v4, v5, v6, v7, v8, f9, h10, hF⟩ := ob9_ex hF
  refine xvM (ws1 := (W_31 ct q_t q_t_tape q_t_tape_bytes q_p1 q_p1_steps p2 0 t_numberPlace 0 ((-1)) t_tape_size t_tape_bytes v1 v2 v3 v4 v5 v6 v7 v8 f9)) (va_runV (As := []) (rest := []) ⟨hx, hb, hml, hown, hts⟩ (met_X3_reset l D ct q_p1 q_p1_steps H.size p1_limit p1_near p1_share p1_shareOf p1_window p1_storm p1_stepCount p1_clauses p1_steps n v1 v2 v3 v4 v5 v6 v7 v8 f9 h10) (cwV 0 hts gX4_readInto_X3_reset rfl rfl rfl (by decide +kernel) ⟨Nat.le_of_ble_eq_true rfl, Nat.le_of_ble_eq_true rfl⟩) ⟨blind_, va_recv hE.1 hP (ci := 3) (q0 := 3) rfl rfl, mkpre_ hE (hP.sub [3, 4] rfl) (hD.sub [3, 4] (by decide) rfl)⟩ rfl rfl hl.1 rfl (lv_room (Nat.le_of_ble_eq_true rfl)) dX4_readInto_21 ⟨Nat.le_of_ble_eq_true rfl, Nat.le_of_ble_eq_true rfl⟩) hP hD hS hA [3, 4] [0, 1, 2] 5 rfl rfl rfl rfl (by decide) rfl (fun H locs hP hD hS => ?_)
  refine lv_iconst (v := 1) hx hb dX4_readInto_24 (by decide) ?_
  refine lv_istore_n (lv' := [(3, .int 1), (0, .ref q_t), (1, .ref q_p1), (2, .int p2)]) hx hb dX4_readInto_25 rfl hl (by decide) rfl (fun ls hl => ?_)
  refine lv_aload_n hx hb dX4_readInto_26 rfl (lv_at hl 1 rfl) ?_
  obtain ⟨v11, h12, hF⟩ := ob1_ex hF
  refine xvM (ws1 := (W_31 ct q_t q_t_tape q_t_tape_bytes q_p1 q_p1_steps p2 v11 t_numberPlace 0 ((-1)) t_tape_size t_tape_bytes v1 v2 v3 v4 v5 v6 v7 v8 f9)) (va_runV (As := []) (rest := []) ⟨hx, hb, hml, hown, hts⟩ (met_X4_skipBlanks l D ct q_t q_t_tape q_t_tape_bytes H.size p2 0 t_numberPlace 0 ((-1)) t_tape_size t_tape_bytes n v11 h12) (cwV 0 hts gX4_readInto_X4_skipBlanks rfl rfl rfl (by decide +kernel) ⟨Nat.le_of_ble_eq_true rfl, Nat.le_of_ble_eq_true rfl⟩) ⟨blind_, va_recv hE.1 hP (ci := 4) (q0 := 0) rfl rfl, mkpre_ hE (hP.sub [0, 1, 2] rfl) (hD.sub [0, 1, 2] (by decide) rfl)⟩ rfl rfl hl.1 rfl (lv_room (Nat.le_of_ble_eq_true rfl)) dX4_readInto_27 ⟨Nat.le_of_ble_eq_true rfl, Nat.le_of_ble_eq_true rfl⟩) hP hD hS hA [0, 1, 2] [3, 4] 5 rfl rfl rfl rfl (by decide) rfl (fun H locs hP hD hS => ?_)
  refine lv_iconst (v := 0) hx hb dX4_readInto_30 (by decide) ?_
  refine lv_istore (lv' := [(4, .int 0), (3, .int 1), (0, .ref q_t), (1, .ref q_p1), (2, .int p2)]) hx hb dX4_readInto_31 hl (by decide) rfl (fun ls hl => ?_)
  exact lX4_readInto_33 C0 hSE n p2 v11 t_numberPlace 0 ((-1)) v1 v2 v3 v4 v5 v6 v7 v8 f9 1 0 _ _ _ hF hP hD hS (lv_sub hl [2, 3, 1, 0] rfl)
