def W_3 (ct : Nat → ClassId) (a0 a1 a2 a3 a4 : Nat) (v0 : Int32) : va_W := [(a0, .inr (0, [.ref a1, .ref a2, .ref a3, .ref a4, .int v0]))]
/-! NeedleHouse$Measures.size()I -/
theorem i_X0_size_X0 : ∀ w ∈ wsX00, w ∈ wsX0_size := by decide +kernel
set_option maxHeartbeats 4000000 in
set_option maxRecDepth 100000 in
theorem met_X0_size (l : Launch) (D : va_G) (ct : Nat → ClassId) (q_t : Nat) (q_t_times : Nat) (q_t_means : Nat) (q_t_lefts : Nat) (q_t_ends : Nat) (sz : Nat) (t_size : Int32) (n : Nat) (o_r : Int32) (hF : FX0_size n t_size = some (o_r)) : Met l yX0_size wsX0_size ({ frames := 0, cells := 0, slots := 0, locals := 0 } : Room) (va_Pc [.ref q_t] (pre_ D ct sz (W_3 ct q_t q_t_times q_t_means q_t_lefts q_t_ends t_size))) (va_Qi (fun r (_ : Unit) => r = o_r) (fun _ t => va_P D vwCl (W_3 ct q_t q_t_times q_t_means q_t_lefts q_t_ends t_size) t.heap) (va_A (W_3 ct q_t q_t_times q_t_means q_t_lefts q_t_ends t_size) sz)) 0 0 (va_A (W_3 ct q_t q_t_times q_t_means q_t_lefts q_t_ends t_size) sz) := by
  refine Met.ofW (cc := cX0_size) (maxL := 1) (ret := (some .int)) (by decide) rfl ?_
  intro p e s m args below meth c s₁ B hml hv
  obtain ⟨rfl, hsz, hP, hE, hD0⟩ := hv
  have hx := B.exec
  have hb := B.bytes
  have hr := B.returns
  have hts := atoms_spec (ws := wsX0_size) B.pre
  have hown : s.vm.findClass RX0 = some m.cls := findClass_of_methodNamed B.named
  have hlocks := B.notSynchronized
  subst hsz
  have hD := hD0.self (sz := s.heap.size)
  generalize hAe : va_A (W_3 ct q_t q_t_times q_t_means q_t_lefts q_t_ends t_size) s.heap.size = A at hD ⊢
  have hA : ∀ q : Nat, s.heap.size ≤ q → A q := fun q h => by rw [← hAe]; exact Or.inr h
  have hl := lv_entry ([.ref q_t]) (n := 1) (Nat.le_of_ble_eq_true rfl)
  rw [lg_entry_eq]
  generalize (lg_sl ([.ref q_t]) ++ List.replicate (1 - (lg_sl ([.ref q_t])).length) Slot.unset).toArray = ls at hl ⊢
  have hl : lv_has ls 1 [(0, .ref q_t)] := hl
  have C0 : Cx RX0 cX0_size 1 (some .int) wsX0_size D ct A p s m ([.ref q_t]).toArray meth c := ⟨hx, hb, hml, hown, hts, hr, hlocks, hE, hA⟩
  have hS : ∀ H : Heap, s.heap = H → va_S A s.heap H [] := fun H h => h ▸ va_S.rf
  generalize hH : s.heap = H at hP ⊢
  have hS := hS H hH
  unfold FX0_size at hF
  refine lv_aload_n hx hb dX0_size_0 rfl (lv_at hl 0 rfl) ?_
  refine va_get (D := D) (ci := 0) (v := .int t_size) (C := RX0) (T := TX0) (N := 5) hx hb hts i_X0_size_X0 hown hE.1 hP 0 rfl rfl 4 (by decide) (hts (.fieldLink RX0 24 "NeedleHouse$Measures" "size" "I") (by decide +kernel)) (fun _ h9 => h9) rfl dX0_size_1 ?_
  obtain rfl := Option.some.inj hF
  exact W.iret hx hb hr (fun t ht hW => ⟨⟨_, (), rfl, rfl, vaP_at ht hP⟩, hS.F ht⟩) hS.2.2 dX0_size_4
def W_4 (ct : Nat → ClassId) (a0 a1 a2 a3 a4 : Nat) (v0 : Int32) (v1 : Nat → Int32) (v2 : Nat → Int32) (v3 : Nat → Int32) (v4 : Nat → Int32) : va_W := [(a0, .inr (0, [.ref a1, .ref a2, .ref a3, .ref a4, .int v0])), (a1, .inl (ct 0, 20, .inl v1)), (a2, .inl (ct 0, 20, .inl v2)), (a3, .inl (ct 0, 20, .inl v3)), (a4, .inl (ct 0, 20, .inl v4))]
/-! NeedleHouse$Measures.add(IIII)I -/
theorem i_X0_add_X0 : ∀ w ∈ wsX00, w ∈ wsX0_add := by decide +kernel
set_option maxHeartbeats 4000000 in
set_option maxRecDepth 100000 in
theorem jX0_add_36 {p : Program} {l : Launch} {e : Env} {s : State} {m : MethodId} {args : Array Value} {below : List Frame} {meth : Method} {c : Code} {D : va_G} {ct : Nat → ClassId} {A : Nat → Prop} {q_t q_t_times q_t_means q_t_lefts q_t_ends : Nat} {o_r : Int32} {o_t_size : Int32} {o_t_times : Nat → Int32} {o_t_means : Nat → Int32} {o_t_lefts : Nat → Int32} {o_t_ends : Nat → Int32} (C0 : Cx RX0 cX0_add 5 (some .int) wsX0_add D ct A p s m args meth c) (n : Nat) (t_size : Int32) (t_times : Nat → Int32) (t_means : Nat → Int32) (t_lefts : Nat → Int32) (t_ends : Nat → Int32) (x_1 : Int32) (x_2 : Int32) (x_3 : Int32) (x_4 : Int32) (H : Heap) (locs : List Loc) (ls : Array Slot) : JX0_add_36 n t_size t_times t_means t_lefts t_ends x_1 x_2 x_3 x_4 = some (o_r, o_t_size, o_t_times, o_t_means, o_t_lefts, o_t_ends) → va_P D vwCl (W_4 ct q_t q_t_times q_t_means q_t_lefts q_t_ends t_size t_times t_means t_lefts t_ends) H → va_D A (W_4 ct q_t q_t_times q_t_means q_t_lefts q_t_ends t_size t_times t_means t_lefts t_ends) → va_S A s.heap H locs → lv_has ls 5 [(0, .ref q_t), (1, .int x_1), (2, .int x_2), (3, .int x_3), (4, .int x_4)] → W p l e ({ frames := 0, cells := 0, slots := 0, locals := 0 } : Room) s m args below meth c H locs 0 0 (MQ below (va_Qi (fun r (_ : Unit) => r = o_r) (fun _ t => va_P D vwCl (W_4 ct q_t q_t_times q_t_means q_t_lefts q_t_ends o_t_size o_t_times o_t_means o_t_lefts o_t_ends) t.heap) A) args s 0 0 A) (F0 m 36 ls []) := by
  intro hF hP hD hS hl
  obtain ⟨hx, hb, hml, hown, hts, hr, hlocks, hE, hA⟩ := id C0
  unfold JX0_add_36 at hF
  refine lv_aload_n hx hb dX0_add_36 rfl (lv_at hl 0 rfl) ?_
  refine va_get (D := D) (ci := 0) (v := .ref q_t_times) (C := RX0) (T := TX0) (N := 5) hx hb hts i_X0_add_X0 hown hE.1 hP 0 rfl rfl 0 (by decide) (hts (.fieldLink RX0 9 "NeedleHouse$Measures" "times" "[I") (by decide +kernel)) (fun _ h9 => h9) rfl dX0_add_37 ?_
  refine lv_aload_n hx hb dX0_add_40 rfl (lv_at hl 0 rfl) ?_
  refine va_get (D := D) (ci := 0) (v := .int t_size) (C := RX0) (T := TX0) (N := 5) hx hb hts i_X0_add_X0 hown hE.1 hP 0 rfl rfl 4 (by decide) (hts (.fieldLink RX0 24 "NeedleHouse$Measures" "size" "I") (by decide +kernel)) (fun _ h9 => h9) rfl dX0_add_41 ?_
  refine lv_iload_n hx hb dX0_add_44 rfl (lv_at hl 1 rfl) ?_
  obtain ⟨h5, hF⟩ := gd_ex hF
  obtain ⟨f6, ef6, hF⟩ := bn_ex hF
  refine va_iast hx hb hE.1 hP hD hS 1 0 rfl rfl h5 dX0_add_45 (fun H locs hP hD hS => ?_)
  have hP : va_P D vwCl (W_4 ct q_t q_t_times q_t_means q_t_lefts q_t_ends t_size f6 t_means t_lefts t_ends) H := by rw [ef6]; exact hP
  have hD : va_D A (W_4 ct q_t q_t_times q_t_means q_t_lefts q_t_ends t_size f6 t_means t_lefts t_ends) := by rw [ef6]; exact hD
  refine lv_aload_n hx hb dX0_add_46 rfl (lv_at hl 0 rfl) ?_
  refine va_get (D := D) (ci := 0) (v := .ref q_t_means) (C := RX0) (T := TX0) (N := 5) hx hb hts i_X0_add_X0 hown hE.1 hP 0 rfl rfl 1 (by decide) (hts (.fieldLink RX0 15 "NeedleHouse$Measures" "means" "[I") (by decide +kernel)) (fun _ h9 => h9) rfl dX0_add_47 ?_
  refine lv_aload_n hx hb dX0_add_50 rfl (lv_at hl 0 rfl) ?_
  refine va_get (D := D) (ci := 0) (v := .int t_size) (C := RX0) (T := TX0) (N := 5) hx hb hts i_X0_add_X0 hown hE.1 hP 0 rfl rfl 4 (by decide) (hts (.fieldLink RX0 24 "NeedleHouse$Measures" "size" "I") (by decide +kernel)) (fun _ h9 => h9) rfl dX0_add_51 ?_
  refine lv_iload_n hx hb dX0_add_54 rfl (lv_at hl 2 rfl) ?_
  obtain ⟨h7, hF⟩ := gd_ex hF
  obtain ⟨f8, ef8, hF⟩ := bn_ex hF
  refine va_iast hx hb hE.1 hP hD hS 2 0 rfl rfl h7 dX0_add_55 (fun H locs hP hD hS => ?_)
  have hP : va_P D vwCl (W_4 ct q_t q_t_times q_t_means q_t_lefts q_t_ends t_size f6 f8 t_lefts t_ends) H := by rw [ef8]; exact hP
  have hD : va_D A (W_4 ct q_t q_t_times q_t_means q_t_lefts q_t_ends t_size f6 f8 t_lefts t_ends) := by rw [ef8]; exact hD
  refine lv_aload_n hx hb dX0_add_56 rfl (lv_at hl 0 rfl) ?_
  refine va_get (D := D) (ci := 0) (v := .ref q_t_lefts) (C := RX0) (T := TX0) (N := 5) hx hb hts i_X0_add_X0 hown hE.1 hP 0 rfl rfl 2 (by decide) (hts (.fieldLink RX0 18 "NeedleHouse$Measures" "lefts" "[I") (by decide +kernel)) (fun _ h9 => h9) rfl dX0_add_57 ?_
  refine lv_aload_n hx hb dX0_add_60 rfl (lv_at hl 0 rfl) ?_
  refine va_get (D := D) (ci := 0) (v := .int t_size) (C := RX0) (T := TX0) (N := 5) hx hb hts i_X0_add_X0 hown hE.1 hP 0 rfl rfl 4 (by decide) (hts (.fieldLink RX0 24 "NeedleHouse$Measures" "size" "I") (by decide +kernel)) (fun _ h9 => h9) rfl dX0_add_61 ?_
  refine lv_iload_n hx hb dX0_add_64 rfl (lv_at hl 3 rfl) ?_
  obtain ⟨h9, hF⟩ := gd_ex hF
  obtain ⟨f10, ef10, hF⟩ := bn_ex hF
  refine va_iast hx hb hE.1 hP hD hS 3 0 rfl rfl h9 dX0_add_65 (fun H locs hP hD hS => ?_)
  have hP : va_P D vwCl (W_4 ct q_t q_t_times q_t_means q_t_lefts q_t_ends t_size f6 f8 f10 t_ends) H := by rw [ef10]; exact hP
  have hD : va_D A (W_4 ct q_t q_t_times q_t_means q_t_lefts q_t_ends t_size f6 f8 f10 t_ends) := by rw [ef10]; exact hD
  refine lv_aload_n hx hb dX0_add_66 rfl (lv_at hl 0 rfl) ?_
  refine va_get (D := D) (ci := 0) (v := .ref q_t_ends) (C := RX0) (T := TX0) (N := 5) hx hb hts i_X0_add_X0 hown hE.1 hP 0 rfl rfl 3 (by decide) (hts (.fieldLink RX0 21 "NeedleHouse$Measures" "ends" "[I") (by decide +kernel)) (fun _ h9 => h9) rfl dX0_add_67 ?_
  refine lv_aload_n hx hb dX0_add_70 rfl (lv_at hl 0 rfl) ?_
  refine va_get (D := D) (ci := 0) (v := .int t_size) (C := RX0) (T := TX0) (N := 5) hx hb hts i_X0_add_X0 hown hE.1 hP 0 rfl rfl 4 (by decide) (hts (.fieldLink RX0 24 "NeedleHouse$Measures" "size" "I") (by decide +kernel)) (fun _ h9 => h9) rfl dX0_add_71 ?_
  refine lv_iload hx hb dX0_add_74 (lv_at hl 4 rfl) ?_
  obtain ⟨h11, hF⟩ := gd_ex hF
  obtain ⟨f12, ef12, hF⟩ := bn_ex hF
  refine va_iast hx hb hE.1 hP hD hS 4 0 rfl rfl h11 dX0_add_76 (fun H locs hP hD hS => ?_)
  have hP : va_P D vwCl (W_4 ct q_t q_t_times q_t_means q_t_lefts q_t_ends t_size f6 f8 f10 f12) H := by rw [ef12]; exact hP
  have hD : va_D A (W_4 ct q_t q_t_times q_t_means q_t_lefts q_t_ends t_size f6 f8 f10 f12) := by rw [ef12]; exact hD
  refine lv_aload_n hx hb dX0_add_77 rfl (lv_at hl 0 rfl) ?_
  refine lv_dup hx hb dX0_add_78 rfl ?_
  refine va_get (D := D) (ci := 0) (v := .int t_size) (C := RX0) (T := TX0) (N := 5) hx hb hts i_X0_add_X0 hown hE.1 hP 0 rfl rfl 4 (by decide) (hts (.fieldLink RX0 24 "NeedleHouse$Measures" "size" "I") (by decide +kernel)) (fun _ h9 => h9) rfl dX0_add_79 ?_
  refine lv_iconst (v := 1) hx hb dX0_add_82 (by decide) ?_
  refine lv_iadd hx hb dX0_add_83 ?_
  refine lv_topi (fun x13 ex13 => ?_)
  have hF := bn_as ex13 hF
  refine va_put (D := D) (ci := 0) (v := .int x13) (ty := .int) (C := RX0) (T := TX0) (N := 5) hx hb hts i_X0_add_X0 tyX0 tyX0_ok nmX0 hown hE.1 hP hD hS 0 rfl rfl 4 (by decide) (hts (.fieldLink RX0 24 "NeedleHouse$Measures" "size" "I") (by decide +kernel)) (fun _ h9 => h9) rfl (by decide +kernel) rfl rfl (Nat.le_of_ble_eq_true rfl) dX0_add_84 (fun H locs hP hD hS => ?_)
  have hP : va_P D vwCl (W_4 ct q_t q_t_times q_t_means q_t_lefts q_t_ends x13 f6 f8 f10 f12) H := hP
  have hD : va_D A (W_4 ct q_t q_t_times q_t_means q_t_lefts q_t_ends x13 f6 f8 f10 f12) := hD
  refine lv_aload_n hx hb dX0_add_87 rfl (lv_at hl 0 rfl) ?_
  refine va_get (D := D) (ci := 0) (v := .int x13) (C := RX0) (T := TX0) (N := 5) hx hb hts i_X0_add_X0 hown hE.1 hP 0 rfl rfl 4 (by decide) (hts (.fieldLink RX0 24 "NeedleHouse$Measures" "size" "I") (by decide +kernel)) (fun _ h9 => h9) rfl dX0_add_88 ?_
  refine lv_iconst (v := 1) hx hb dX0_add_91 (by decide) ?_
  refine lv_isub hx hb dX0_add_92 ?_
  obtain ⟨rfl, rfl, rfl, rfl, rfl, rfl⟩ := in6 hF
  exact W.iret hx hb hr (fun t ht hW => ⟨⟨_, (), rfl, rfl, vaP_at ht hP⟩, hS.F ht⟩) hS.2.2 dX0_add_93
set_option maxHeartbeats 4000000 in
set_option maxRecDepth 100000 in
theorem met_X0_add (l : Launch) (D : va_G) (ct : Nat → ClassId) (q_t : Nat) (q_t_times : Nat) (q_t_means : Nat) (q_t_lefts : Nat) (q_t_ends : Nat) (sz : Nat) (t_size : Int32) (t_times : Nat → Int32) (t_means : Nat → Int32) (t_lefts : Nat → Int32) (t_ends : Nat → Int32) (p1 : Int32) (p2 : Int32) (p3 : Int32) (p4 : Int32) (n : Nat) (o_r : Int32) (o_t_size : Int32) (o_t_times : Nat → Int32) (o_t_means : Nat → Int32) (o_t_lefts : Nat → Int32) (o_t_ends : Nat → Int32) (hF : FX0_add n t_size t_times t_means t_lefts t_ends p1 p2 p3 p4 = some (o_r, o_t_size, o_t_times, o_t_means, o_t_lefts, o_t_ends)) : Met l yX0_add wsX0_add ({ frames := 0, cells := 0, slots := 0, locals := 0 } : Room) (va_Pc [.ref q_t, .int p1, .int p2, .int p3, .int p4] (pre_ D ct sz (W_4 ct q_t q_t_times q_t_means q_t_lefts q_t_ends t_size t_times t_means t_lefts t_ends))) (va_Qi (fun r (_ : Unit) => r = o_r) (fun _ t => va_P D vwCl (W_4 ct q_t q_t_times q_t_means q_t_lefts q_t_ends o_t_size o_t_times o_t_means o_t_lefts o_t_ends) t.heap) (va_A (W_4 ct q_t q_t_times q_t_means q_t_lefts q_t_ends t_size t_times t_means t_lefts t_ends) sz)) 0 0 (va_A (W_4 ct q_t q_t_times q_t_means q_t_lefts q_t_ends t_size t_times t_means t_lefts t_ends) sz) := by
  refine Met.ofW (cc := cX0_add) (maxL := 5) (ret := (some .int)) (by decide) rfl ?_
  intro p e s m args below meth c s₁ B hml hv
  obtain ⟨rfl, hsz, hP, hE, hD0⟩ := hv
  have hx := B.exec
  have hb := B.bytes
  have hr := B.returns
  have hts := atoms_spec (ws := wsX0_add) B.pre
  have hown : s.vm.findClass RX0 = some m.cls := findClass_of_methodNamed B.named
  have hlocks := B.notSynchronized
  subst hsz
  have hD := hD0.self (sz := s.heap.size)
  generalize hAe : va_A (W_4 ct q_t q_t_times q_t_means q_t_lefts q_t_ends t_size t_times t_means t_lefts t_ends) s.heap.size = A at hD ⊢
  have hA : ∀ q : Nat, s.heap.size ≤ q → A q := fun q h => by rw [← hAe]; exact Or.inr h
  have hl := lv_entry ([.ref q_t, .int p1, .int p2, .int p3, .int p4]) (n := 5) (Nat.le_of_ble_eq_true rfl)
  rw [lg_entry_eq]
  generalize (lg_sl ([.ref q_t, .int p1, .int p2, .int p3, .int p4]) ++ List.replicate (5 - (lg_sl ([.ref q_t, .int p1, .int p2, .int p3, .int p4])).length) Slot.unset).toArray = ls at hl ⊢
  have hl : lv_has ls 5 [(0, .ref q_t), (1, .int p1), (2, .int p2), (3, .int p3), (4, .int p4)] := hl
  have C0 : Cx RX0 cX0_add 5 (some .int) wsX0_add D ct A p s m ([.ref q_t, .int p1, .int p2, .int p3, .int p4]).toArray meth c := ⟨hx, hb, hml, hown, hts, hr, hlocks, hE, hA⟩
  have hS : ∀ H : Heap, s.heap = H → va_S A s.heap H [] := fun H h => h ▸ va_S.rf
  generalize hH : s.heap = H at hP ⊢
  have hS := hS H hH
  unfold FX0_add at hF
  refine lv_aload_n hx hb dX0_add_0 rfl (lv_at hl 0 rfl) ?_
  refine va_get (D := D) (ci := 0) (v := .int t_size) (C := RX0) (T := TX0) (N := 5) hx hb hts i_X0_add_X0 hown hE.1 hP 0 rfl rfl 4 (by decide) (hts (.fieldLink RX0 24 "NeedleHouse$Measures" "size" "I") (by decide +kernel)) (fun _ h9 => h9) rfl dX0_add_1 ?_
  refine lv_bipush (v := 20) hx hb dX0_add_4 (by decide) ?_
  refine lv_icmp_lt (tgt := 11) hx hb dX0_add_6 (by decide) (fun c1 => ?_) (fun c1 => ?_)
  · have hF := ifT c1 hF
    refine lv_aload_n hx hb dX0_add_11 rfl (lv_at hl 0 rfl) ?_
    refine va_get (D := D) (ci := 0) (v := .int t_size) (C := RX0) (T := TX0) (N := 5) hx hb hts i_X0_add_X0 hown hE.1 hP 0 rfl rfl 4 (by decide) (hts (.fieldLink RX0 24 "NeedleHouse$Measures" "size" "I") (by decide +kernel)) (fun _ h9 => h9) rfl dX0_add_12 ?_
    refine lv_if_le (tgt := 36) hx hb dX0_add_15 (by decide) (fun c2 => ?_) (fun c2 => ?_)
    · have hF := ifT c2 hF
      exact jX0_add_36 C0 n t_size t_times t_means t_lefts t_ends p1 p2 p3 p4 _ _ _ hF hP hD hS (lv_sub hl [0, 1, 2, 3, 4] rfl)
    · have hF := ifF c2 hF
      refine lv_aload_n hx hb dX0_add_18 rfl (lv_at hl 0 rfl) ?_
      refine va_get (D := D) (ci := 0) (v := .ref q_t_times) (C := RX0) (T := TX0) (N := 5) hx hb hts i_X0_add_X0 hown hE.1 hP 0 rfl rfl 0 (by decide) (hts (.fieldLink RX0 9 "NeedleHouse$Measures" "times" "[I") (by decide +kernel)) (fun _ h9 => h9) rfl dX0_add_19 ?_
      refine lv_aload_n hx hb dX0_add_22 rfl (lv_at hl 0 rfl) ?_
      refine va_get (D := D) (ci := 0) (v := .int t_size) (C := RX0) (T := TX0) (N := 5) hx hb hts i_X0_add_X0 hown hE.1 hP 0 rfl rfl 4 (by decide) (hts (.fieldLink RX0 24 "NeedleHouse$Measures" "size" "I") (by decide +kernel)) (fun _ h9 => h9) rfl dX0_add_23 ?_
      refine lv_iconst (v := 1) hx hb dX0_add_26 (by decide) ?_
      refine lv_isub hx hb dX0_add_27 ?_
      obtain ⟨h3, hF⟩ := gd_ex hF
      refine va_iald hx hb hE.1 hP 1 0 rfl rfl h3 dX0_add_28 ?_
      refine lv_iload_n hx hb dX0_add_29 rfl (lv_at hl 1 rfl) ?_
      refine lv_icmp_lt (tgt := 36) hx hb dX0_add_30 (by decide) (fun c4 => ?_) (fun c4 => ?_)
      · have hF := ifT c4 hF
        exact jX0_add_36 C0 n t_size t_times t_means t_lefts t_ends p1 p2 p3 p4 _ _ _ hF hP hD hS (lv_sub hl [0, 1, 2, 3, 4] rfl)
      · have hF := ifF c4 hF
        refine lv_bipush (v := (-2)) hx hb dX0_add_33 (by decide) ?_
        obtain ⟨rfl, rfl, rfl, rfl, rfl, rfl⟩ := in6 hF
        exact W.iret hx hb hr (fun t ht hW => ⟨⟨_, (), rfl, rfl, vaP_at ht hP⟩, hS.F ht⟩) hS.2.2 dX0_add_35
  · have hF := ifF c1 hF
    refine lv_iconst (v := (-1)) hx hb dX0_add_9 (by decide) ?_
    obtain ⟨rfl, rfl, rfl, rfl, rfl, rfl⟩ := in6 hF
    exact W.iret hx hb hr (fun t ht hW => ⟨⟨_, (), rfl, rfl, vaP_at ht hP⟩, hS.F ht⟩) hS.2.2 dX0_add_10
/-! NeedleHouse$Measures.tell(II)I -/
theorem i_X0_tell_X0 : ∀ w ∈ wsX00, w ∈ wsX0_tell := by decide +kernel
set_option maxHeartbeats 4000000 in
set_option maxRecDepth 100000 in
theorem met_X0_tell (l : Launch) (D : va_G) (ct : Nat → ClassId) (q_t : Nat) (q_t_times : Nat) (q_t_means : Nat) (q_t_lefts : Nat) (q_t_ends : Nat) (sz : Nat) (t_size : Int32) (t_times : Nat → Int32) (t_means : Nat → Int32) (t_lefts : Nat → Int32) (t_ends : Nat → Int32) (p1 : Int32) (p2 : Int32) (n : Nat) (o_r : Int32) (hF : FX0_tell n t_size t_times t_means t_lefts t_ends p1 p2 = some (o_r)) : Met l yX0_tell wsX0_tell ({ frames := 0, cells := 0, slots := 0, locals := 0 } : Room) (va_Pc [.ref q_t, .int p1, .int p2] (pre_ D ct sz (W_4 ct q_t q_t_times q_t_means q_t_lefts q_t_ends t_size t_times t_means t_lefts t_ends))) (va_Qi (fun r (_ : Unit) => r = o_r) (fun _ t => va_P D vwCl (W_4 ct q_t q_t_times q_t_means q_t_lefts q_t_ends t_size t_times t_means t_lefts t_ends) t.heap) (va_A (W_4 ct q_t q_t_times q_t_means q_t_lefts q_t_ends t_size t_times t_means t_lefts t_ends) sz)) 0 0 (va_A (W_4 ct q_t q_t_times q_t_means q_t_lefts q_t_ends t_size t_times t_means t_lefts t_ends) sz) := by
  refine Met.ofW (cc := cX0_tell) (maxL := 3) (ret := (some .int)) (by decide) rfl ?_
  intro p e s m args below meth c s₁ B hml hv
  obtain ⟨rfl, hsz, hP, hE, hD0⟩ := hv
  have hx := B.exec
  have hb := B.bytes
  have hr := B.returns
  have hts := atoms_spec (ws := wsX0_tell) B.pre
  have hown : s.vm.findClass RX0 = some m.cls := findClass_of_methodNamed B.named
  have hlocks := B.notSynchronized
  subst hsz
  have hD := hD0.self (sz := s.heap.size)
  generalize hAe : va_A (W_4 ct q_t q_t_times q_t_means q_t_lefts q_t_ends t_size t_times t_means t_lefts t_ends) s.heap.size = A at hD ⊢
  have hA : ∀ q : Nat, s.heap.size ≤ q → A q := fun q h => by rw [← hAe]; exact Or.inr h
  have hl := lv_entry ([.ref q_t, .int p1, .int p2]) (n := 3) (Nat.le_of_ble_eq_true rfl)
  rw [lg_entry_eq]
  generalize (lg_sl ([.ref q_t, .int p1, .int p2]) ++ List.replicate (3 - (lg_sl ([.ref q_t, .int p1, .int p2])).length) Slot.unset).toArray = ls at hl ⊢
  have hl : lv_has ls 3 [(0, .ref q_t), (1, .int p1), (2, .int p2)] := hl
  have C0 : Cx RX0 cX0_tell 3 (some .int) wsX0_tell D ct A p s m ([.ref q_t, .int p1, .int p2]).toArray meth c := ⟨hx, hb, hml, hown, hts, hr, hlocks, hE, hA⟩
  have hS : ∀ H : Heap, s.heap = H → va_S A s.heap H [] := fun H h => h ▸ va_S.rf
  generalize hH : s.heap = H at hP ⊢
  have hS := hS H hH
  unfold FX0_tell at hF
  refine lv_iload_n hx hb dX0_tell_0 rfl (lv_at hl 1 rfl) ?_
  refine lv_if_lt (tgt := 12) hx hb dX0_tell_1 (by decide) (fun c1 => ?_) (fun c1 => ?_)
  · have hF := ifT c1 hF
    refine lv_ldc hx hb hown (hts (.constant RX0 28 (-2000000000)) (by decide +kernel)) dX0_tell_12 ?_
    obtain rfl := Option.some.inj hF
    exact W.iret hx hb hr (fun t ht hW => ⟨⟨_, (), rfl, rfl, vaP_at ht hP⟩, hS.F ht⟩) hS.2.2 dX0_tell_14
  · have hF := ifF c1 hF
    refine lv_iload_n hx hb dX0_tell_4 rfl (lv_at hl 1 rfl) ?_
    refine lv_aload_n hx hb dX0_tell_5 rfl (lv_at hl 0 rfl) ?_
    refine va_get (D := D) (ci := 0) (v := .int t_size) (C := RX0) (T := TX0) (N := 5) hx hb hts i_X0_tell_X0 hown hE.1 hP 0 rfl rfl 4 (by decide) (hts (.fieldLink RX0 24 "NeedleHouse$Measures" "size" "I") (by decide +kernel)) (fun _ h9 => h9) rfl dX0_tell_6 ?_
    refine lv_icmp_lt (tgt := 15) hx hb dX0_tell_9 (by decide) (fun c2 => ?_) (fun c2 => ?_)
    · have hF := ifT c2 hF
      refine lv_iload_n hx hb dX0_tell_15 rfl (lv_at hl 2 rfl) ?_
      by_cases c3 : p2 = 0
      · have hF := ifT c3 hF
        refine lv_tableIn (off := 32) (tgt := 48) hx hb dX0_tell_16 (by rw [c3]; decide) (by rw [c3]; decide) (by rw [c3]; decide) (by decide) ?_
        refine lv_aload_n hx hb dX0_tell_48 rfl (lv_at hl 0 rfl) ?_
        refine va_get (D := D) (ci := 0) (v := .ref q_t_times) (C := RX0) (T := TX0) (N := 5) hx hb hts i_X0_tell_X0 hown hE.1 hP 0 rfl rfl 0 (by decide) (hts (.fieldLink RX0 9 "NeedleHouse$Measures" "times" "[I") (by decide +kernel)) (fun _ h9 => h9) rfl dX0_tell_49 ?_
        refine lv_iload_n hx hb dX0_tell_52 rfl (lv_at hl 1 rfl) ?_
        obtain ⟨h4, hF⟩ := gd_ex hF
        refine va_iald hx hb hE.1 hP 1 0 rfl rfl h4 dX0_tell_53 ?_
        obtain rfl := Option.some.inj hF
        exact W.iret hx hb hr (fun t ht hW => ⟨⟨_, (), rfl, rfl, vaP_at ht hP⟩, hS.F ht⟩) hS.2.2 dX0_tell_54
      have hF := ifF c3 hF
      by_cases c5 : p2 = 1
      · have hF := ifT c5 hF
        refine lv_tableIn (off := 39) (tgt := 55) hx hb dX0_tell_16 (by rw [c5]; decide) (by rw [c5]; decide) (by rw [c5]; decide) (by decide) ?_
        refine lv_aload_n hx hb dX0_tell_55 rfl (lv_at hl 0 rfl) ?_
        refine va_get (D := D) (ci := 0) (v := .ref q_t_means) (C := RX0) (T := TX0) (N := 5) hx hb hts i_X0_tell_X0 hown hE.1 hP 0 rfl rfl 1 (by decide) (hts (.fieldLink RX0 15 "NeedleHouse$Measures" "means" "[I") (by decide +kernel)) (fun _ h9 => h9) rfl dX0_tell_56 ?_
        refine lv_iload_n hx hb dX0_tell_59 rfl (lv_at hl 1 rfl) ?_
        obtain ⟨h6, hF⟩ := gd_ex hF
        refine va_iald hx hb hE.1 hP 2 0 rfl rfl h6 dX0_tell_60 ?_
        obtain rfl := Option.some.inj hF
        exact W.iret hx hb hr (fun t ht hW => ⟨⟨_, (), rfl, rfl, vaP_at ht hP⟩, hS.F ht⟩) hS.2.2 dX0_tell_61
      have hF := ifF c5 hF
      by_cases c7 : p2 = 2
      · have hF := ifT c7 hF
        refine lv_tableIn (off := 46) (tgt := 62) hx hb dX0_tell_16 (by rw [c7]; decide) (by rw [c7]; decide) (by rw [c7]; decide) (by decide) ?_
        refine lv_aload_n hx hb dX0_tell_62 rfl (lv_at hl 0 rfl) ?_
        refine va_get (D := D) (ci := 0) (v := .ref q_t_lefts) (C := RX0) (T := TX0) (N := 5) hx hb hts i_X0_tell_X0 hown hE.1 hP 0 rfl rfl 2 (by decide) (hts (.fieldLink RX0 18 "NeedleHouse$Measures" "lefts" "[I") (by decide +kernel)) (fun _ h9 => h9) rfl dX0_tell_63 ?_
        refine lv_iload_n hx hb dX0_tell_66 rfl (lv_at hl 1 rfl) ?_
        obtain ⟨h8, hF⟩ := gd_ex hF
        refine va_iald hx hb hE.1 hP 3 0 rfl rfl h8 dX0_tell_67 ?_
        obtain rfl := Option.some.inj hF
        exact W.iret hx hb hr (fun t ht hW => ⟨⟨_, (), rfl, rfl, vaP_at ht hP⟩, hS.F ht⟩) hS.2.2 dX0_tell_68
      have hF := ifF c7 hF
      by_cases c9 : p2 = 3
      · have hF := ifT c9 hF
        refine lv_tableIn (off := 53) (tgt := 69) hx hb dX0_tell_16 (by rw [c9]; decide) (by rw [c9]; decide) (by rw [c9]; decide) (by decide) ?_
        refine lv_aload_n hx hb dX0_tell_69 rfl (lv_at hl 0 rfl) ?_
        refine va_get (D := D) (ci := 0) (v := .ref q_t_ends) (C := RX0) (T := TX0) (N := 5) hx hb hts i_X0_tell_X0 hown hE.1 hP 0 rfl rfl 3 (by decide) (hts (.fieldLink RX0 21 "NeedleHouse$Measures" "ends" "[I") (by decide +kernel)) (fun _ h9 => h9) rfl dX0_tell_70 ?_
        refine lv_iload_n hx hb dX0_tell_73 rfl (lv_at hl 1 rfl) ?_
        obtain ⟨h10, hF⟩ := gd_ex hF
        refine va_iald hx hb hE.1 hP 4 0 rfl rfl h10 dX0_tell_74 ?_
        obtain rfl := Option.some.inj hF
        exact W.iret hx hb hr (fun t ht hW => ⟨⟨_, (), rfl, rfl, vaP_at ht hP⟩, hS.F ht⟩) hS.2.2 dX0_tell_75
      have hF := ifF c9 hF
      refine lv_tableOut (tgt := 76) hx hb dX0_tell_16 (tsw4 c3 c5 c7 c9) (by decide) ?_
      refine lv_ldc hx hb hown (hts (.constant RX0 28 (-2000000000)) (by decide +kernel)) dX0_tell_76 ?_
      obtain rfl := Option.some.inj hF
      exact W.iret hx hb hr (fun t ht hW => ⟨⟨_, (), rfl, rfl, vaP_at ht hP⟩, hS.F ht⟩) hS.2.2 dX0_tell_78
    · have hF := ifF c2 hF
      refine lv_ldc hx hb hown (hts (.constant RX0 28 (-2000000000)) (by decide +kernel)) dX0_tell_12 ?_
      obtain rfl := Option.some.inj hF
      exact W.iret hx hb hr (fun t ht hW => ⟨⟨_, (), rfl, rfl, vaP_at ht hP⟩, hS.F ht⟩) hS.2.2 dX0_tell_14
def W_5 (ct : Nat → ClassId) (a0 a1 : Nat) (v0 : Int32) : va_W := [(a0, .inr (5, [.ref a1, .int v0]))]
/-! NeedleHouse$Tape.size()I -/
theorem i_X5_size_X5 : ∀ w ∈ wsX50, w ∈ wsX5_size := by decide +kernel
set_option maxHeartbeats 4000000 in
set_option maxRecDepth 100000 in
theorem met_X5_size (l : Launch) (D : va_G) (ct : Nat → ClassId) (q_t : Nat) (q_t_bytes : Nat) (sz : Nat) (t_size : Int32) (n : Nat) (o_r : Int32) (hF : FX5_size n t_size = some (o_r)) : Met l yX5_size wsX5_size ({ frames := 0, cells := 0, slots := 0, locals := 0 } : Room) (va_Pc [.ref q_t] (pre_ D ct sz (W_5 ct q_t q_t_bytes t_size))) (va_Qi (fun r (_ : Unit) => r = o_r) (fun _ t => va_P D vwCl (W_5 ct q_t q_t_bytes t_size) t.heap) (va_A (W_5 ct q_t q_t_bytes t_size) sz)) 0 0 (va_A (W_5 ct q_t q_t_bytes t_size) sz) := by
  refine Met.ofW (cc := cX5_size) (maxL := 1) (ret := (some .int)) (by decide) rfl ?_
  intro p e s m args below meth c s₁ B hml hv
  obtain ⟨rfl, hsz, hP, hE, hD0⟩ := hv
  have hx := B.exec
  have hb := B.bytes
  have hr := B.returns
  have hts := atoms_spec (ws := wsX5_size) B.pre
  have hown : s.vm.findClass RX5 = some m.cls := findClass_of_methodNamed B.named
  have hlocks := B.notSynchronized
  subst hsz
  have hD := hD0.self (sz := s.heap.size)
  generalize hAe : va_A (W_5 ct q_t q_t_bytes t_size) s.heap.size = A at hD ⊢
  have hA : ∀ q : Nat, s.heap.size ≤ q → A q := fun q h => by rw [← hAe]; exact Or.inr h
  have hl := lv_entry ([.ref q_t]) (n := 1) (Nat.le_of_ble_eq_true rfl)
  rw [lg_entry_eq]
  generalize (lg_sl ([.ref q_t]) ++ List.replicate (1 - (lg_sl ([.ref q_t])).length) Slot.unset).toArray = ls at hl ⊢
  have hl : lv_has ls 1 [(0, .ref q_t)] := hl
  have C0 : Cx RX5 cX5_size 1 (some .int) wsX5_size D ct A p s m ([.ref q_t]).toArray meth c := ⟨hx, hb, hml, hown, hts, hr, hlocks, hE, hA⟩
  have hS : ∀ H : Heap, s.heap = H → va_S A s.heap H [] := fun H h => h ▸ va_S.rf
  generalize hH : s.heap = H at hP ⊢
  have hS := hS H hH
  unfold FX5_size at hF
  refine lv_aload_n hx hb dX5_size_0 rfl (lv_at hl 0 rfl) ?_
  refine va_get (D := D) (ci := 5) (v := .int t_size) (C := RX5) (T := TX5) (N := 2) hx hb hts i_X5_size_X5 hown hE.1 hP 0 rfl rfl 1 (by decide) (hts (.fieldLink RX5 15 "NeedleHouse$Tape" "size" "I") (by decide +kernel)) (fun _ h9 => h9) rfl dX5_size_1 ?_
  obtain rfl := Option.some.inj hF
  exact W.iret hx hb hr (fun t ht hW => ⟨⟨_, (), rfl, rfl, vaP_at ht hP⟩, hS.F ht⟩) hS.2.2 dX5_size_4
def W_6 (ct : Nat → ClassId) (a0 a1 : Nat) (v0 : Int32) (v1 : Nat → Int32) : va_W := [(a0, .inr (5, [.ref a1, .int v0])), (a1, .inl (ct 0, 300, .inl v1))]
/-! NeedleHouse$Tape.hasRoom(I)Z -/
theorem i_X5_hasRoom_X5 : ∀ w ∈ wsX50, w ∈ wsX5_hasRoom := by decide +kernel
set_option maxHeartbeats 4000000 in
set_option maxRecDepth 100000 in
theorem met_X5_hasRoom (l : Launch) (D : va_G) (ct : Nat → ClassId) (q_t : Nat) (q_t_bytes : Nat) (sz : Nat) (t_size : Int32) (t_bytes : Nat → Int32) (p1 : Int32) (n : Nat) (o_r : Int32) (hF : FX5_hasRoom n t_size p1 = some (o_r)) : Met l yX5_hasRoom wsX5_hasRoom ({ frames := 0, cells := 0, slots := 0, locals := 0 } : Room) (va_Pc [.ref q_t, .int p1] (pre_ D ct sz (W_6 ct q_t q_t_bytes t_size t_bytes))) (va_Qi (fun r (_ : Unit) => r = o_r) (fun _ t => va_P D vwCl (W_6 ct q_t q_t_bytes t_size t_bytes) t.heap) (va_A (W_6 ct q_t q_t_bytes t_size t_bytes) sz)) 0 0 (va_A (W_6 ct q_t q_t_bytes t_size t_bytes) sz) := by
  refine Met.ofW (cc := cX5_hasRoom) (maxL := 2) (ret := (some .boolean)) (by decide) rfl ?_
  intro p e s m args below meth c s₁ B hml hv
  obtain ⟨rfl, hsz, hP, hE, hD0⟩ := hv
  have hx := B.exec
  have hb := B.bytes
  have hr := B.returns
  have hts := atoms_spec (ws := wsX5_hasRoom) B.pre
  have hown : s.vm.findClass RX5 = some m.cls := findClass_of_methodNamed B.named
  have hlocks := B.notSynchronized
  subst hsz
  have hD := hD0.self (sz := s.heap.size)
  generalize hAe : va_A (W_6 ct q_t q_t_bytes t_size t_bytes) s.heap.size = A at hD ⊢
  have hA : ∀ q : Nat, s.heap.size ≤ q → A q := fun q h => by rw [← hAe]; exact Or.inr h
  have hl := lv_entry ([.ref q_t, .int p1]) (n := 2) (Nat.le_of_ble_eq_true rfl)
  rw [lg_entry_eq]
  generalize (lg_sl ([.ref q_t, .int p1]) ++ List.replicate (2 - (lg_sl ([.ref q_t, .int p1])).length) Slot.unset).toArray = ls at hl ⊢
  have hl : lv_has ls 2 [(0, .ref q_t), (1, .int p1)] := hl
  have C0 : Cx RX5 cX5_hasRoom 2 (some .boolean) wsX5_hasRoom D ct A p s m ([.ref q_t, .int p1]).toArray meth c := ⟨hx, hb, hml, hown, hts, hr, hlocks, hE, hA⟩
  have hS : ∀ H : Heap, s.heap = H → va_S A s.heap H [] := fun H h => h ▸ va_S.rf
  generalize hH : s.heap = H at hP ⊢
  have hS := hS H hH
  unfold FX5_hasRoom at hF
  refine lv_aload_n hx hb dX5_hasRoom_0 rfl (lv_at hl 0 rfl) ?_
  refine va_get (D := D) (ci := 5) (v := .int t_size) (C := RX5) (T := TX5) (N := 2) hx hb hts i_X5_hasRoom_X5 hown hE.1 hP 0 rfl rfl 1 (by decide) (hts (.fieldLink RX5 15 "NeedleHouse$Tape" "size" "I") (by decide +kernel)) (fun _ h9 => h9) rfl dX5_hasRoom_1 ?_
  refine lv_aload_n hx hb dX5_hasRoom_4 rfl (lv_at hl 0 rfl) ?_
  refine va_get (D := D) (ci := 5) (v := .ref q_t_bytes) (C := RX5) (T := TX5) (N := 2) hx hb hts i_X5_hasRoom_X5 hown hE.1 hP 0 rfl rfl 0 (by decide) (hts (.fieldLink RX5 9 "NeedleHouse$Tape" "bytes" "[I") (by decide +kernel)) (fun _ h9 => h9) rfl dX5_hasRoom_5 ?_
  refine va_alen (v := 300) hx hb hE.1 hP 1 0 rfl rfl rfl dX5_hasRoom_8 ?_
  refine lv_iload_n hx hb dX5_hasRoom_9 rfl (lv_at hl 1 rfl) ?_
  refine lv_isub hx hb dX5_hasRoom_10 ?_
  refine lv_icmp_gt (tgt := 18) hx hb dX5_hasRoom_11 (by decide) (fun c1 => ?_) (fun c1 => ?_)
  · have hF := ifT c1 hF
    refine lv_iconst (v := 0) hx hb dX5_hasRoom_18 (by decide) ?_
    obtain rfl := Option.some.inj hF
    exact W.zret hx hb hr rfl (fun t ht hW => ⟨⟨_, (), rfl, rfl, vaP_at ht hP⟩, hS.F ht⟩) hS.2.2 dX5_hasRoom_19
  · have hF := ifF c1 hF
    refine lv_iconst (v := 1) hx hb dX5_hasRoom_14 (by decide) ?_
    refine lv_goto (tgt := 19) hx hb dX5_hasRoom_15 (by decide) ?_
    obtain rfl := Option.some.inj hF
    exact W.zret hx hb hr rfl (fun t ht hW => ⟨⟨_, (), rfl, rfl, vaP_at ht hP⟩, hS.F ht⟩) hS.2.2 dX5_hasRoom_19
/-! NeedleHouse$Tape.put(I)V -/
theorem i_X5_put_X5 : ∀ w ∈ wsX50, w ∈ wsX5_put := by decide +kernel
set_option maxHeartbeats 4000000 in
set_option maxRecDepth 100000 in
theorem jX5_put_3 {p : Program} {l : Launch} {e : Env} {s : State} {m : MethodId} {args : Array Value} {below : List Frame} {meth : Method} {c : Code} {D : va_G} {ct : Nat → ClassId} {A : Nat → Prop} {q_t q_t_bytes : Nat} {o_t_size : Int32} {o_t_bytes : Nat → Int32} (C0 : Cx RX5 cX5_put 3 none wsX5_put D ct A p s m args meth c) (k3 : Int32 → (Nat → Int32) → Int32 → Int32 → Option (Int32 × (Nat → Int32))) (hk3 : ∀ (t_size : Int32) (t_bytes : Nat → Int32) (x_1 : Int32) (x_2 : Int32) (H : Heap) (locs : List Loc) (ls : Array Slot), k3 t_size t_bytes x_1 x_2 = some (o_t_size, o_t_bytes) → va_P D vwCl (W_6 ct q_t q_t_bytes t_size t_bytes) H → va_D A (W_6 ct q_t q_t_bytes t_size t_bytes) → va_S A s.heap H locs → lv_has ls 3 [(0, .ref q_t), (1, .int x_1), (2, .int x_2)] → W p l e ({ frames := 0, cells := 0, slots := 0, locals := 0 } : Room) s m args below meth c H locs 0 0 (MQ below (va_Qv (fun (_ : Unit) => True) (fun _ t => va_P D vwCl (W_6 ct q_t q_t_bytes o_t_size o_t_bytes) t.heap) A) args s 0 0 A) (F0 m 3 ls [])) (n : Nat) (t_size : Int32) (t_bytes : Nat → Int32) (x_1 : Int32) (x_2 : Int32) (H : Heap) (locs : List Loc) (ls : Array Slot) : JX5_put_3 k3 n t_size t_bytes x_1 x_2 = some (o_t_size, o_t_bytes) → va_P D vwCl (W_6 ct q_t q_t_bytes t_size t_bytes) H → va_D A (W_6 ct q_t q_t_bytes t_size t_bytes) → va_S A s.heap H locs → lv_has ls 3 [(0, .ref q_t), (1, .int x_1), (2, .int x_2)] → W p l e ({ frames := 0, cells := 0, slots := 0, locals := 0 } : Room) s m args below meth c H locs 0 0 (MQ below (va_Qv (fun (_ : Unit) => True) (fun _ t => va_P D vwCl (W_6 ct q_t q_t_bytes o_t_size o_t_bytes) t.heap) A) args s 0 0 A) (F0 m 3 ls []) := by
  intro hF hP hD hS hl
  obtain ⟨hx, hb, hml, hown, hts, hr, hlocks, hE, hA⟩ := id C0
  unfold JX5_put_3 at hF
  refine lv_iload_n hx hb dX5_put_3 rfl (lv_at hl 2 rfl) ?_
  refine lv_if_lt (tgt := 51) hx hb dX5_put_4 (by decide) (fun c1 => ?_) (fun c1 => ?_)
  · have hF := ifT c1 hF
    obtain ⟨rfl, rfl⟩ := in2 hF
    exact W.vret hx hb hr (fun t ht hW => ⟨⟨(), rfl, trivial, vaP_at ht hP⟩, hS.F ht⟩) hS.2.2 dX5_put_51
  · have hF := ifF c1 hF
    refine lv_aload_n hx hb dX5_put_7 rfl (lv_at hl 0 rfl) ?_
    refine va_get (D := D) (ci := 5) (v := .int t_size) (C := RX5) (T := TX5) (N := 2) hx hb hts i_X5_put_X5 hown hE.1 hP 0 rfl rfl 1 (by decide) (hts (.fieldLink RX5 15 "NeedleHouse$Tape" "size" "I") (by decide +kernel)) (fun _ h9 => h9) rfl dX5_put_8 ?_
    refine lv_aload_n hx hb dX5_put_11 rfl (lv_at hl 0 rfl) ?_
    refine va_get (D := D) (ci := 5) (v := .ref q_t_bytes) (C := RX5) (T := TX5) (N := 2) hx hb hts i_X5_put_X5 hown hE.1 hP 0 rfl rfl 0 (by decide) (hts (.fieldLink RX5 9 "NeedleHouse$Tape" "bytes" "[I") (by decide +kernel)) (fun _ h9 => h9) rfl dX5_put_12 ?_
    refine va_alen (v := 300) hx hb hE.1 hP 1 0 rfl rfl rfl dX5_put_15 ?_
    refine lv_icmp_ge (tgt := 45) hx hb dX5_put_16 (by decide) (fun c2 => ?_) (fun c2 => ?_)
    · have hF := ifT c2 hF
      obtain ⟨x3, ex3⟩ : ∃ y : Int32, y = x_2 + (-8) := ⟨_, rfl⟩
      refine lv_iinc (v := x3) (lv' := [(2, .int x3), (0, .ref q_t), (1, .int x_1)]) hx hb dX5_put_45 hl (k := 2) rfl (by rw [ex3]; rfl) (by decide) rfl (fun ls hl => ?_)
      have hF := bn_as ex3 hF
      refine lv_goto (tgt := 3) hx hb dX5_put_48 (by decide) ?_
      exact hk3 t_size t_bytes x_1 x3 _ _ _ hF hP hD hS (lv_sub hl [1, 2, 0] rfl)
    · have hF := ifF c2 hF
      refine lv_aload_n hx hb dX5_put_19 rfl (lv_at hl 0 rfl) ?_
      refine va_get (D := D) (ci := 5) (v := .ref q_t_bytes) (C := RX5) (T := TX5) (N := 2) hx hb hts i_X5_put_X5 hown hE.1 hP 0 rfl rfl 0 (by decide) (hts (.fieldLink RX5 9 "NeedleHouse$Tape" "bytes" "[I") (by decide +kernel)) (fun _ h9 => h9) rfl dX5_put_20 ?_
      refine lv_aload_n hx hb dX5_put_23 rfl (lv_at hl 0 rfl) ?_
      refine va_get (D := D) (ci := 5) (v := .int t_size) (C := RX5) (T := TX5) (N := 2) hx hb hts i_X5_put_X5 hown hE.1 hP 0 rfl rfl 1 (by decide) (hts (.fieldLink RX5 15 "NeedleHouse$Tape" "size" "I") (by decide +kernel)) (fun _ h9 => h9) rfl dX5_put_24 ?_
      refine lv_iload_n hx hb dX5_put_27 rfl (lv_at hl 1 rfl) ?_
      refine lv_iload_n hx hb dX5_put_28 rfl (lv_at hl 2 rfl) ?_
      refine lv_iushr hx hb dX5_put_29 rfl ?_
      refine lv_sipush (v := 255) hx hb dX5_put_30 (by decide) ?_
      refine lv_iand hx hb dX5_put_33 ?_
      obtain ⟨h4, hF⟩ := gd_ex hF
      obtain ⟨f5, ef5, hF⟩ := bn_ex hF
      refine va_iast hx hb hE.1 hP hD hS 1 0 rfl rfl h4 dX5_put_34 (fun H locs hP hD hS => ?_)
      have hP : va_P D vwCl (W_6 ct q_t q_t_bytes t_size f5) H := by rw [ef5]; exact hP
      have hD : va_D A (W_6 ct q_t q_t_bytes t_size f5) := by rw [ef5]; exact hD
      refine lv_aload_n hx hb dX5_put_35 rfl (lv_at hl 0 rfl) ?_
      refine lv_dup hx hb dX5_put_36 rfl ?_
      refine va_get (D := D) (ci := 5) (v := .int t_size) (C := RX5) (T := TX5) (N := 2) hx hb hts i_X5_put_X5 hown hE.1 hP 0 rfl rfl 1 (by decide) (hts (.fieldLink RX5 15 "NeedleHouse$Tape" "size" "I") (by decide +kernel)) (fun _ h9 => h9) rfl dX5_put_37 ?_
      refine lv_iconst (v := 1) hx hb dX5_put_40 (by decide) ?_
      refine lv_iadd hx hb dX5_put_41 ?_
      refine lv_topi (fun x6 ex6 => ?_)
      have hF := bn_as ex6 hF
      refine va_put (D := D) (ci := 5) (v := .int x6) (ty := .int) (C := RX5) (T := TX5) (N := 2) hx hb hts i_X5_put_X5 tyX5 tyX5_ok nmX5 hown hE.1 hP hD hS 0 rfl rfl 1 (by decide) (hts (.fieldLink RX5 15 "NeedleHouse$Tape" "size" "I") (by decide +kernel)) (fun _ h9 => h9) rfl (by decide +kernel) rfl rfl (Nat.le_of_ble_eq_true rfl) dX5_put_42 (fun H locs hP hD hS => ?_)
      have hP : va_P D vwCl (W_6 ct q_t q_t_bytes x6 f5) H := hP
      have hD : va_D A (W_6 ct q_t q_t_bytes x6 f5) := hD
      obtain ⟨x7, ex7⟩ : ∃ y : Int32, y = x_2 + (-8) := ⟨_, rfl⟩
      refine lv_iinc (v := x7) (lv' := [(2, .int x7), (0, .ref q_t), (1, .int x_1)]) hx hb dX5_put_45 hl (k := 2) rfl (by rw [ex7]; rfl) (by decide) rfl (fun ls hl => ?_)
      have hF := bn_as ex7 hF
      refine lv_goto (tgt := 3) hx hb dX5_put_48 (by decide) ?_
      exact hk3 x6 f5 x_1 x7 _ _ _ hF hP hD hS (lv_sub hl [1, 2, 0] rfl)
theorem lX5_put_3 {p : Program} {l : Launch} {e : Env} {s : State} {m : MethodId} {args : Array Value} {below : List Frame} {meth : Method} {c : Code} {D : va_G} {ct : Nat → ClassId} {A : Nat → Prop} {q_t q_t_bytes : Nat} {o_t_size : Int32} {o_t_bytes : Nat → Int32} (C0 : Cx RX5 cX5_put 3 none wsX5_put D ct A p s m args meth c) : ∀ (n : Nat) (t_size : Int32) (t_bytes : Nat → Int32) (x_1 : Int32) (x_2 : Int32) (H : Heap) (locs : List Loc) (ls : Array Slot), LX5_put_3 n t_size t_bytes x_1 x_2 = some (o_t_size, o_t_bytes) → va_P D vwCl (W_6 ct q_t q_t_bytes t_size t_bytes) H → va_D A (W_6 ct q_t q_t_bytes t_size t_bytes) → va_S A s.heap H locs → lv_has ls 3 [(0, .ref q_t), (1, .int x_1), (2, .int x_2)] → W p l e ({ frames := 0, cells := 0, slots := 0, locals := 0 } : Room) s m args below meth c H locs 0 0 (MQ below (va_Qv (fun (_ : Unit) => True) (fun _ t => va_P D vwCl (W_6 ct q_t q_t_bytes o_t_size o_t_bytes) t.heap) A) args s 0 0 A) (F0 m 3 ls []) := by
  intro n
  induction n with
  | zero => intro t_size t_bytes x_1 x_2 H locs ls hF; exact nomatch (show (none : Option (Int32 × (Nat → Int32))) = _ from hF)
  | succ n ih => intro t_size t_bytes x_1 x_2 H locs ls hF; exact jX5_put_3 C0 (LX5_put_3 n) ih n t_size t_bytes x_1 x_2 H locs ls hF
set_option maxHeartbeats 4000000 in
set_option maxRecDepth 100000 in
theorem met_X5_put (l : Launch) (D : va_G) (ct : Nat → ClassId) (q_t : Nat) (q_t_bytes : Nat) (sz : Nat) (t_size : Int32) (t_bytes : Nat → Int32) (p1 : Int32) (n : Nat) (o_t_size : Int32) (o_t_bytes : Nat → Int32) (hF : FX5_put n t_size t_bytes p1 = some (o_t_size, o_t_bytes)) : Met l yX5_put wsX5_put ({ frames := 0, cells := 0, slots := 0, locals := 0 } : Room) (va_Pc [.ref q_t, .int p1] (pre_ D ct sz (W_6 ct q_t q_t_bytes t_size t_bytes))) (va_Qv (fun (_ : Unit) => True) (fun _ t => va_P D vwCl (W_6 ct q_t q_t_bytes o_t_size o_t_bytes) t.heap) (va_A (W_6 ct q_t q_t_bytes t_size t_bytes) sz)) 0 0 (va_A (W_6 ct q_t q_t_bytes t_size t_bytes) sz) := by
  refine Met.ofW (cc := cX5_put) (maxL := 3) (ret := none) (by decide) rfl ?_
  intro p e s m args below meth c s₁ B hml hv
  obtain ⟨rfl, hsz, hP, hE, hD0⟩ := hv
  have hx := B.exec
  have hb := B.bytes
  have hr := B.returns
  have hts := atoms_spec (ws := wsX5_put) B.pre
  have hown : s.vm.findClass RX5 = some m.cls := findClass_of_methodNamed B.named
  have hlocks := B.notSynchronized
  subst hsz
  have hD := hD0.self (sz := s.heap.size)
  generalize hAe : va_A (W_6 ct q_t q_t_bytes t_size t_bytes) s.heap.size = A at hD ⊢
  have hA : ∀ q : Nat, s.heap.size ≤ q → A q := fun q h => by rw [← hAe]; exact Or.inr h
  have hl := lv_entry ([.ref q_t, .int p1]) (n := 3) (Nat.le_of_ble_eq_true rfl)
  rw [lg_entry_eq]
  generalize (lg_sl ([.ref q_t, .int p1]) ++ List.replicate (3 - (lg_sl ([.ref q_t, .int p1])).length) Slot.unset).toArray = ls at hl ⊢
  have hl : lv_has ls 3 [(0, .ref q_t), (1, .int p1)] := hl
  have C0 : Cx RX5 cX5_put 3 none wsX5_put D ct A p s m ([.ref q_t, .int p1]).toArray meth c := ⟨hx, hb, hml, hown, hts, hr, hlocks, hE, hA⟩
  have hS : ∀ H : Heap, s.heap = H → va_S A s.heap H [] := fun H h => h ▸ va_S.rf
  generalize hH : s.heap = H at hP ⊢
  have hS := hS H hH
  unfold FX5_put at hF
  refine lv_bipush (v := 24) hx hb dX5_put_0 (by decide) ?_
  refine lv_istore_n (lv' := [(2, .int 24), (0, .ref q_t), (1, .int p1)]) hx hb dX5_put_2 rfl hl (by decide) rfl (fun ls hl => ?_)
  exact lX5_put_3 C0 n t_size t_bytes p1 24 _ _ _ hF hP hD hS (lv_sub hl [1, 2, 0] rfl)
/-! NeedleHouse$Tape.empty()V -/
theorem i_X5_empty_X5 : ∀ w ∈ wsX50, w ∈ wsX5_empty := by decide +kernel
set_option maxHeartbeats 4000000 in
set_option maxRecDepth 100000 in
theorem met_X5_empty (l : Launch) (D : va_G) (ct : Nat → ClassId) (q_t : Nat) (q_t_bytes : Nat) (sz : Nat) (t_size : Int32) (n : Nat) (o_t_size : Int32) (hF : FX5_empty n t_size = some (o_t_size)) : Met l yX5_empty wsX5_empty ({ frames := 0, cells := 0, slots := 0, locals := 0 } : Room) (va_Pc [.ref q_t] (pre_ D ct sz (W_5 ct q_t q_t_bytes t_size))) (va_Qv (fun (_ : Unit) => True) (fun _ t => va_P D vwCl (W_5 ct q_t q_t_bytes o_t_size) t.heap) (va_A (W_5 ct q_t q_t_bytes t_size) sz)) 0 0 (va_A (W_5 ct q_t q_t_bytes t_size) sz) := by
  refine Met.ofW (cc := cX5_empty) (maxL := 1) (ret := none) (by decide) rfl ?_
  intro p e s m args below meth c s₁ B hml hv
  obtain ⟨rfl, hsz, hP, hE, hD0⟩ := hv
  have hx := B.exec
  have hb := B.bytes
  have hr := B.returns
  have hts := atoms_spec (ws := wsX5_empty) B.pre
  have hown : s.vm.findClass RX5 = some m.cls := findClass_of_methodNamed B.named
  have hlocks := B.notSynchronized
  subst hsz
  have hD := hD0.self (sz := s.heap.size)
  generalize hAe : va_A (W_5 ct q_t q_t_bytes t_size) s.heap.size = A at hD ⊢
  have hA : ∀ q : Nat, s.heap.size ≤ q → A q := fun q h => by rw [← hAe]; exact Or.inr h
  have hl := lv_entry ([.ref q_t]) (n := 1) (Nat.le_of_ble_eq_true rfl)
  rw [lg_entry_eq]
  generalize (lg_sl ([.ref q_t]) ++ List.replicate (1 - (lg_sl ([.ref q_t])).length) Slot.unset).toArray = ls at hl ⊢
  have hl : lv_has ls 1 [(0, .ref q_t)] := hl
  have C0 : Cx RX5 cX5_empty 1 none wsX5_empty D ct A p s m ([.ref q_t]).toArray meth c := ⟨hx, hb, hml, hown, hts, hr, hlocks, hE, hA⟩
  have hS : ∀ H : Heap, s.heap = H → va_S A s.heap H [] := fun H h => h ▸ va_S.rf
  generalize hH : s.heap = H at hP ⊢
  have hS := hS H hH
  unfold FX5_empty at hF
  refine lv_aload_n hx hb dX5_empty_0 rfl (lv_at hl 0 rfl) ?_
  refine lv_iconst (v := 0) hx hb dX5_empty_1 (by decide) ?_
  refine va_put (D := D) (ci := 5) (v := .int 0) (ty := .int) (C := RX5) (T := TX5) (N := 2) hx hb hts i_X5_empty_X5 tyX5 tyX5_ok nmX5 hown hE.1 hP hD hS 0 rfl rfl 1 (by decide) (hts (.fieldLink RX5 15 "NeedleHouse$Tape" "size" "I") (by decide +kernel)) (fun _ h9 => h9) rfl (by decide +kernel) rfl rfl (Nat.le_of_ble_eq_true rfl) dX5_empty_2 (fun H locs hP hD hS => ?_)
  have hP : va_P D vwCl (W_5 ct q_t q_t_bytes 0) H := hP
  have hD : va_D A (W_5 ct q_t q_t_bytes 0) := hD
  obtain rfl := Option.some.inj hF
  exact W.vret hx hb hr (fun t ht hW => ⟨⟨(), rfl, trivial, vaP_at ht hP⟩, hS.F ht⟩) hS.2.2 dX5_empty_5
/-! NeedleHouse$Tape.byteAt(I)I -/
theorem i_X5_byteAt_X5 : ∀ w ∈ wsX50, w ∈ wsX5_byteAt := by decide +kernel
set_option maxHeartbeats 4000000 in
set_option maxRecDepth 100000 in
theorem met_X5_byteAt (l : Launch) (D : va_G) (ct : Nat → ClassId) (q_t : Nat) (q_t_bytes : Nat) (sz : Nat) (t_size : Int32) (t_bytes : Nat → Int32) (p1 : Int32) (n : Nat) (o_r : Int32) (hF : FX5_byteAt n t_size t_bytes p1 = some (o_r)) : Met l yX5_byteAt wsX5_byteAt ({ frames := 0, cells := 0, slots := 0, locals := 0 } : Room) (va_Pc [.ref q_t, .int p1] (pre_ D ct sz (W_6 ct q_t q_t_bytes t_size t_bytes))) (va_Qi (fun r (_ : Unit) => r = o_r) (fun _ t => va_P D vwCl (W_6 ct q_t q_t_bytes t_size t_bytes) t.heap) (va_A (W_6 ct q_t q_t_bytes t_size t_bytes) sz)) 0 0 (va_A (W_6 ct q_t q_t_bytes t_size t_bytes) sz) := by
  refine Met.ofW (cc := cX5_byteAt) (maxL := 2) (ret := (some .int)) (by decide) rfl ?_
  intro p e s m args below meth c s₁ B hml hv
  obtain ⟨rfl, hsz, hP, hE, hD0⟩ := hv
  have hx := B.exec
  have hb := B.bytes
  have hr := B.returns
  have hts := atoms_spec (ws := wsX5_byteAt) B.pre
  have hown : s.vm.findClass RX5 = some m.cls := findClass_of_methodNamed B.named
  have hlocks := B.notSynchronized
  subst hsz
  have hD := hD0.self (sz := s.heap.size)
  generalize hAe : va_A (W_6 ct q_t q_t_bytes t_size t_bytes) s.heap.size = A at hD ⊢
  have hA : ∀ q : Nat, s.heap.size ≤ q → A q := fun q h => by rw [← hAe]; exact Or.inr h
  have hl := lv_entry ([.ref q_t, .int p1]) (n := 2) (Nat.le_of_ble_eq_true rfl)
  rw [lg_entry_eq]
  generalize (lg_sl ([.ref q_t, .int p1]) ++ List.replicate (2 - (lg_sl ([.ref q_t, .int p1])).length) Slot.unset).toArray = ls at hl ⊢
  have hl : lv_has ls 2 [(0, .ref q_t), (1, .int p1)] := hl
  have C0 : Cx RX5 cX5_byteAt 2 (some .int) wsX5_byteAt D ct A p s m ([.ref q_t, .int p1]).toArray meth c := ⟨hx, hb, hml, hown, hts, hr, hlocks, hE, hA⟩
  have hS : ∀ H : Heap, s.heap = H → va_S A s.heap H [] := fun H h => h ▸ va_S.rf
  generalize hH : s.heap = H at hP ⊢
  have hS := hS H hH
  unfold FX5_byteAt at hF
  refine lv_iload_n hx hb dX5_byteAt_0 rfl (lv_at hl 1 rfl) ?_
  refine lv_if_lt (tgt := 12) hx hb dX5_byteAt_1 (by decide) (fun c1 => ?_) (fun c1 => ?_)
  · have hF := ifT c1 hF
    refine lv_iconst (v := (-1)) hx hb dX5_byteAt_12 (by decide) ?_
    obtain rfl := Option.some.inj hF
    exact W.iret hx hb hr (fun t ht hW => ⟨⟨_, (), rfl, rfl, vaP_at ht hP⟩, hS.F ht⟩) hS.2.2 dX5_byteAt_13
  · have hF := ifF c1 hF
    refine lv_iload_n hx hb dX5_byteAt_4 rfl (lv_at hl 1 rfl) ?_
    refine lv_aload_n hx hb dX5_byteAt_5 rfl (lv_at hl 0 rfl) ?_
    refine va_get (D := D) (ci := 5) (v := .int t_size) (C := RX5) (T := TX5) (N := 2) hx hb hts i_X5_byteAt_X5 hown hE.1 hP 0 rfl rfl 1 (by decide) (hts (.fieldLink RX5 15 "NeedleHouse$Tape" "size" "I") (by decide +kernel)) (fun _ h9 => h9) rfl dX5_byteAt_6 ?_
    refine lv_icmp_lt (tgt := 14) hx hb dX5_byteAt_9 (by decide) (fun c2 => ?_) (fun c2 => ?_)
    · have hF := ifT c2 hF
      refine lv_aload_n hx hb dX5_byteAt_14 rfl (lv_at hl 0 rfl) ?_
      refine va_get (D := D) (ci := 5) (v := .ref q_t_bytes) (C := RX5) (T := TX5) (N := 2) hx hb hts i_X5_byteAt_X5 hown hE.1 hP 0 rfl rfl 0 (by decide) (hts (.fieldLink RX5 9 "NeedleHouse$Tape" "bytes" "[I") (by decide +kernel)) (fun _ h9 => h9) rfl dX5_byteAt_15 ?_
      refine lv_iload_n hx hb dX5_byteAt_18 rfl (lv_at hl 1 rfl) ?_
      obtain ⟨h3, hF⟩ := gd_ex hF
      refine va_iald hx hb hE.1 hP 1 0 rfl rfl h3 dX5_byteAt_19 ?_
      obtain rfl := Option.some.inj hF
      exact W.iret hx hb hr (fun t ht hW => ⟨⟨_, (), rfl, rfl, vaP_at ht hP⟩, hS.F ht⟩) hS.2.2 dX5_byteAt_20
    · have hF := ifF c2 hF
      refine lv_iconst (v := (-1)) hx hb dX5_byteAt_12 (by decide) ?_
      obtain rfl := Option.some.inj hF
      exact W.iret hx hb hr (fun t ht hW => ⟨⟨_, (), rfl, rfl, vaP_at ht hP⟩, hS.F ht⟩) hS.2.2 dX5_byteAt_13
def W_7 (ct : Nat → ClassId) (a0 a1 : Nat) (v0 : Int32) : va_W := [(a0, .inr (7, [.ref a1, .int v0]))]
/-! NeedleHouse$Trains.size()I -/
theorem i_X7_size_X7 : ∀ w ∈ wsX70, w ∈ wsX7_size := by decide +kernel
set_option maxHeartbeats 4000000 in
set_option maxRecDepth 100000 in
theorem met_X7_size (l : Launch) (D : va_G) (ct : Nat → ClassId) (q_t : Nat) (q_t_going : Nat) (sz : Nat) (t_size : Int32) (n : Nat) (o_r : Int32) (hF : FX7_size n t_size = some (o_r)) : Met l yX7_size wsX7_size ({ frames := 0, cells := 0, slots := 0, locals := 0 } : Room) (va_Pc [.ref q_t] (pre_ D ct sz (W_7 ct q_t q_t_going t_size))) (va_Qi (fun r (_ : Unit) => r = o_r) (fun _ t => va_P D vwCl (W_7 ct q_t q_t_going t_size) t.heap) (va_A (W_7 ct q_t q_t_going t_size) sz)) 0 0 (va_A (W_7 ct q_t q_t_going t_size) sz) := by
  refine Met.ofW (cc := cX7_size) (maxL := 1) (ret := (some .int)) (by decide) rfl ?_
  intro p e s m args below meth c s₁ B hml hv
  obtain ⟨rfl, hsz, hP, hE, hD0⟩ := hv
  have hx := B.exec
  have hb := B.bytes
  have hr := B.returns
  have hts := atoms_spec (ws := wsX7_size) B.pre
  have hown : s.vm.findClass RX7 = some m.cls := findClass_of_methodNamed B.named
  have hlocks := B.notSynchronized
  subst hsz
  have hD := hD0.self (sz := s.heap.size)
  generalize hAe : va_A (W_7 ct q_t q_t_going t_size) s.heap.size = A at hD ⊢
  have hA : ∀ q : Nat, s.heap.size ≤ q → A q := fun q h => by rw [← hAe]; exact Or.inr h
  have hl := lv_entry ([.ref q_t]) (n := 1) (Nat.le_of_ble_eq_true rfl)
  rw [lg_entry_eq]
  generalize (lg_sl ([.ref q_t]) ++ List.replicate (1 - (lg_sl ([.ref q_t])).length) Slot.unset).toArray = ls at hl ⊢
  have hl : lv_has ls 1 [(0, .ref q_t)] := hl
  have C0 : Cx RX7 cX7_size 1 (some .int) wsX7_size D ct A p s m ([.ref q_t]).toArray meth c := ⟨hx, hb, hml, hown, hts, hr, hlocks, hE, hA⟩
  have hS : ∀ H : Heap, s.heap = H → va_S A s.heap H [] := fun H h => h ▸ va_S.rf
  generalize hH : s.heap = H at hP ⊢
  have hS := hS H hH
  unfold FX7_size at hF
  refine lv_aload_n hx hb dX7_size_0 rfl (lv_at hl 0 rfl) ?_
  refine va_get (D := D) (ci := 7) (v := .int t_size) (C := RX7) (T := TX7) (N := 2) hx hb hts i_X7_size_X7 hown hE.1 hP 0 rfl rfl 1 (by decide) (hts (.fieldLink RX7 15 "NeedleHouse$Trains" "size" "I") (by decide +kernel)) (fun _ h9 => h9) rfl dX7_size_1 ?_
  obtain rfl := Option.some.inj hF
  exact W.iret hx hb hr (fun t ht hW => ⟨⟨_, (), rfl, rfl, vaP_at ht hP⟩, hS.F ht⟩) hS.2.2 dX7_size_4
def W_8 (ct : Nat → ClassId) (a0 a1 : Nat) (v0 : Int32) (v1 : Nat → Int32) : va_W := [(a0, .inr (7, [.ref a1, .int v0])), (a1, .inl (ct 2, 300, .inl v1))]
/-! NeedleHouse$Trains.add(II)I -/
theorem i_X7_add_X7 : ∀ w ∈ wsX70, w ∈ wsX7_add := by decide +kernel
set_option maxHeartbeats 4000000 in
set_option maxRecDepth 100000 in
theorem jX7_add_17 {p : Program} {l : Launch} {e : Env} {s : State} {m : MethodId} {args : Array Value} {below : List Frame} {meth : Method} {c : Code} {D : va_G} {ct : Nat → ClassId} {A : Nat → Prop} {q_t q_t_going : Nat} {o_r : Int32} {o_t_size : Int32} {o_t_going : Nat → Int32} (C0 : Cx RX7 cX7_add 4 (some .int) wsX7_add D ct A p s m args meth c) (k17 : Int32 → (Nat → Int32) → Int32 → Int32 → Int32 → Option (Int32 × Int32 × (Nat → Int32))) (hk17 : ∀ (t_size : Int32) (t_going : Nat → Int32) (x_1 : Int32) (x_2 : Int32) (x_3 : Int32) (H : Heap) (locs : List Loc) (ls : Array Slot), k17 t_size t_going x_1 x_2 x_3 = some (o_r, o_t_size, o_t_going) → va_P D vwCl (W_8 ct q_t q_t_going t_size t_going) H → va_D A (W_8 ct q_t q_t_going t_size t_going) → va_S A s.heap H locs → lv_has ls 4 [(0, .ref q_t), (1, .int x_1), (2, .int x_2), (3, .int x_3)] → W p l e ({ frames := 1, cells := 0, slots := 0, locals := 17 } : Room) s m args below meth c H locs 0 0 (MQ below (va_Qi (fun r (_ : Unit) => r = o_r) (fun _ t => va_P D vwCl (W_8 ct q_t q_t_going o_t_size o_t_going) t.heap) A) args s 0 0 A) (F0 m 17 ls [])) (n : Nat) (t_size : Int32) (t_going : Nat → Int32) (x_1 : Int32) (x_2 : Int32) (x_3 : Int32) (H : Heap) (locs : List Loc) (ls : Array Slot) : JX7_add_17 k17 n t_size t_going x_1 x_2 x_3 = some (o_r, o_t_size, o_t_going) → va_P D vwCl (W_8 ct q_t q_t_going t_size t_going) H → va_D A (W_8 ct q_t q_t_going t_size t_going) → va_S A s.heap H locs → lv_has ls 4 [(0, .ref q_t), (1, .int x_1), (2, .int x_2), (3, .int x_3)] → W p l e ({ frames := 1, cells := 0, slots := 0, locals := 17 } : Room) s m args below meth c H locs 0 0 (MQ below (va_Qi (fun r (_ : Unit) => r = o_r) (fun _ t => va_P D vwCl (W_8 ct q_t q_t_going o_t_size o_t_going) t.heap) A) args s 0 0 A) (F0 m 17 ls []) := by
  intro hF hP hD hS hl
  obtain ⟨hx, hb, hml, hown, hts, hr, hlocks, hE, hA⟩ := id C0
  unfold JX7_add_17 at hF
  refine lv_iload_n hx hb dX7_add_17 rfl (lv_at hl 3 rfl) ?_
  refine lv_aload_n hx hb dX7_add_18 rfl (lv_at hl 0 rfl) ?_
  refine va_get (D := D) (ci := 7) (v := .ref q_t_going) (C := RX7) (T := TX7) (N := 2) hx hb hts i_X7_add_X7 hown hE.1 hP 0 rfl rfl 0 (by decide) (hts (.fieldLink RX7 9 "NeedleHouse$Trains" "going" "[Z") (by decide +kernel)) (fun _ h9 => h9) rfl dX7_add_19 ?_
  refine va_alen (v := 300) hx hb hE.1 hP 1 2 rfl rfl rfl dX7_add_22 ?_
  refine lv_icmp_ge (tgt := 46) hx hb dX7_add_23 (by decide) (fun c3 => ?_) (fun c3 => ?_)
  · have hF := ifT c3 hF
    refine lv_aload_n hx hb dX7_add_46 rfl (lv_at hl 0 rfl) ?_
    refine lv_dup hx hb dX7_add_47 rfl ?_
    refine va_get (D := D) (ci := 7) (v := .int t_size) (C := RX7) (T := TX7) (N := 2) hx hb hts i_X7_add_X7 hown hE.1 hP 0 rfl rfl 1 (by decide) (hts (.fieldLink RX7 15 "NeedleHouse$Trains" "size" "I") (by decide +kernel)) (fun _ h9 => h9) rfl dX7_add_48 ?_
    refine lv_iconst (v := 1) hx hb dX7_add_51 (by decide) ?_
    refine lv_iadd hx hb dX7_add_52 ?_
    refine lv_topi (fun x4 ex4 => ?_)
    have hF := bn_as ex4 hF
    refine va_put (D := D) (ci := 7) (v := .int x4) (ty := .int) (C := RX7) (T := TX7) (N := 2) hx hb hts i_X7_add_X7 tyX7 tyX7_ok nmX7 hown hE.1 hP hD hS 0 rfl rfl 1 (by decide) (hts (.fieldLink RX7 15 "NeedleHouse$Trains" "size" "I") (by decide +kernel)) (fun _ h9 => h9) rfl (by decide +kernel) rfl rfl (Nat.le_of_ble_eq_true rfl) dX7_add_53 (fun H locs hP hD hS => ?_)
    have hP : va_P D vwCl (W_8 ct q_t q_t_going x4 t_going) H := hP
    have hD : va_D A (W_8 ct q_t q_t_going x4 t_going) := hD
    refine lv_aload_n hx hb dX7_add_56 rfl (lv_at hl 0 rfl) ?_
    refine va_get (D := D) (ci := 7) (v := .int x4) (C := RX7) (T := TX7) (N := 2) hx hb hts i_X7_add_X7 hown hE.1 hP 0 rfl rfl 1 (by decide) (hts (.fieldLink RX7 15 "NeedleHouse$Trains" "size" "I") (by decide +kernel)) (fun _ h9 => h9) rfl dX7_add_57 ?_
    refine lv_iconst (v := 1) hx hb dX7_add_60 (by decide) ?_
    refine lv_isub hx hb dX7_add_61 ?_
    obtain ⟨rfl, rfl, rfl⟩ := in3 hF
    exact W.iret hx hb hr (fun t ht hW => ⟨⟨_, (), rfl, rfl, vaP_at ht hP⟩, hS.F ht⟩) hS.2.2 dX7_add_62
  · have hF := ifF c3 hF
    refine lv_iload_n hx hb dX7_add_26 rfl (lv_at hl 3 rfl) ?_
    refine lv_iload_n hx hb dX7_add_27 rfl (lv_at hl 1 rfl) ?_
    refine lv_isub hx hb dX7_add_28 ?_
    refine lv_iload_n hx hb dX7_add_29 rfl (lv_at hl 2 rfl) ?_
    refine lv_icmp_ge (tgt := 46) hx hb dX7_add_30 (by decide) (fun c5 => ?_) (fun c5 => ?_)
    · have hF := ifT c5 hF
      refine lv_aload_n hx hb dX7_add_46 rfl (lv_at hl 0 rfl) ?_
      refine lv_dup hx hb dX7_add_47 rfl ?_
      refine va_get (D := D) (ci := 7) (v := .int t_size) (C := RX7) (T := TX7) (N := 2) hx hb hts i_X7_add_X7 hown hE.1 hP 0 rfl rfl 1 (by decide) (hts (.fieldLink RX7 15 "NeedleHouse$Trains" "size" "I") (by decide +kernel)) (fun _ h9 => h9) rfl dX7_add_48 ?_
      refine lv_iconst (v := 1) hx hb dX7_add_51 (by decide) ?_
      refine lv_iadd hx hb dX7_add_52 ?_
      refine lv_topi (fun x6 ex6 => ?_)
      have hF := bn_as ex6 hF
      refine va_put (D := D) (ci := 7) (v := .int x6) (ty := .int) (C := RX7) (T := TX7) (N := 2) hx hb hts i_X7_add_X7 tyX7 tyX7_ok nmX7 hown hE.1 hP hD hS 0 rfl rfl 1 (by decide) (hts (.fieldLink RX7 15 "NeedleHouse$Trains" "size" "I") (by decide +kernel)) (fun _ h9 => h9) rfl (by decide +kernel) rfl rfl (Nat.le_of_ble_eq_true rfl) dX7_add_53 (fun H locs hP hD hS => ?_)
      have hP : va_P D vwCl (W_8 ct q_t q_t_going x6 t_going) H := hP
      have hD : va_D A (W_8 ct q_t q_t_going x6 t_going) := hD
      refine lv_aload_n hx hb dX7_add_56 rfl (lv_at hl 0 rfl) ?_
      refine va_get (D := D) (ci := 7) (v := .int x6) (C := RX7) (T := TX7) (N := 2) hx hb hts i_X7_add_X7 hown hE.1 hP 0 rfl rfl 1 (by decide) (hts (.fieldLink RX7 15 "NeedleHouse$Trains" "size" "I") (by decide +kernel)) (fun _ h9 => h9) rfl dX7_add_57 ?_
      refine lv_iconst (v := 1) hx hb dX7_add_60 (by decide) ?_
      refine lv_isub hx hb dX7_add_61 ?_
      obtain ⟨rfl, rfl, rfl⟩ := in3 hF
      exact W.iret hx hb hr (fun t ht hW => ⟨⟨_, (), rfl, rfl, vaP_at ht hP⟩, hS.F ht⟩) hS.2.2 dX7_add_62
    · have hF := ifF c5 hF
      refine lv_aload_n hx hb dX7_add_33 rfl (lv_at hl 0 rfl) ?_
      refine va_get (D := D) (ci := 7) (v := .ref q_t_going) (C := RX7) (T := TX7) (N := 2) hx hb hts i_X7_add_X7 hown hE.1 hP 0 rfl rfl 0 (by decide) (hts (.fieldLink RX7 9 "NeedleHouse$Trains" "going" "[Z") (by decide +kernel)) (fun _ h9 => h9) rfl dX7_add_34 ?_
      refine lv_iload_n hx hb dX7_add_37 rfl (lv_at hl 3 rfl) ?_
      refine lv_iconst (v := 1) hx hb dX7_add_38 (by decide) ?_
      obtain ⟨h7, hF⟩ := gd_ex hF
      obtain ⟨f8, ef8, hF⟩ := bn_ex hF
      refine va_zast hx hb hE.1 hP hD hS 1 2 rfl rfl h7 dX7_add_39 (fun H locs hP hD hS => ?_)
      have hP : va_P D vwCl (W_8 ct q_t q_t_going t_size f8) H := by rw [ef8]; exact hP
      have hD : va_D A (W_8 ct q_t q_t_going t_size f8) := by rw [ef8]; exact hD
      obtain ⟨x9, ex9⟩ : ∃ y : Int32, y = x_3 + 1 := ⟨_, rfl⟩
      refine lv_iinc (v := x9) (lv' := [(3, .int x9), (0, .ref q_t), (1, .int x_1), (2, .int x_2)]) hx hb dX7_add_40 hl (k := 3) rfl (by rw [ex9]; rfl) (by decide) rfl (fun ls hl => ?_)
      have hF := bn_as ex9 hF
      refine lv_goto (tgt := 17) hx hb dX7_add_43 (by decide) ?_
      exact hk17 t_size f8 x_1 x_2 x9 _ _ _ hF hP hD hS (lv_sub hl [1, 2, 3, 0] rfl)
theorem lX7_add_17 {p : Program} {l : Launch} {e : Env} {s : State} {m : MethodId} {args : Array Value} {below : List Frame} {meth : Method} {c : Code} {D : va_G} {ct : Nat → ClassId} {A : Nat → Prop} {q_t q_t_going : Nat} {o_r : Int32} {o_t_size : Int32} {o_t_going : Nat → Int32} (C0 : Cx RX7 cX7_add 4 (some .int) wsX7_add D ct A p s m args meth c) : ∀ (n : Nat) (t_size : Int32) (t_going : Nat → Int32) (x_1 : Int32) (x_2 : Int32) (x_3 : Int32) (H : Heap) (locs : List Loc) (ls : Array Slot), LX7_add_17 n t_size t_going x_1 x_2 x_3 = some (o_r, o_t_size, o_t_going) → va_P D vwCl (W_8 ct q_t q_t_going t_size t_going) H → va_D A (W_8 ct q_t q_t_going t_size t_going) → va_S A s.heap H locs → lv_has ls 4 [(0, .ref q_t), (1, .int x_1), (2, .int x_2), (3, .int x_3)] → W p l e ({ frames := 1, cells := 0, slots := 0, locals := 17 } : Room) s m args below meth c H locs 0 0 (MQ below (va_Qi (fun r (_ : Unit) => r = o_r) (fun _ t => va_P D vwCl (W_8 ct q_t q_t_going o_t_size o_t_going) t.heap) A) args s 0 0 A) (F0 m 17 ls []) := by
  intro n
  induction n with
  | zero => intro t_size t_going x_1 x_2 x_3 H locs ls hF; exact nomatch (show (none : Option (Int32 × Int32 × (Nat → Int32))) = _ from hF)
  | succ n ih => intro t_size t_going x_1 x_2 x_3 H locs ls hF; exact jX7_add_17 C0 (LX7_add_17 n) ih n t_size t_going x_1 x_2 x_3 H locs ls hF
set_option maxHeartbeats 4000000 in
set_option maxRecDepth 100000 in
theorem met_X7_add (l : Launch) (D : va_G) (ct : Nat → ClassId) (q_t : Nat) (q_t_going : Nat) (sz : Nat) (t_size : Int32) (t_going : Nat → Int32) (p1 : Int32) (p2 : Int32) (n : Nat) (o_r : Int32) (o_t_size : Int32) (o_t_going : Nat → Int32) (hF : FX7_add n t_size t_going p1 p2 = some (o_r, o_t_size, o_t_going)) : Met l yX7_add wsX7_add ({ frames := 1, cells := 0, slots := 0, locals := 17 } : Room) (va_Pc [.ref q_t, .int p1, .int p2] (pre_ D ct sz (W_8 ct q_t q_t_going t_size t_going))) (va_Qi (fun r (_ : Unit) => r = o_r) (fun _ t => va_P D vwCl (W_8 ct q_t q_t_going o_t_size o_t_going) t.heap) (va_A (W_8 ct q_t q_t_going t_size t_going) sz)) 0 0 (va_A (W_8 ct q_t q_t_going t_size t_going) sz) := by
  refine Met.ofW (cc := cX7_add) (maxL := 4) (ret := (some .int)) (by decide) rfl ?_
  intro p e s m args below meth c s₁ B hml hv
  obtain ⟨rfl, hsz, hP, hE, hD0⟩ := hv
  have hx := B.exec
  have hb := B.bytes
  have hr := B.returns
  have hts := atoms_spec (ws := wsX7_add) B.pre
  have hown : s.vm.findClass RX7 = some m.cls := findClass_of_methodNamed B.named
  have hlocks := B.notSynchronized
  subst hsz
  have hD := hD0.self (sz := s.heap.size)
  generalize hAe : va_A (W_8 ct q_t q_t_going t_size t_going) s.heap.size = A at hD ⊢
  have hA : ∀ q : Nat, s.heap.size ≤ q → A q := fun q h => by rw [← hAe]; exact Or.inr h
  have hl := lv_entry ([.ref q_t, .int p1, .int p2]) (n := 4) (Nat.le_of_ble_eq_true rfl)
  rw [lg_entry_eq]
  generalize (lg_sl ([.ref q_t, .int p1, .int p2]) ++ List.replicate (4 - (lg_sl ([.ref q_t, .int p1, .int p2])).length) Slot.unset).toArray = ls at hl ⊢
  have hl : lv_has ls 4 [(0, .ref q_t), (1, .int p1), (2, .int p2)] := hl
  have C0 : Cx RX7 cX7_add 4 (some .int) wsX7_add D ct A p s m ([.ref q_t, .int p1, .int p2]).toArray meth c := ⟨hx, hb, hml, hown, hts, hr, hlocks, hE, hA⟩
  have hS : ∀ H : Heap, s.heap = H → va_S A s.heap H [] := fun H h => h ▸ va_S.rf
  generalize hH : s.heap = H at hP ⊢
  have hS := hS H hH
  unfold FX7_add at hF
  refine lv_aload_n hx hb dX7_add_0 rfl (lv_at hl 0 rfl) ?_
  refine va_get (D := D) (ci := 7) (v := .int t_size) (C := RX7) (T := TX7) (N := 2) hx hb hts i_X7_add_X7 hown hE.1 hP 0 rfl rfl 1 (by decide) (hts (.fieldLink RX7 15 "NeedleHouse$Trains" "size" "I") (by decide +kernel)) (fun _ h9 => h9) rfl dX7_add_1 ?_
  refine lv_bipush (v := 10) hx hb dX7_add_4 (by decide) ?_
  refine lv_icmp_lt (tgt := 11) hx hb dX7_add_6 (by decide) (fun c1 => ?_) (fun c1 => ?_)
  · have hF := ifT c1 hF
    refine lv_iload_n hx hb dX7_add_11 rfl (lv_at hl 1 rfl) ?_
    refine lv_iconst (v := 0) hx hb dX7_add_12 (by decide) ?_
    refine va_mmax hx hb (hml.trans hl.1.symm) hown (hts (.methodLink RX7 19 Lib.Math.max.name) (by decide +kernel)) (hts (.static Lib.Math.max.name) (by decide +kernel)) (hts (.initialized "java/lang/Math") (by decide +kernel)) (hts (.code Lib.Math.max.name Lib.Math.max.code 2 (some .int)) (by decide +kernel)) (Nat.le_of_ble_eq_true rfl) (Nat.le_of_ble_eq_true rfl) (Nat.zero_le _) (Nat.zero_le _) dX7_add_13 ?_
    refine lv_topi (fun x2 ex2 => ?_)
    have hF := bn_as ex2 hF
    refine lv_istore_n (lv' := [(3, .int x2), (0, .ref q_t), (1, .int p1), (2, .int p2)]) hx hb dX7_add_16 rfl hl (by decide) rfl (fun ls hl => ?_)
    exact lX7_add_17 C0 n t_size t_going p1 p2 x2 _ _ _ hF hP hD hS (lv_sub hl [1, 2, 3, 0] rfl)
  · have hF := ifF c1 hF
    refine lv_iconst (v := (-1)) hx hb dX7_add_9 (by decide) ?_
    obtain ⟨rfl, rfl, rfl⟩ := in3 hF
    exact W.iret hx hb hr (fun t ht hW => ⟨⟨_, (), rfl, rfl, vaP_at ht hP⟩, hS.F ht⟩) hS.2.2 dX7_add_10
/-! NeedleHouse$Trains.goBy(I)Z -/
theorem i_X7_goBy_X7 : ∀ w ∈ wsX70, w ∈ wsX7_goBy := by decide +kernel
set_option maxHeartbeats 4000000 in
set_option maxRecDepth 100000 in
theorem met_X7_goBy (l : Launch) (D : va_G) (ct : Nat → ClassId) (q_t : Nat) (q_t_going : Nat) (sz : Nat) (t_size : Int32) (t_going : Nat → Int32) (p1 : Int32) (n : Nat) (o_r : Int32) (hF : FX7_goBy n t_going p1 = some (o_r)) : Met l yX7_goBy wsX7_goBy ({ frames := 0, cells := 0, slots := 0, locals := 0 } : Room) (va_Pc [.ref q_t, .int p1] (pre_ D ct sz (W_8 ct q_t q_t_going t_size t_going))) (va_Qi (fun r (_ : Unit) => r = o_r) (fun _ t => va_P D vwCl (W_8 ct q_t q_t_going t_size t_going) t.heap) (va_A (W_8 ct q_t q_t_going t_size t_going) sz)) 0 0 (va_A (W_8 ct q_t q_t_going t_size t_going) sz) := by
  refine Met.ofW (cc := cX7_goBy) (maxL := 2) (ret := (some .boolean)) (by decide) rfl ?_
  intro p e s m args below meth c s₁ B hml hv
  obtain ⟨rfl, hsz, hP, hE, hD0⟩ := hv
  have hx := B.exec
  have hb := B.bytes
  have hr := B.returns
  have hts := atoms_spec (ws := wsX7_goBy) B.pre
  have hown : s.vm.findClass RX7 = some m.cls := findClass_of_methodNamed B.named
  have hlocks := B.notSynchronized
  subst hsz
  have hD := hD0.self (sz := s.heap.size)
  generalize hAe : va_A (W_8 ct q_t q_t_going t_size t_going) s.heap.size = A at hD ⊢
  have hA : ∀ q : Nat, s.heap.size ≤ q → A q := fun q h => by rw [← hAe]; exact Or.inr h
  have hl := lv_entry ([.ref q_t, .int p1]) (n := 2) (Nat.le_of_ble_eq_true rfl)
  rw [lg_entry_eq]
  generalize (lg_sl ([.ref q_t, .int p1]) ++ List.replicate (2 - (lg_sl ([.ref q_t, .int p1])).length) Slot.unset).toArray = ls at hl ⊢
  have hl : lv_has ls 2 [(0, .ref q_t), (1, .int p1)] := hl
  have C0 : Cx RX7 cX7_goBy 2 (some .boolean) wsX7_goBy D ct A p s m ([.ref q_t, .int p1]).toArray meth c := ⟨hx, hb, hml, hown, hts, hr, hlocks, hE, hA⟩
  have hS : ∀ H : Heap, s.heap = H → va_S A s.heap H [] := fun H h => h ▸ va_S.rf
  generalize hH : s.heap = H at hP ⊢
  have hS := hS H hH
  unfold FX7_goBy at hF
  refine lv_iload_n hx hb dX7_goBy_0 rfl (lv_at hl 1 rfl) ?_
  refine lv_if_lt (tgt := 26) hx hb dX7_goBy_1 (by decide) (fun c1 => ?_) (fun c1 => ?_)
  · have hF := ifT c1 hF
    refine lv_iconst (v := 0) hx hb dX7_goBy_26 (by decide) ?_
    obtain rfl := Option.some.inj hF
    exact W.zret hx hb hr rfl (fun t ht hW => ⟨⟨_, (), rfl, rfl, vaP_at ht hP⟩, hS.F ht⟩) hS.2.2 dX7_goBy_27
  · have hF := ifF c1 hF
    refine lv_iload_n hx hb dX7_goBy_4 rfl (lv_at hl 1 rfl) ?_
    refine lv_aload_n hx hb dX7_goBy_5 rfl (lv_at hl 0 rfl) ?_
    refine va_get (D := D) (ci := 7) (v := .ref q_t_going) (C := RX7) (T := TX7) (N := 2) hx hb hts i_X7_goBy_X7 hown hE.1 hP 0 rfl rfl 0 (by decide) (hts (.fieldLink RX7 9 "NeedleHouse$Trains" "going" "[Z") (by decide +kernel)) (fun _ h9 => h9) rfl dX7_goBy_6 ?_
    refine va_alen (v := 300) hx hb hE.1 hP 1 2 rfl rfl rfl dX7_goBy_9 ?_
    refine lv_icmp_ge (tgt := 26) hx hb dX7_goBy_10 (by decide) (fun c2 => ?_) (fun c2 => ?_)
    · have hF := ifT c2 hF
      refine lv_iconst (v := 0) hx hb dX7_goBy_26 (by decide) ?_
      obtain rfl := Option.some.inj hF
      exact W.zret hx hb hr rfl (fun t ht hW => ⟨⟨_, (), rfl, rfl, vaP_at ht hP⟩, hS.F ht⟩) hS.2.2 dX7_goBy_27
    · have hF := ifF c2 hF
      refine lv_aload_n hx hb dX7_goBy_13 rfl (lv_at hl 0 rfl) ?_
      refine va_get (D := D) (ci := 7) (v := .ref q_t_going) (C := RX7) (T := TX7) (N := 2) hx hb hts i_X7_goBy_X7 hown hE.1 hP 0 rfl rfl 0 (by decide) (hts (.fieldLink RX7 9 "NeedleHouse$Trains" "going" "[Z") (by decide +kernel)) (fun _ h9 => h9) rfl dX7_goBy_14 ?_
      refine lv_iload_n hx hb dX7_goBy_17 rfl (lv_at hl 1 rfl) ?_
      obtain ⟨h3, hF⟩ := gd_ex hF
      refine va_zald hx hb hE.1 hP 1 2 rfl rfl h3 dX7_goBy_18 ?_
      refine lv_if_eq (tgt := 26) hx hb dX7_goBy_19 (by decide) (fun c4 => ?_) (fun c4 => ?_)
      · have hF := ifT c4 hF
        refine lv_iconst (v := 0) hx hb dX7_goBy_26 (by decide) ?_
        obtain rfl := Option.some.inj hF
        exact W.zret hx hb hr rfl (fun t ht hW => ⟨⟨_, (), rfl, rfl, vaP_at ht hP⟩, hS.F ht⟩) hS.2.2 dX7_goBy_27
      · have hF := ifF c4 hF
        refine lv_iconst (v := 1) hx hb dX7_goBy_22 (by decide) ?_
        refine lv_goto (tgt := 27) hx hb dX7_goBy_23 (by decide) ?_
        obtain rfl := Option.some.inj hF
        exact W.zret hx hb hr rfl (fun t ht hW => ⟨⟨_, (), rfl, rfl, vaP_at ht hP⟩, hS.F ht⟩) hS.2.2 dX7_goBy_27
