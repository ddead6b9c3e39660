def W_11 (ct : Nat → ClassId) (a0 a1 : Nat) (v0 : Int32) (v1 : Nat → Int32) : va_W := [(a0, .inr (8, [.ref a1, .int v0])), (a1, .inl (ct 0, 150, .inl v1))]
/-! NeedleHouse$Windows.clear(I)V -/
theorem i_X8_clear_X8 : ∀ w ∈ wsX80, w ∈ wsX8_clear := by decide +kernel
set_option maxHeartbeats 4000000 in
set_option maxRecDepth 100000 in
theorem met_X8_clear (l : Launch) (D : va_G) (ct : Nat → ClassId) (q_t : Nat) (q_t_indices : Nat) (sz : Nat) (t_size : Int32) (t_indices : Nat → Int32) (p1 : Int32) (n : Nat) (o_t_size : Int32) (o_t_indices : Nat → Int32) (hF : FX8_clear n t_size t_indices p1 = some (o_t_size, o_t_indices)) : Met l yX8_clear wsX8_clear ({ frames := 1, cells := 0, slots := 0, locals := 23 } : Room) (va_Pc [.ref q_t, .int p1] (pre_ D ct sz (W_11 ct q_t q_t_indices t_size t_indices))) (va_Qv (fun (_ : Unit) => True) (fun _ t => va_P D vwCl (W_11 ct q_t q_t_indices o_t_size o_t_indices) t.heap) (va_A (W_11 ct q_t q_t_indices t_size t_indices) sz)) 0 0 (va_A (W_11 ct q_t q_t_indices t_size t_indices) sz) := by
  refine Met.ofW (cc := cX8_clear) (maxL := 2) (ret := none) (by decide) rfl ?_
  intro p e s m args below meth c s₁ B hml hv
  obtain ⟨rfl, hsz, hP, hE, hD0⟩ := hv
  have hx := B.exec
  have hb := B.bytes
  have hr := B.returns
  have hts := atoms_spec (ws := wsX8_clear) B.pre
  have hown : s.vm.findClass RX8 = some m.cls := findClass_of_methodNamed B.named
  have hlocks := B.notSynchronized
  subst hsz
  have hD := hD0.self (sz := s.heap.size)
  generalize hAe : va_A (W_11 ct q_t q_t_indices t_size t_indices) s.heap.size = A at hD ⊢
  have hA : ∀ q : Nat, s.heap.size ≤ q → A q := fun q h => by rw [← hAe]; exact Or.inr h
  have hl := lv_entry ([.ref q_t, .int p1]) (n := 2) (Nat.le_of_ble_eq_true rfl)
  rw [lg_entry_eq]
  generalize (lg_sl ([.ref q_t, .int p1]) ++ List.replicate (2 - (lg_sl ([.ref q_t, .int p1])).length) Slot.unset).toArray = ls at hl ⊢
  have hl : lv_has ls 2 [(0, .ref q_t), (1, .int p1)] := hl
  have C0 : Cx RX8 cX8_clear 2 none wsX8_clear D ct A p s m ([.ref q_t, .int p1]).toArray meth c := ⟨hx, hb, hml, hown, hts, hr, hlocks, hE, hA⟩
  have hS : ∀ H : Heap, s.heap = H → va_S A s.heap H [] := fun H h => h ▸ va_S.rf
  generalize hH : s.heap = H at hP ⊢
  have hS := hS H hH
  unfold FX8_clear at hF
  refine lv_aload_n hx hb dX8_clear_0 rfl (lv_at hl 0 rfl) ?_
  refine lv_iconst (v := 0) hx hb dX8_clear_1 (by decide) ?_
  refine lv_iload_n hx hb dX8_clear_2 rfl (lv_at hl 1 rfl) ?_
  refine lv_sipush (v := 150) hx hb dX8_clear_3 (by decide) ?_
  refine va_mmin hx hb (hml.trans hl.1.symm) hown (hts (.methodLink RX8 19 Lib.Math.min.name) (by decide +kernel)) (hts (.static Lib.Math.min.name) (by decide +kernel)) (hts (.initialized "java/lang/Math") (by decide +kernel)) (hts (.code Lib.Math.min.name Lib.Math.min.code 2 (some .int)) (by decide +kernel)) (Nat.le_of_ble_eq_true rfl) (Nat.le_of_ble_eq_true rfl) (Nat.zero_le _) (Nat.zero_le _) dX8_clear_6 ?_
  refine va_mmax hx hb (hml.trans hl.1.symm) hown (hts (.methodLink RX8 25 Lib.Math.max.name) (by decide +kernel)) (hts (.static Lib.Math.max.name) (by decide +kernel)) (hts (.initialized "java/lang/Math") (by decide +kernel)) (hts (.code Lib.Math.max.name Lib.Math.max.code 2 (some .int)) (by decide +kernel)) (Nat.le_of_ble_eq_true rfl) (Nat.le_of_ble_eq_true rfl) (Nat.zero_le _) (Nat.zero_le _) dX8_clear_9 ?_
  refine lv_topi (fun x1 ex1 => ?_)
  have hF := bn_as ex1 hF
  refine va_put (D := D) (ci := 8) (v := .int x1) (ty := .int) (C := RX8) (T := TX8) (N := 2) hx hb hts i_X8_clear_X8 tyX8 tyX8_ok nmX8 hown hE.1 hP hD hS 0 rfl rfl 1 (by decide) (hts (.fieldLink RX8 15 "NeedleHouse$Windows" "size" "I") (by decide +kernel)) (fun _ h9 => h9) rfl (by decide +kernel) rfl rfl (Nat.le_of_ble_eq_true rfl) dX8_clear_12 (fun H locs hP hD hS => ?_)
  have hP : va_P D vwCl (W_11 ct q_t q_t_indices x1 t_indices) H := hP
  have hD : va_D A (W_11 ct q_t q_t_indices x1 t_indices) := hD
  refine lv_aload_n hx hb dX8_clear_15 rfl (lv_at hl 0 rfl) ?_
  refine va_get (D := D) (ci := 8) (v := .ref q_t_indices) (C := RX8) (T := TX8) (N := 2) hx hb hts i_X8_clear_X8 hown hE.1 hP 0 rfl rfl 0 (by decide) (hts (.fieldLink RX8 9 "NeedleHouse$Windows" "indices" "[I") (by decide +kernel)) (fun _ h9 => h9) rfl dX8_clear_16 ?_
  refine lv_iconst (v := (-1)) hx hb dX8_clear_19 (by decide) ?_
  obtain ⟨f2, h3, hF⟩ := ob1_ex hF
  refine xvM (ws1 := (W_11 ct q_t q_t_indices x1 f2)) (va_runS (As := [.ref q_t_indices, .int ((-1))]) (rest := []) ⟨hx, hb, hml, hown, hts⟩ (met_J7_fill_53178 l D ct q_t_indices 150 H.size t_indices ((-1)) n f2 h3) (va_cwS 2 hts gX8_clear_J7_fill_53178 rfl rfl rfl (by decide +kernel) ⟨Nat.le_of_ble_eq_true rfl, Nat.le_of_ble_eq_true rfl⟩) ⟨blind_, mkpre_ hE (hP.sub [1] rfl) (hD.sub [1] (by decide) rfl)⟩ rfl rfl hl.1 rfl (lv_room (Nat.le_of_ble_eq_true rfl)) dX8_clear_20 ⟨Nat.le_of_ble_eq_true rfl, Nat.le_of_ble_eq_true rfl⟩) hP hD hS hA [1] [0] 2 rfl rfl rfl rfl (by decide) rfl (fun H locs hP hD hS => ?_)
  obtain ⟨rfl, rfl⟩ := in2 hF
  exact W.vret hx hb hr (fun t ht hW => ⟨⟨(), rfl, trivial, vaP_at ht hP⟩, hS.F ht⟩) hS.2.2 dX8_clear_23
/-! NeedleHouse$Windows.indexOf(I)I -/
theorem i_X8_indexOf_X8 : ∀ w ∈ wsX80, w ∈ wsX8_indexOf := by decide +kernel
set_option maxHeartbeats 4000000 in
set_option maxRecDepth 100000 in
theorem met_X8_indexOf (l : Launch) (D : va_G) (ct : Nat → ClassId) (q_t : Nat) (q_t_indices : Nat) (sz : Nat) (t_size : Int32) (t_indices : Nat → Int32) (p1 : Int32) (n : Nat) (o_r : Int32) (hF : FX8_indexOf n t_size t_indices p1 = some (o_r)) : Met l yX8_indexOf wsX8_indexOf ({ frames := 0, cells := 0, slots := 0, locals := 0 } : Room) (va_Pc [.ref q_t, .int p1] (pre_ D ct sz (W_11 ct q_t q_t_indices t_size t_indices))) (va_Qi (fun r (_ : Unit) => r = o_r) (fun _ t => va_P D vwCl (W_11 ct q_t q_t_indices t_size t_indices) t.heap) (va_A (W_11 ct q_t q_t_indices t_size t_indices) sz)) 0 0 (va_A (W_11 ct q_t q_t_indices t_size t_indices) sz) := by
  refine Met.ofW (cc := cX8_indexOf) (maxL := 2) (ret := (some .int)) (by decide) rfl ?_
  intro p e s m args below meth c s₁ B hml hv
  obtain ⟨rfl, hsz, hP, hE, hD0⟩ := hv
  have hx := B.exec
  have hb := B.bytes
  have hr := B.returns
  have hts := atoms_spec (ws := wsX8_indexOf) B.pre
  have hown : s.vm.findClass RX8 = some m.cls := findClass_of_methodNamed B.named
  have hlocks := B.notSynchronized
  subst hsz
  have hD := hD0.self (sz := s.heap.size)
  generalize hAe : va_A (W_11 ct q_t q_t_indices t_size t_indices) s.heap.size = A at hD ⊢
  have hA : ∀ q : Nat, s.heap.size ≤ q → A q := fun q h => by rw [← hAe]; exact Or.inr h
  have hl := lv_entry ([.ref q_t, .int p1]) (n := 2) (Nat.le_of_ble_eq_true rfl)
  rw [lg_entry_eq]
  generalize (lg_sl ([.ref q_t, .int p1]) ++ List.replicate (2 - (lg_sl ([.ref q_t, .int p1])).length) Slot.unset).toArray = ls at hl ⊢
  have hl : lv_has ls 2 [(0, .ref q_t), (1, .int p1)] := hl
  have C0 : Cx RX8 cX8_indexOf 2 (some .int) wsX8_indexOf D ct A p s m ([.ref q_t, .int p1]).toArray meth c := ⟨hx, hb, hml, hown, hts, hr, hlocks, hE, hA⟩
  have hS : ∀ H : Heap, s.heap = H → va_S A s.heap H [] := fun H h => h ▸ va_S.rf
  generalize hH : s.heap = H at hP ⊢
  have hS := hS H hH
  unfold FX8_indexOf at hF
  refine lv_iload_n hx hb dX8_indexOf_0 rfl (lv_at hl 1 rfl) ?_
  refine lv_if_lt (tgt := 12) hx hb dX8_indexOf_1 (by decide) (fun c1 => ?_) (fun c1 => ?_)
  · have hF := ifT c1 hF
    refine lv_iconst (v := (-1)) hx hb dX8_indexOf_12 (by decide) ?_
    obtain rfl := Option.some.inj hF
    exact W.iret hx hb hr (fun t ht hW => ⟨⟨_, (), rfl, rfl, vaP_at ht hP⟩, hS.F ht⟩) hS.2.2 dX8_indexOf_13
  · have hF := ifF c1 hF
    refine lv_iload_n hx hb dX8_indexOf_4 rfl (lv_at hl 1 rfl) ?_
    refine lv_aload_n hx hb dX8_indexOf_5 rfl (lv_at hl 0 rfl) ?_
    refine va_get (D := D) (ci := 8) (v := .int t_size) (C := RX8) (T := TX8) (N := 2) hx hb hts i_X8_indexOf_X8 hown hE.1 hP 0 rfl rfl 1 (by decide) (hts (.fieldLink RX8 15 "NeedleHouse$Windows" "size" "I") (by decide +kernel)) (fun _ h9 => h9) rfl dX8_indexOf_6 ?_
    refine lv_icmp_lt (tgt := 14) hx hb dX8_indexOf_9 (by decide) (fun c2 => ?_) (fun c2 => ?_)
    · have hF := ifT c2 hF
      refine lv_aload_n hx hb dX8_indexOf_14 rfl (lv_at hl 0 rfl) ?_
      refine va_get (D := D) (ci := 8) (v := .ref q_t_indices) (C := RX8) (T := TX8) (N := 2) hx hb hts i_X8_indexOf_X8 hown hE.1 hP 0 rfl rfl 0 (by decide) (hts (.fieldLink RX8 9 "NeedleHouse$Windows" "indices" "[I") (by decide +kernel)) (fun _ h9 => h9) rfl dX8_indexOf_15 ?_
      refine lv_iload_n hx hb dX8_indexOf_18 rfl (lv_at hl 1 rfl) ?_
      obtain ⟨h3, hF⟩ := gd_ex hF
      refine va_iald hx hb hE.1 hP 1 0 rfl rfl h3 dX8_indexOf_19 ?_
      obtain rfl := Option.some.inj hF
      exact W.iret hx hb hr (fun t ht hW => ⟨⟨_, (), rfl, rfl, vaP_at ht hP⟩, hS.F ht⟩) hS.2.2 dX8_indexOf_20
    · have hF := ifF c2 hF
      refine lv_iconst (v := (-1)) hx hb dX8_indexOf_12 (by decide) ?_
      obtain rfl := Option.some.inj hF
      exact W.iret hx hb hr (fun t ht hW => ⟨⟨_, (), rfl, rfl, vaP_at ht hP⟩, hS.F ht⟩) hS.2.2 dX8_indexOf_13
/-! NeedleHouse$Windows.stormLength(II)I -/
theorem i_X8_stormLength_X8 : ∀ w ∈ wsX80, w ∈ wsX8_stormLength := by decide +kernel
set_option maxHeartbeats 4000000 in
set_option maxRecDepth 100000 in
theorem jX8_stormLength_2 {p : Program} {l : Launch} {e : Env} {s : State} {m : MethodId} {args : Array Value} {below : List Frame} {meth : Method} {c : Code} {D : va_G} {ct : Nat → ClassId} {A : Nat → Prop} {q_t q_t_indices : Nat} {t_size : Int32} {t_indices : Nat → Int32} {o_r : Int32} (C0 : Cx RX8 cX8_stormLength 4 (some .int) wsX8_stormLength D ct A p s m args meth c) (k2 : Int32 → (Nat → Int32) → Int32 → Int32 → Int32 → Option (Int32)) (hk2 : ∀ (x_1 : Int32) (x_2 : Int32) (x_3 : Int32) (H : Heap) (locs : List Loc) (ls : Array Slot), k2 t_size t_indices x_1 x_2 x_3 = some (o_r) → va_P D vwCl (W_11 ct q_t q_t_indices t_size t_indices) H → va_D A (W_11 ct q_t q_t_indices t_size t_indices) → va_S A s.heap H locs → lv_has ls 4 [(0, .ref q_t), (1, .int x_1), (2, .int x_2), (3, .int x_3)] → W p l e ({ frames := 1, cells := 0, slots := 0, locals := 21 } : Room) s m args below meth c H locs 0 0 (MQ below (va_Qi (fun r (_ : Unit) => r = o_r) (fun _ t => va_P D vwCl (W_11 ct q_t q_t_indices t_size t_indices) t.heap) A) args s 0 0 A) (F0 m 2 ls [])) (n : Nat) (x_1 : Int32) (x_2 : Int32) (x_3 : Int32) (H : Heap) (locs : List Loc) (ls : Array Slot) : JX8_stormLength_2 k2 n t_size t_indices x_1 x_2 x_3 = some (o_r) → va_P D vwCl (W_11 ct q_t q_t_indices t_size t_indices) H → va_D A (W_11 ct q_t q_t_indices t_size t_indices) → va_S A s.heap H locs → lv_has ls 4 [(0, .ref q_t), (1, .int x_1), (2, .int x_2), (3, .int x_3)] → W p l e ({ frames := 1, cells := 0, slots := 0, locals := 21 } : Room) s m args below meth c H locs 0 0 (MQ below (va_Qi (fun r (_ : Unit) => r = o_r) (fun _ t => va_P D vwCl (W_11 ct q_t q_t_indices t_size t_indices) t.heap) A) args s 0 0 A) (F0 m 2 ls []) := by
  intro hF hP hD hS hl
  obtain ⟨hx, hb, hml, hown, hts, hr, hlocks, hE, hA⟩ := id C0
  unfold JX8_stormLength_2 at hF
  refine lv_iload_n hx hb dX8_stormLength_2 rfl (lv_at hl 3 rfl) ?_
  refine lv_aload_n hx hb dX8_stormLength_3 rfl (lv_at hl 0 rfl) ?_
  refine va_get (D := D) (ci := 8) (v := .int t_size) (C := RX8) (T := TX8) (N := 2) hx hb hts i_X8_stormLength_X8 hown hE.1 hP 0 rfl rfl 1 (by decide) (hts (.fieldLink RX8 15 "NeedleHouse$Windows" "size" "I") (by decide +kernel)) (fun _ h9 => h9) rfl dX8_stormLength_4 ?_
  refine lv_icmp_ge (tgt := 27) hx hb dX8_stormLength_7 (by decide) (fun c1 => ?_) (fun c1 => ?_)
  · have hF := ifT c1 hF
    refine lv_iload_n hx hb dX8_stormLength_27 rfl (lv_at hl 3 rfl) ?_
    obtain rfl := Option.some.inj hF
    exact W.iret hx hb hr (fun t ht hW => ⟨⟨_, (), rfl, rfl, vaP_at ht hP⟩, hS.F ht⟩) hS.2.2 dX8_stormLength_28
  · have hF := ifF c1 hF
    refine lv_aload_n hx hb dX8_stormLength_10 rfl (lv_at hl 0 rfl) ?_
    refine lv_iload_n hx hb dX8_stormLength_11 rfl (lv_at hl 1 rfl) ?_
    refine lv_iload_n hx hb dX8_stormLength_12 rfl (lv_at hl 3 rfl) ?_
    refine lv_iadd hx hb dX8_stormLength_13 ?_
    obtain ⟨r2, h3, hF⟩ := ob1_ex hF
    refine xiR (va_runV (As := [.int (x_1 + x_3)]) (rest := []) ⟨hx, hb, hml, hown, hts⟩ (met_X8_indexOf l D ct q_t q_t_indices H.size t_size t_indices (x_1 + x_3) n r2 h3) (cwV 1 hts gX8_stormLength_X8_indexOf rfl rfl rfl (by decide +kernel) ⟨Nat.le_of_ble_eq_true rfl, Nat.le_of_ble_eq_true rfl⟩) ⟨blind_, va_recv hE.1 hP (ci := 8) (q0 := 0) rfl rfl, mkpre_ hE hP hD⟩ rfl rfl hl.1 rfl (lv_room (Nat.le_of_ble_eq_true rfl)) dX8_stormLength_14 ⟨Nat.le_of_ble_eq_true rfl, Nat.le_of_ble_eq_true rfl⟩) hP hD hS hA [0, 1] rfl (fun H locs hP hD hS => ?_)
    refine lv_iload_n hx hb dX8_stormLength_17 rfl (lv_at hl 2 rfl) ?_
    refine lv_icmp_lt (tgt := 27) hx hb dX8_stormLength_18 (by decide) (fun c4 => ?_) (fun c4 => ?_)
    · have hF := ifT c4 hF
      refine lv_iload_n hx hb dX8_stormLength_27 rfl (lv_at hl 3 rfl) ?_
      obtain rfl := Option.some.inj hF
      exact W.iret hx hb hr (fun t ht hW => ⟨⟨_, (), rfl, rfl, vaP_at ht hP⟩, hS.F ht⟩) hS.2.2 dX8_stormLength_28
    · have hF := ifF c4 hF
      obtain ⟨x5, ex5⟩ : ∃ y : Int32, y = x_3 + 1 := ⟨_, rfl⟩
      refine lv_iinc (v := x5) (lv' := [(3, .int x5), (0, .ref q_t), (1, .int x_1), (2, .int x_2)]) hx hb dX8_stormLength_21 hl (k := 3) rfl (by rw [ex5]; rfl) (by decide) rfl (fun ls hl => ?_)
      have hF := bn_as ex5 hF
      refine lv_goto (tgt := 2) hx hb dX8_stormLength_24 (by decide) ?_
      exact hk2 x_1 x_2 x5 _ _ _ hF hP hD hS (lv_sub hl [1, 2, 3, 0] rfl)
theorem lX8_stormLength_2 {p : Program} {l : Launch} {e : Env} {s : State} {m : MethodId} {args : Array Value} {below : List Frame} {meth : Method} {c : Code} {D : va_G} {ct : Nat → ClassId} {A : Nat → Prop} {q_t q_t_indices : Nat} {t_size : Int32} {t_indices : Nat → Int32} {o_r : Int32} (C0 : Cx RX8 cX8_stormLength 4 (some .int) wsX8_stormLength D ct A p s m args meth c) : ∀ (n : Nat) (x_1 : Int32) (x_2 : Int32) (x_3 : Int32) (H : Heap) (locs : List Loc) (ls : Array Slot), LX8_stormLength_2 n t_size t_indices x_1 x_2 x_3 = some (o_r) → va_P D vwCl (W_11 ct q_t q_t_indices t_size t_indices) H → va_D A (W_11 ct q_t q_t_indices t_size t_indices) → va_S A s.heap H locs → lv_has ls 4 [(0, .ref q_t), (1, .int x_1), (2, .int x_2), (3, .int x_3)] → W p l e ({ frames := 1, cells := 0, slots := 0, locals := 21 } : Room) s m args below meth c H locs 0 0 (MQ below (va_Qi (fun r (_ : Unit) => r = o_r) (fun _ t => va_P D vwCl (W_11 ct q_t q_t_indices t_size t_indices) t.heap) A) args s 0 0 A) (F0 m 2 ls []) := by
  intro n
  induction n with
  | zero => intro x_1 x_2 x_3 H locs ls hF; exact nomatch (show (none : Option (Int32)) = _ from hF)
  | succ n ih => intro x_1 x_2 x_3 H locs ls hF; exact jX8_stormLength_2 C0 (LX8_stormLength_2 n) ih n x_1 x_2 x_3 H locs ls hF
set_option maxHeartbeats 4000000 in
set_option maxRecDepth 100000 in
theorem met_X8_stormLength (l : Launch) (D : va_G) (ct : Nat → ClassId) (q_t : Nat) (q_t_indices : Nat) (sz : Nat) (t_size : Int32) (t_indices : Nat → Int32) (p1 : Int32) (p2 : Int32) (n : Nat) (o_r : Int32) (hF : FX8_stormLength n t_size t_indices p1 p2 = some (o_r)) : Met l yX8_stormLength wsX8_stormLength ({ frames := 1, cells := 0, slots := 0, locals := 21 } : Room) (va_Pc [.ref q_t, .int p1, .int p2] (pre_ D ct sz (W_11 ct q_t q_t_indices t_size t_indices))) (va_Qi (fun r (_ : Unit) => r = o_r) (fun _ t => va_P D vwCl (W_11 ct q_t q_t_indices t_size t_indices) t.heap) (va_A (W_11 ct q_t q_t_indices t_size t_indices) sz)) 0 0 (va_A (W_11 ct q_t q_t_indices t_size t_indices) sz) := by
  refine Met.ofW (cc := cX8_stormLength) (maxL := 4) (ret := (some .int)) (by decide) rfl ?_
  intro p e s m args below meth c s₁ B hml hv
  obtain ⟨rfl, hsz, hP, hE, hD0⟩ := hv
  have hx := B.exec
  have hb := B.bytes
  have hr := B.returns
  have hts := atoms_spec (ws := wsX8_stormLength) B.pre
  have hown : s.vm.findClass RX8 = some m.cls := findClass_of_methodNamed B.named
  have hlocks := B.notSynchronized
  subst hsz
  have hD := hD0.self (sz := s.heap.size)
  generalize hAe : va_A (W_11 ct q_t q_t_indices t_size t_indices) s.heap.size = A at hD ⊢
  have hA : ∀ q : Nat, s.heap.size ≤ q → A q := fun q h => by rw [← hAe]; exact Or.inr h
  have hl := lv_entry ([.ref q_t, .int p1, .int p2]) (n := 4) (Nat.le_of_ble_eq_true rfl)
  rw [lg_entry_eq]
  generalize (lg_sl ([.ref q_t, .int p1, .int p2]) ++ List.replicate (4 - (lg_sl ([.ref q_t, .int p1, .int p2])).length) Slot.unset).toArray = ls at hl ⊢
  have hl : lv_has ls 4 [(0, .ref q_t), (1, .int p1), (2, .int p2)] := hl
  have C0 : Cx RX8 cX8_stormLength 4 (some .int) wsX8_stormLength D ct A p s m ([.ref q_t, .int p1, .int p2]).toArray meth c := ⟨hx, hb, hml, hown, hts, hr, hlocks, hE, hA⟩
  have hS : ∀ H : Heap, s.heap = H → va_S A s.heap H [] := fun H h => h ▸ va_S.rf
  generalize hH : s.heap = H at hP ⊢
  have hS := hS H hH
  unfold FX8_stormLength at hF
  refine lv_iconst (v := 0) hx hb dX8_stormLength_0 (by decide) ?_
  refine lv_istore_n (lv' := [(3, .int 0), (0, .ref q_t), (1, .int p1), (2, .int p2)]) hx hb dX8_stormLength_1 rfl hl (by decide) rfl (fun ls hl => ?_)
  exact lX8_stormLength_2 C0 n p1 p2 0 _ _ _ hF hP hD hS (lv_sub hl [1, 2, 3, 0] rfl)
/-! NeedleHouse$Windows.stormStart(II)I -/
theorem i_X8_stormStart_X8 : ∀ w ∈ wsX80, w ∈ wsX8_stormStart := by decide +kernel
set_option maxHeartbeats 4000000 in
set_option maxRecDepth 100000 in
theorem jX8_stormStart_5 {p : Program} {l : Launch} {e : Env} {s : State} {m : MethodId} {args : Array Value} {below : List Frame} {meth : Method} {c : Code} {D : va_G} {ct : Nat → ClassId} {A : Nat → Prop} {q_t q_t_indices : Nat} {t_size : Int32} {t_indices : Nat → Int32} {o_r : Int32} (C0 : Cx RX8 cX8_stormStart 6 (some .int) wsX8_stormStart D ct A p s m args meth c) (k5 : Int32 → (Nat → Int32) → Int32 → Int32 → Int32 → Int32 → Option (Int32)) (hk5 : ∀ (x_1 : Int32) (x_2 : Int32) (x_3 : Int32) (x_4 : Int32) (H : Heap) (locs : List Loc) (ls : Array Slot), k5 t_size t_indices x_1 x_2 x_3 x_4 = some (o_r) → va_P D vwCl (W_11 ct q_t q_t_indices t_size t_indices) H → va_D A (W_11 ct q_t q_t_indices t_size t_indices) → va_S A s.heap H locs → lv_has ls 6 [(0, .ref q_t), (1, .int x_1), (2, .int x_2), (3, .int x_3), (4, .int x_4)] → W p l e ({ frames := 2, cells := 0, slots := 0, locals := 44 } : Room) s m args below meth c H locs 0 0 (MQ below (va_Qi (fun r (_ : Unit) => r = o_r) (fun _ t => va_P D vwCl (W_11 ct q_t q_t_indices t_size t_indices) t.heap) A) args s 0 0 A) (F0 m 5 ls [])) (n : Nat) (x_1 : Int32) (x_2 : Int32) (x_3 : Int32) (x_4 : Int32) (H : Heap) (locs : List Loc) (ls : Array Slot) : JX8_stormStart_5 k5 n t_size t_indices x_1 x_2 x_3 x_4 = some (o_r) → va_P D vwCl (W_11 ct q_t q_t_indices t_size t_indices) H → va_D A (W_11 ct q_t q_t_indices t_size t_indices) → va_S A s.heap H locs → lv_has ls 6 [(0, .ref q_t), (1, .int x_1), (2, .int x_2), (3, .int x_3), (4, .int x_4)] → W p l e ({ frames := 2, cells := 0, slots := 0, locals := 44 } : Room) s m args below meth c H locs 0 0 (MQ below (va_Qi (fun r (_ : Unit) => r = o_r) (fun _ t => va_P D vwCl (W_11 ct q_t q_t_indices t_size t_indices) t.heap) A) args s 0 0 A) (F0 m 5 ls []) := by
  intro hF hP hD hS hl
  obtain ⟨hx, hb, hml, hown, hts, hr, hlocks, hE, hA⟩ := id C0
  unfold JX8_stormStart_5 at hF
  refine lv_iload hx hb dX8_stormStart_5 (lv_at hl 4 rfl) ?_
  refine lv_aload_n hx hb dX8_stormStart_7 rfl (lv_at hl 0 rfl) ?_
  refine va_get (D := D) (ci := 8) (v := .int t_size) (C := RX8) (T := TX8) (N := 2) hx hb hts i_X8_stormStart_X8 hown hE.1 hP 0 rfl rfl 1 (by decide) (hts (.fieldLink RX8 15 "NeedleHouse$Windows" "size" "I") (by decide +kernel)) (fun _ h9 => h9) rfl dX8_stormStart_8 ?_
  refine lv_icmp_ge (tgt := 52) hx hb dX8_stormStart_11 (by decide) (fun c1 => ?_) (fun c1 => ?_)
  · have hF := ifT c1 hF
    refine lv_iconst (v := (-1)) hx hb dX8_stormStart_52 (by decide) ?_
    obtain rfl := Option.some.inj hF
    exact W.iret hx hb hr (fun t ht hW => ⟨⟨_, (), rfl, rfl, vaP_at ht hP⟩, hS.F ht⟩) hS.2.2 dX8_stormStart_53
  · have hF := ifF c1 hF
    refine lv_aload_n hx hb dX8_stormStart_14 rfl (lv_at hl 0 rfl) ?_
    refine lv_iload hx hb dX8_stormStart_15 (lv_at hl 4 rfl) ?_
    refine lv_iload_n hx hb dX8_stormStart_17 rfl (lv_at hl 2 rfl) ?_
    obtain ⟨r2, h3, hF⟩ := ob1_ex hF
    refine xiR (va_runV (As := [.int x_4, .int x_2]) (rest := []) ⟨hx, hb, hml, hown, hts⟩ (met_X8_stormLength l D ct q_t q_t_indices H.size t_size t_indices x_4 x_2 n r2 h3) (cwV 2 hts gX8_stormStart_X8_stormLength rfl rfl rfl (by decide +kernel) ⟨Nat.le_of_ble_eq_true rfl, Nat.le_of_ble_eq_true rfl⟩) ⟨blind_, va_recv hE.1 hP (ci := 8) (q0 := 0) rfl rfl, mkpre_ hE hP hD⟩ rfl rfl hl.1 rfl (lv_room (Nat.le_of_ble_eq_true rfl)) dX8_stormStart_18 ⟨Nat.le_of_ble_eq_true rfl, Nat.le_of_ble_eq_true rfl⟩) hP hD hS hA [0, 1] rfl (fun H locs hP hD hS => ?_)
    refine lv_istore (lv' := [(5, .int r2), (0, .ref q_t), (1, .int x_1), (2, .int x_2), (3, .int x_3), (4, .int x_4)]) hx hb dX8_stormStart_21 hl (by decide) rfl (fun ls hl => ?_)
    refine lv_iload hx hb dX8_stormStart_23 (lv_at hl 0 rfl) ?_
    refine lv_iconst (v := 2) hx hb dX8_stormStart_25 (by decide) ?_
    refine lv_icmp_lt (tgt := 40) hx hb dX8_stormStart_26 (by decide) (fun c4 => ?_) (fun c4 => ?_)
    · have hF := ifT c4 hF
      refine lv_iload hx hb dX8_stormStart_40 (lv_at hl 5 rfl) ?_
      refine lv_iload hx hb dX8_stormStart_42 (lv_at hl 0 rfl) ?_
      refine lv_iconst (v := 1) hx hb dX8_stormStart_44 (by decide) ?_
      refine lv_iadd hx hb dX8_stormStart_45 ?_
      refine lv_iadd hx hb dX8_stormStart_46 ?_
      refine lv_topi (fun x5 ex5 => ?_)
      have hF := bn_as ex5 hF
      refine lv_istore (lv' := [(4, .int x5), (5, .int r2), (0, .ref q_t), (1, .int x_1), (2, .int x_2), (3, .int x_3)]) hx hb dX8_stormStart_47 hl (by decide) rfl (fun ls hl => ?_)
      refine lv_goto (tgt := 5) hx hb dX8_stormStart_49 (by decide) ?_
      exact hk5 x_1 x_2 x_3 x5 _ _ _ hF hP hD hS (lv_sub hl [2, 3, 4, 5, 0] rfl)
    · have hF := ifF c4 hF
      refine lv_iload_n hx hb dX8_stormStart_29 rfl (lv_at hl 4 rfl) ?_
      refine lv_iload_n hx hb dX8_stormStart_30 rfl (lv_at hl 2 rfl) ?_
      refine lv_icmp_ne (tgt := 37) hx hb dX8_stormStart_31 (by decide) (fun c6 => ?_) (fun c6 => ?_)
      · have hF := ifF c6 hF
        obtain ⟨x7, ex7⟩ : ∃ y : Int32, y = x_3 + 1 := ⟨_, rfl⟩
        refine lv_iinc (v := x7) (lv' := [(3, .int x7), (5, .int r2), (0, .ref q_t), (1, .int x_1), (2, .int x_2), (4, .int x_4)]) hx hb dX8_stormStart_37 hl (k := 4) rfl (by rw [ex7]; rfl) (by decide) rfl (fun ls hl => ?_)
        have hF := bn_as ex7 hF
        refine lv_iload hx hb dX8_stormStart_40 (lv_at hl 5 rfl) ?_
        refine lv_iload hx hb dX8_stormStart_42 (lv_at hl 1 rfl) ?_
        refine lv_iconst (v := 1) hx hb dX8_stormStart_44 (by decide) ?_
        refine lv_iadd hx hb dX8_stormStart_45 ?_
        refine lv_iadd hx hb dX8_stormStart_46 ?_
        refine lv_topi (fun x8 ex8 => ?_)
        have hF := bn_as ex8 hF
        refine lv_istore (lv' := [(4, .int x8), (3, .int x7), (5, .int r2), (0, .ref q_t), (1, .int x_1), (2, .int x_2)]) hx hb dX8_stormStart_47 hl (by decide) rfl (fun ls hl => ?_)
        refine lv_goto (tgt := 5) hx hb dX8_stormStart_49 (by decide) ?_
        exact hk5 x_1 x_2 x7 x8 _ _ _ hF hP hD hS (lv_sub hl [3, 4, 5, 1, 0] rfl)
      · have hF := ifT c6 hF
        refine lv_iload hx hb dX8_stormStart_34 (lv_at hl 5 rfl) ?_
        obtain rfl := Option.some.inj hF
        exact W.iret hx hb hr (fun t ht hW => ⟨⟨_, (), rfl, rfl, vaP_at ht hP⟩, hS.F ht⟩) hS.2.2 dX8_stormStart_36
theorem lX8_stormStart_5 {p : Program} {l : Launch} {e : Env} {s : State} {m : MethodId} {args : Array Value} {below : List Frame} {meth : Method} {c : Code} {D : va_G} {ct : Nat → ClassId} {A : Nat → Prop} {q_t q_t_indices : Nat} {t_size : Int32} {t_indices : Nat → Int32} {o_r : Int32} (C0 : Cx RX8 cX8_stormStart 6 (some .int) wsX8_stormStart D ct A p s m args meth c) : ∀ (n : Nat) (x_1 : Int32) (x_2 : Int32) (x_3 : Int32) (x_4 : Int32) (H : Heap) (locs : List Loc) (ls : Array Slot), LX8_stormStart_5 n t_size t_indices x_1 x_2 x_3 x_4 = some (o_r) → va_P D vwCl (W_11 ct q_t q_t_indices t_size t_indices) H → va_D A (W_11 ct q_t q_t_indices t_size t_indices) → va_S A s.heap H locs → lv_has ls 6 [(0, .ref q_t), (1, .int x_1), (2, .int x_2), (3, .int x_3), (4, .int x_4)] → W p l e ({ frames := 2, cells := 0, slots := 0, locals := 44 } : Room) s m args below meth c H locs 0 0 (MQ below (va_Qi (fun r (_ : Unit) => r = o_r) (fun _ t => va_P D vwCl (W_11 ct q_t q_t_indices t_size t_indices) t.heap) A) args s 0 0 A) (F0 m 5 ls []) := by
  intro n
  induction n with
  | zero => intro x_1 x_2 x_3 x_4 H locs ls hF; exact nomatch (show (none : Option (Int32)) = _ from hF)
  | succ n ih => intro x_1 x_2 x_3 x_4 H locs ls hF; exact jX8_stormStart_5 C0 (LX8_stormStart_5 n) ih n x_1 x_2 x_3 x_4 H locs ls hF
set_option maxHeartbeats 4000000 in
set_option maxRecDepth 100000 in
theorem met_X8_stormStart (l : Launch) (D : va_G) (ct : Nat → ClassId) (q_t : Nat) (q_t_indices : Nat) (sz : Nat) (t_size : Int32) (t_indices : Nat → Int32) (p1 : Int32) (p2 : Int32) (n : Nat) (o_r : Int32) (hF : FX8_stormStart n t_size t_indices p1 p2 = some (o_r)) : Met l yX8_stormStart wsX8_stormStart ({ frames := 2, cells := 0, slots := 0, locals := 44 } : Room) (va_Pc [.ref q_t, .int p1, .int p2] (pre_ D ct sz (W_11 ct q_t q_t_indices t_size t_indices))) (va_Qi (fun r (_ : Unit) => r = o_r) (fun _ t => va_P D vwCl (W_11 ct q_t q_t_indices t_size t_indices) t.heap) (va_A (W_11 ct q_t q_t_indices t_size t_indices) sz)) 0 0 (va_A (W_11 ct q_t q_t_indices t_size t_indices) sz) := by
  refine Met.ofW (cc := cX8_stormStart) (maxL := 6) (ret := (some .int)) (by decide) rfl ?_
  intro p e s m args below meth c s₁ B hml hv
  obtain ⟨rfl, hsz, hP, hE, hD0⟩ := hv
  have hx := B.exec
  have hb := B.bytes
  have hr := B.returns
  have hts := atoms_spec (ws := wsX8_stormStart) B.pre
  have hown : s.vm.findClass RX8 = some m.cls := findClass_of_methodNamed B.named
  have hlocks := B.notSynchronized
  subst hsz
  have hD := hD0.self (sz := s.heap.size)
  generalize hAe : va_A (W_11 ct q_t q_t_indices t_size t_indices) s.heap.size = A at hD ⊢
  have hA : ∀ q : Nat, s.heap.size ≤ q → A q := fun q h => by rw [← hAe]; exact Or.inr h
  have hl := lv_entry ([.ref q_t, .int p1, .int p2]) (n := 6) (Nat.le_of_ble_eq_true rfl)
  rw [lg_entry_eq]
  generalize (lg_sl ([.ref q_t, .int p1, .int p2]) ++ List.replicate (6 - (lg_sl ([.ref q_t, .int p1, .int p2])).length) Slot.unset).toArray = ls at hl ⊢
  have hl : lv_has ls 6 [(0, .ref q_t), (1, .int p1), (2, .int p2)] := hl
  have C0 : Cx RX8 cX8_stormStart 6 (some .int) wsX8_stormStart D ct A p s m ([.ref q_t, .int p1, .int p2]).toArray meth c := ⟨hx, hb, hml, hown, hts, hr, hlocks, hE, hA⟩
  have hS : ∀ H : Heap, s.heap = H → va_S A s.heap H [] := fun H h => h ▸ va_S.rf
  generalize hH : s.heap = H at hP ⊢
  have hS := hS H hH
  unfold FX8_stormStart at hF
  refine lv_iconst (v := 0) hx hb dX8_stormStart_0 (by decide) ?_
  refine lv_istore_n (lv' := [(3, .int 0), (0, .ref q_t), (1, .int p1), (2, .int p2)]) hx hb dX8_stormStart_1 rfl hl (by decide) rfl (fun ls hl => ?_)
  refine lv_iconst (v := 0) hx hb dX8_stormStart_2 (by decide) ?_
  refine lv_istore (lv' := [(4, .int 0), (3, .int 0), (0, .ref q_t), (1, .int p1), (2, .int p2)]) hx hb dX8_stormStart_3 hl (by decide) rfl (fun ls hl => ?_)
  exact lX8_stormStart_5 C0 n p1 p2 0 0 _ _ _ hF hP hD hS (lv_sub hl [2, 3, 4, 1, 0] rfl)
/-! NeedleHouse$Windows.quietWindow(I)I -/
theorem i_X8_quietWindow_X8 : ∀ w ∈ wsX80, w ∈ wsX8_quietWindow := by decide +kernel
set_option maxHeartbeats 4000000 in
set_option maxRecDepth 100000 in
theorem jX8_quietWindow_13 {p : Program} {l : Launch} {e : Env} {s : State} {m : MethodId} {args : Array Value} {below : List Frame} {meth : Method} {c : Code} {D : va_G} {ct : Nat → ClassId} {A : Nat → Prop} {q_t q_t_indices : Nat} {t_size : Int32} {t_indices : Nat → Int32} {o_r : Int32} (C0 : Cx RX8 cX8_quietWindow 5 (some .int) wsX8_quietWindow D ct A p s m args meth c) (k4 : Int32 → (Nat → Int32) → Int32 → Int32 → Int32 → Option (Int32)) (hk4 : ∀ (x_1 : Int32) (x_2 : Int32) (x_3 : Int32) (H : Heap) (locs : List Loc) (ls : Array Slot), k4 t_size t_indices x_1 x_2 x_3 = some (o_r) → va_P D vwCl (W_11 ct q_t q_t_indices t_size t_indices) H → va_D A (W_11 ct q_t q_t_indices t_size t_indices) → va_S A s.heap H locs → lv_has ls 5 [(0, .ref q_t), (1, .int x_1), (2, .int x_2), (3, .int x_3)] → W p l e ({ frames := 0, cells := 0, slots := 0, locals := 0 } : Room) s m args below meth c H locs 0 0 (MQ below (va_Qi (fun r (_ : Unit) => r = o_r) (fun _ t => va_P D vwCl (W_11 ct q_t q_t_indices t_size t_indices) t.heap) A) args s 0 0 A) (F0 m 4 ls [])) (k13 : Int32 → (Nat → Int32) → Int32 → Int32 → Int32 → Int32 → Option (Int32)) (hk13 : ∀ (x_1 : Int32) (x_2 : Int32) (x_3 : Int32) (x_4 : Int32) (H : Heap) (locs : List Loc) (ls : Array Slot), k13 t_size t_indices x_1 x_2 x_3 x_4 = some (o_r) → va_P D vwCl (W_11 ct q_t q_t_indices t_size t_indices) H → va_D A (W_11 ct q_t q_t_indices t_size t_indices) → va_S A s.heap H locs → lv_has ls 5 [(0, .ref q_t), (1, .int x_1), (2, .int x_2), (3, .int x_3), (4, .int x_4)] → W p l e ({ frames := 0, cells := 0, slots := 0, locals := 0 } : Room) s m args below meth c H locs 0 0 (MQ below (va_Qi (fun r (_ : Unit) => r = o_r) (fun _ t => va_P D vwCl (W_11 ct q_t q_t_indices t_size t_indices) t.heap) A) args s 0 0 A) (F0 m 13 ls [])) (n : Nat) (x_1 : Int32) (x_2 : Int32) (x_3 : Int32) (x_4 : Int32) (H : Heap) (locs : List Loc) (ls : Array Slot) : JX8_quietWindow_13 k4 k13 n t_size t_indices x_1 x_2 x_3 x_4 = some (o_r) → va_P D vwCl (W_11 ct q_t q_t_indices t_size t_indices) H → va_D A (W_11 ct q_t q_t_indices t_size t_indices) → va_S A s.heap H locs → lv_has ls 5 [(0, .ref q_t), (1, .int x_1), (2, .int x_2), (3, .int x_3), (4, .int x_4)] → W p l e ({ frames := 0, cells := 0, slots := 0, locals := 0 } : Room) s m args below meth c H locs 0 0 (MQ below (va_Qi (fun r (_ : Unit) => r = o_r) (fun _ t => va_P D vwCl (W_11 ct q_t q_t_indices t_size t_indices) t.heap) A) args s 0 0 A) (F0 m 13 ls []) := by
  intro hF hP hD hS hl
  obtain ⟨hx, hb, hml, hown, hts, hr, hlocks, hE, hA⟩ := id C0
  unfold JX8_quietWindow_13 at hF
  refine lv_iload hx hb dX8_quietWindow_13 (lv_at hl 4 rfl) ?_
  refine lv_aload_n hx hb dX8_quietWindow_15 rfl (lv_at hl 0 rfl) ?_
  refine va_get (D := D) (ci := 8) (v := .int t_size) (C := RX8) (T := TX8) (N := 2) hx hb hts i_X8_quietWindow_X8 hown hE.1 hP 0 rfl rfl 1 (by decide) (hts (.fieldLink RX8 15 "NeedleHouse$Windows" "size" "I") (by decide +kernel)) (fun _ h9 => h9) rfl dX8_quietWindow_16 ?_
  refine lv_icmp_ge (tgt := 50) hx hb dX8_quietWindow_19 (by decide) (fun c2 => ?_) (fun c2 => ?_)
  · have hF := ifT c2 hF
    obtain ⟨x3, ex3⟩ : ∃ y : Int32, y = x_3 + 1 := ⟨_, rfl⟩
    refine lv_iinc (v := x3) (lv' := [(3, .int x3), (0, .ref q_t), (1, .int x_1), (2, .int x_2), (4, .int x_4)]) hx hb dX8_quietWindow_50 hl (k := 3) rfl (by rw [ex3]; rfl) (by decide) rfl (fun ls hl => ?_)
    have hF := bn_as ex3 hF
    refine lv_goto (tgt := 4) hx hb dX8_quietWindow_53 (by decide) ?_
    exact hk4 x_1 x_2 x3 _ _ _ hF hP hD hS (lv_sub hl [1, 2, 3, 0] rfl)
  · have hF := ifF c2 hF
    refine lv_aload_n hx hb dX8_quietWindow_22 rfl (lv_at hl 0 rfl) ?_
    refine va_get (D := D) (ci := 8) (v := .ref q_t_indices) (C := RX8) (T := TX8) (N := 2) hx hb hts i_X8_quietWindow_X8 hown hE.1 hP 0 rfl rfl 0 (by decide) (hts (.fieldLink RX8 9 "NeedleHouse$Windows" "indices" "[I") (by decide +kernel)) (fun _ h9 => h9) rfl dX8_quietWindow_23 ?_
    refine lv_iload hx hb dX8_quietWindow_26 (lv_at hl 4 rfl) ?_
    obtain ⟨h4, hF⟩ := gd_ex hF
    refine va_iald hx hb hE.1 hP 1 0 rfl rfl h4 dX8_quietWindow_28 ?_
    refine lv_iload_n hx hb dX8_quietWindow_29 rfl (lv_at hl 3 rfl) ?_
    refine lv_icmp_ne (tgt := 44) hx hb dX8_quietWindow_30 (by decide) (fun c5 => ?_) (fun c5 => ?_)
    · have hF := ifF c5 hF
      obtain ⟨x6, ex6⟩ : ∃ y : Int32, y = x_4 + 1 := ⟨_, rfl⟩
      refine lv_iinc (v := x6) (lv' := [(4, .int x6), (0, .ref q_t), (1, .int x_1), (2, .int x_2), (3, .int x_3)]) hx hb dX8_quietWindow_44 hl (k := 4) rfl (by rw [ex6]; rfl) (by decide) rfl (fun ls hl => ?_)
      have hF := bn_as ex6 hF
      refine lv_goto (tgt := 13) hx hb dX8_quietWindow_47 (by decide) ?_
      exact hk13 x_1 x_2 x_3 x6 _ _ _ hF hP hD hS (lv_sub hl [1, 2, 3, 4, 0] rfl)
    · have hF := ifT c5 hF
      refine lv_iload_n hx hb dX8_quietWindow_33 rfl (lv_at hl 2 rfl) ?_
      refine lv_iload_n hx hb dX8_quietWindow_34 rfl (lv_at hl 1 rfl) ?_
      refine lv_icmp_ne (tgt := 41) hx hb dX8_quietWindow_35 (by decide) (fun c7 => ?_) (fun c7 => ?_)
      · have hF := ifF c7 hF
        obtain ⟨x8, ex8⟩ : ∃ y : Int32, y = x_2 + 1 := ⟨_, rfl⟩
        refine lv_iinc (v := x8) (lv' := [(2, .int x8), (0, .ref q_t), (1, .int x_1), (3, .int x_3), (4, .int x_4)]) hx hb dX8_quietWindow_41 hl (k := 2) rfl (by rw [ex8]; rfl) (by decide) rfl (fun ls hl => ?_)
        have hF := bn_as ex8 hF
        obtain ⟨x9, ex9⟩ : ∃ y : Int32, y = x_4 + 1 := ⟨_, rfl⟩
        refine lv_iinc (v := x9) (lv' := [(4, .int x9), (2, .int x8), (0, .ref q_t), (1, .int x_1), (3, .int x_3)]) hx hb dX8_quietWindow_44 hl (k := 4) rfl (by rw [ex9]; rfl) (by decide) rfl (fun ls hl => ?_)
        have hF := bn_as ex9 hF
        refine lv_goto (tgt := 13) hx hb dX8_quietWindow_47 (by decide) ?_
        exact hk13 x_1 x8 x_3 x9 _ _ _ hF hP hD hS (lv_sub hl [2, 3, 1, 4, 0] rfl)
      · have hF := ifT c7 hF
        refine lv_iload hx hb dX8_quietWindow_38 (lv_at hl 4 rfl) ?_
        obtain rfl := Option.some.inj hF
        exact W.iret hx hb hr (fun t ht hW => ⟨⟨_, (), rfl, rfl, vaP_at ht hP⟩, hS.F ht⟩) hS.2.2 dX8_quietWindow_40
theorem lX8_quietWindow_13 {p : Program} {l : Launch} {e : Env} {s : State} {m : MethodId} {args : Array Value} {below : List Frame} {meth : Method} {c : Code} {D : va_G} {ct : Nat → ClassId} {A : Nat → Prop} {q_t q_t_indices : Nat} {t_size : Int32} {t_indices : Nat → Int32} {o_r : Int32} (C0 : Cx RX8 cX8_quietWindow 5 (some .int) wsX8_quietWindow D ct A p s m args meth c) (k4 : Int32 → (Nat → Int32) → Int32 → Int32 → Int32 → Option (Int32)) (hk4 : ∀ (x_1 : Int32) (x_2 : Int32) (x_3 : Int32) (H : Heap) (locs : List Loc) (ls : Array Slot), k4 t_size t_indices x_1 x_2 x_3 = some (o_r) → va_P D vwCl (W_11 ct q_t q_t_indices t_size t_indices) H → va_D A (W_11 ct q_t q_t_indices t_size t_indices) → va_S A s.heap H locs → lv_has ls 5 [(0, .ref q_t), (1, .int x_1), (2, .int x_2), (3, .int x_3)] → W p l e ({ frames := 0, cells := 0, slots := 0, locals := 0 } : Room) s m args below meth c H locs 0 0 (MQ below (va_Qi (fun r (_ : Unit) => r = o_r) (fun _ t => va_P D vwCl (W_11 ct q_t q_t_indices t_size t_indices) t.heap) A) args s 0 0 A) (F0 m 4 ls [])) : ∀ (n : Nat) (x_1 : Int32) (x_2 : Int32) (x_3 : Int32) (x_4 : Int32) (H : Heap) (locs : List Loc) (ls : Array Slot), LX8_quietWindow_13 k4 n t_size t_indices x_1 x_2 x_3 x_4 = some (o_r) → va_P D vwCl (W_11 ct q_t q_t_indices t_size t_indices) H → va_D A (W_11 ct q_t q_t_indices t_size t_indices) → va_S A s.heap H locs → lv_has ls 5 [(0, .ref q_t), (1, .int x_1), (2, .int x_2), (3, .int x_3), (4, .int x_4)] → W p l e ({ frames := 0, cells := 0, slots := 0, locals := 0 } : Room) s m args below meth c H locs 0 0 (MQ below (va_Qi (fun r (_ : Unit) => r = o_r) (fun _ t => va_P D vwCl (W_11 ct q_t q_t_indices t_size t_indices) t.heap) A) args s 0 0 A) (F0 m 13 ls []) := by
  intro n
  induction n with
  | zero => intro x_1 x_2 x_3 x_4 H locs ls hF; exact nomatch (show (none : Option (Int32)) = _ from hF)
  | succ n ih => intro x_1 x_2 x_3 x_4 H locs ls hF; exact jX8_quietWindow_13 C0 k4 hk4 (LX8_quietWindow_13 k4 n) ih n x_1 x_2 x_3 x_4 H locs ls hF
set_option maxHeartbeats 4000000 in
set_option maxRecDepth 100000 in
theorem jX8_quietWindow_4 {p : Program} {l : Launch} {e : Env} {s : State} {m : MethodId} {args : Array Value} {below : List Frame} {meth : Method} {c : Code} {D : va_G} {ct : Nat → ClassId} {A : Nat → Prop} {q_t q_t_indices : Nat} {t_size : Int32} {t_indices : Nat → Int32} {o_r : Int32} (C0 : Cx RX8 cX8_quietWindow 5 (some .int) wsX8_quietWindow D ct A p s m args meth c) (k4 : Int32 → (Nat → Int32) → Int32 → Int32 → Int32 → Option (Int32)) (hk4 : ∀ (x_1 : Int32) (x_2 : Int32) (x_3 : Int32) (H : Heap) (locs : List Loc) (ls : Array Slot), k4 t_size t_indices x_1 x_2 x_3 = some (o_r) → va_P D vwCl (W_11 ct q_t q_t_indices t_size t_indices) H → va_D A (W_11 ct q_t q_t_indices t_size t_indices) → va_S A s.heap H locs → lv_has ls 5 [(0, .ref q_t), (1, .int x_1), (2, .int x_2), (3, .int x_3)] → W p l e ({ frames := 0, cells := 0, slots := 0, locals := 0 } : Room) s m args below meth c H locs 0 0 (MQ below (va_Qi (fun r (_ : Unit) => r = o_r) (fun _ t => va_P D vwCl (W_11 ct q_t q_t_indices t_size t_indices) t.heap) A) args s 0 0 A) (F0 m 4 ls [])) (n : Nat) (x_1 : Int32) (x_2 : Int32) (x_3 : Int32) (H : Heap) (locs : List Loc) (ls : Array Slot) : JX8_quietWindow_4 k4 n t_size t_indices x_1 x_2 x_3 = some (o_r) → va_P D vwCl (W_11 ct q_t q_t_indices t_size t_indices) H → va_D A (W_11 ct q_t q_t_indices t_size t_indices) → va_S A s.heap H locs → lv_has ls 5 [(0, .ref q_t), (1, .int x_1), (2, .int x_2), (3, .int x_3)] → W p l e ({ frames := 0, cells := 0, slots := 0, locals := 0 } : Room) s m args below meth c H locs 0 0 (MQ below (va_Qi (fun r (_ : Unit) => r = o_r) (fun _ t => va_P D vwCl (W_11 ct q_t q_t_indices t_size t_indices) t.heap) A) args s 0 0 A) (F0 m 4 ls []) := by
  intro hF hP hD hS hl
  obtain ⟨hx, hb, hml, hown, hts, hr, hlocks, hE, hA⟩ := id C0
  unfold JX8_quietWindow_4 at hF
  refine lv_iload_n hx hb dX8_quietWindow_4 rfl (lv_at hl 3 rfl) ?_
  refine lv_bipush (v := 9) hx hb dX8_quietWindow_5 (by decide) ?_
  refine lv_icmp_gt (tgt := 56) hx hb dX8_quietWindow_7 (by decide) (fun c1 => ?_) (fun c1 => ?_)
  · have hF := ifT c1 hF
    refine lv_iconst (v := (-1)) hx hb dX8_quietWindow_56 (by decide) ?_
    obtain rfl := Option.some.inj hF
    exact W.iret hx hb hr (fun t ht hW => ⟨⟨_, (), rfl, rfl, vaP_at ht hP⟩, hS.F ht⟩) hS.2.2 dX8_quietWindow_57
  · have hF := ifF c1 hF
    refine lv_iconst (v := 0) hx hb dX8_quietWindow_10 (by decide) ?_
    refine lv_istore (lv' := [(4, .int 0), (0, .ref q_t), (1, .int x_1), (2, .int x_2), (3, .int x_3)]) hx hb dX8_quietWindow_11 hl (by decide) rfl (fun ls hl => ?_)
    exact lX8_quietWindow_13 C0 k4 hk4 n x_1 x_2 x_3 0 _ _ _ hF hP hD hS (lv_sub hl [1, 2, 3, 4, 0] rfl)
theorem lX8_quietWindow_4 {p : Program} {l : Launch} {e : Env} {s : State} {m : MethodId} {args : Array Value} {below : List Frame} {meth : Method} {c : Code} {D : va_G} {ct : Nat → ClassId} {A : Nat → Prop} {q_t q_t_indices : Nat} {t_size : Int32} {t_indices : Nat → Int32} {o_r : Int32} (C0 : Cx RX8 cX8_quietWindow 5 (some .int) wsX8_quietWindow D ct A p s m args meth c) : ∀ (n : Nat) (x_1 : Int32) (x_2 : Int32) (x_3 : Int32) (H : Heap) (locs : List Loc) (ls : Array Slot), LX8_quietWindow_4 n t_size t_indices x_1 x_2 x_3 = some (o_r) → va_P D vwCl (W_11 ct q_t q_t_indices t_size t_indices) H → va_D A (W_11 ct q_t q_t_indices t_size t_indices) → va_S A s.heap H locs → lv_has ls 5 [(0, .ref q_t), (1, .int x_1), (2, .int x_2), (3, .int x_3)] → W p l e ({ frames := 0, cells := 0, slots := 0, locals := 0 } : Room) s m args below meth c H locs 0 0 (MQ below (va_Qi (fun r (_ : Unit) => r = o_r) (fun _ t => va_P D vwCl (W_11 ct q_t q_t_indices t_size t_indices) t.heap) A) args s 0 0 A) (F0 m 4 ls []) := by
  intro n
  induction n with
  | zero => intro x_1 x_2 x_3 H locs ls hF; exact nomatch (show (none : Option (Int32)) = _ from hF)
  | succ n ih => intro x_1 x_2 x_3 H locs ls hF; exact jX8_quietWindow_4 C0 (LX8_quietWindow_4 n) ih n x_1 x_2 x_3 H locs ls hF
set_option maxHeartbeats 4000000 in
set_option maxRecDepth 100000 in
theorem met_X8_quietWindow (l : Launch) (D : va_G) (ct : Nat → ClassId) (q_t : Nat) (q_t_indices : Nat) (sz : Nat) (t_size : Int32) (t_indices : Nat → Int32) (p1 : Int32) (n : Nat) (o_r : Int32) (hF : FX8_quietWindow n t_size t_indices p1 = some (o_r)) : Met l yX8_quietWindow wsX8_quietWindow ({ frames := 0, cells := 0, slots := 0, locals := 0 } : Room) (va_Pc [.ref q_t, .int p1] (pre_ D ct sz (W_11 ct q_t q_t_indices t_size t_indices))) (va_Qi (fun r (_ : Unit) => r = o_r) (fun _ t => va_P D vwCl (W_11 ct q_t q_t_indices t_size t_indices) t.heap) (va_A (W_11 ct q_t q_t_indices t_size t_indices) sz)) 0 0 (va_A (W_11 ct q_t q_t_indices t_size t_indices) sz) := by
  refine Met.ofW (cc := cX8_quietWindow) (maxL := 5) (ret := (some .int)) (by decide) rfl ?_
  intro p e s m args below meth c s₁ B hml hv
  obtain ⟨rfl, hsz, hP, hE, hD0⟩ := hv
  have hx := B.exec
  have hb := B.bytes
  have hr := B.returns
  have hts := atoms_spec (ws := wsX8_quietWindow) B.pre
  have hown : s.vm.findClass RX8 = some m.cls := findClass_of_methodNamed B.named
  have hlocks := B.notSynchronized
  subst hsz
  have hD := hD0.self (sz := s.heap.size)
  generalize hAe : va_A (W_11 ct q_t q_t_indices t_size t_indices) s.heap.size = A at hD ⊢
  have hA : ∀ q : Nat, s.heap.size ≤ q → A q := fun q h => by rw [← hAe]; exact Or.inr h
  have hl := lv_entry ([.ref q_t, .int p1]) (n := 5) (Nat.le_of_ble_eq_true rfl)
  rw [lg_entry_eq]
  generalize (lg_sl ([.ref q_t, .int p1]) ++ List.replicate (5 - (lg_sl ([.ref q_t, .int p1])).length) Slot.unset).toArray = ls at hl ⊢
  have hl : lv_has ls 5 [(0, .ref q_t), (1, .int p1)] := hl
  have C0 : Cx RX8 cX8_quietWindow 5 (some .int) wsX8_quietWindow D ct A p s m ([.ref q_t, .int p1]).toArray meth c := ⟨hx, hb, hml, hown, hts, hr, hlocks, hE, hA⟩
  have hS : ∀ H : Heap, s.heap = H → va_S A s.heap H [] := fun H h => h ▸ va_S.rf
  generalize hH : s.heap = H at hP ⊢
  have hS := hS H hH
  unfold FX8_quietWindow at hF
  refine lv_iconst (v := 0) hx hb dX8_quietWindow_0 (by decide) ?_
  refine lv_istore_n (lv' := [(2, .int 0), (0, .ref q_t), (1, .int p1)]) hx hb dX8_quietWindow_1 rfl hl (by decide) rfl (fun ls hl => ?_)
  refine lv_iconst (v := 0) hx hb dX8_quietWindow_2 (by decide) ?_
  refine lv_istore_n (lv' := [(3, .int 0), (2, .int 0), (0, .ref q_t), (1, .int p1)]) hx hb dX8_quietWindow_3 rfl hl (by decide) rfl (fun ls hl => ?_)
  exact lX8_quietWindow_4 C0 n p1 0 0 _ _ _ hF hP hD hS (lv_sub hl [2, 3, 1, 0] rfl)
