/-! constructors: the array classes are those of the tables -/
theorem addStep_s {n k : Nat} {f : Nat → Int32} {x : Int32} (hk : k < 9) : FX3_addStep n (nI k) f x = some (nI (k + 1), upd f k x) := by
  unfold FX3_addStep
  rw [if_neg (show ¬ (9 : Int32) ≤ nI k from nI_ge hk (show 9 < 2 ^ 31 by omega)), gd_t (vp_in_nI hk (by omega)), nI_clamp (by omega)]
  show some (nI k + 1, upd f k x) = _
  rw [nI_1]
theorem reset_s {n : Nat} {a b c d e f g h : Int32} {w : Nat → Int32} : FX3_reset n a b c d e f g h w = some (50, 5, 1, 2, 10, 5, 9, 0, upd (upd (upd (upd (upd (upd (upd (upd (upd w 0 5) 1 10) 2 20) 3 40) 4 70) 5 120) 6 200) 7 330) 8 500) := by
  unfold FX3_reset FX3_clearSteps
  have z : ∀ (g : Nat → Int32) (x : Int32), FX3_addStep n 0 g x = some (nI (0 + 1), upd g 0 x) := fun g x => addStep_s (k := 0) (by omega)
  simp (disch := omega) only [ob1, ob2, Option.bind_some, z, addStep_s]
  rfl
theorem ct_of {D : va_G} {ct : Nat → ClassId} {s : State} {cA : ClassId} {ty : FieldType} (t : Nat) (hK : va_K D vwCl (tysL ct) s) (hK1 : va_K D vwCl (tysL ct ++ [(cA, ty)]) s) (ht : (tysL ct)[t]? = some (ct t, ty)) (hr : ∀ c c' : ClassId, va_RA s c ty → va_RA s c' ty → c = c') : cA = ct t :=
  hr _ _ ((hK1.2 5 (cA, ty) rfl).2) ((hK.2 t _ ht).2)
theorem ct_eq0 {D : va_G} {ct : Nat → ClassId} {s : State} {cA : ClassId} (hK : va_K D vwCl (tysL ct) s) (hK1 : va_K D vwCl (tysL ct ++ [(cA, .int)]) s) : cA = ct 0 := ct_of 0 hK hK1 rfl (fun _ _ h1 h2 => Option.some.inj ((show s.vm.findClass _ = _ from h1).symm.trans h2))
theorem ct_eq1 {D : va_G} {ct : Nat → ClassId} {s : State} {cA : ClassId} (hK : va_K D vwCl (tysL ct) s) (hK1 : va_K D vwCl (tysL ct ++ [(cA, .long)]) s) : cA = ct 1 := ct_of 1 hK hK1 rfl (fun _ _ h1 h2 => Option.some.inj ((show s.vm.findClass _ = _ from h1).symm.trans h2))
theorem ct_eq2 {D : va_G} {ct : Nat → ClassId} {s : State} {cA : ClassId} (hK : va_K D vwCl (tysL ct) s) (hK1 : va_K D vwCl (tysL ct ++ [(cA, .boolean)]) s) : cA = ct 2 := ct_of 2 hK hK1 rfl (fun _ _ h1 h2 => Option.some.inj ((show s.vm.findClass _ = _ from h1).symm.trans h2))
theorem ct_eq3 {D : va_G} {ct : Nat → ClassId} {s : State} {cA : ClassId} (hK : va_K D vwCl (tysL ct) s) (hK1 : va_K D vwCl (tysL ct ++ [(cA, .byte)]) s) : cA = ct 3 := ct_of 3 hK hK1 rfl (fun _ _ h1 h2 => Option.some.inj ((show s.vm.findClass _ = _ from h1).symm.trans h2))
theorem ct_eq4 {D : va_G} {ct : Nat → ClassId} {s : State} {cA : ClassId} (hK : va_K D vwCl (tysL ct) s) (hK1 : va_K D vwCl (tysL ct ++ [(cA, .object "NeedleHouse$Track")]) s) : cA = ct 4 := ct_of 4 hK hK1 rfl (fun _ _ h1 h2 => by
  obtain ⟨_, _, _, _, _, h3⟩ := h1
  obtain ⟨_, _, _, _, _, h4⟩ := h2
  exact Option.some.inj (h3.symm.trans h4))
def preA (D : va_G) (ct : Nat → ClassId) (sz : Nat) (ws : va_W) (U : State) : Prop := pre_ D ct sz ws U ∧ va_AO "NeedleHouse$Track" U
theorem nf_X0 : ∀ j, j < 5 → defaultValue (tyX0 j) = vp_V [.null, .null, .null, .null, .int 0] j := by
  intro j hj
  rcases (show j = 0 ∨ j = 1 ∨ j = 2 ∨ j = 3 ∨ j = 4 by omega) with rfl | rfl | rfl | rfl | rfl <;> rfl
theorem nf_X1 : ∀ j, j < 14 → defaultValue (tyX1 j) = vp_V [.null, .null, .null, .int 0, .null, .null, .null, .null, .null, .int 0, .long 0, .long 0, .long 0, .long 0] j := by
  intro j hj
  rcases (show j = 0 ∨ j = 1 ∨ j = 2 ∨ j = 3 ∨ j = 4 ∨ j = 5 ∨ j = 6 ∨ j = 7 ∨ j = 8 ∨ j = 9 ∨ j = 10 ∨ j = 11 ∨ j = 12 ∨ j = 13 by omega) with rfl | rfl | rfl | rfl | rfl | rfl | rfl | rfl | rfl | rfl | rfl | rfl | rfl | rfl <;> rfl
theorem nf_X2 : ∀ j, j < 2 → defaultValue (tyX2 j) = vp_V [.null, .int 0] j := by
  intro j hj
  rcases (show j = 0 ∨ j = 1 by omega) with rfl | rfl <;> rfl
theorem nf_X3 : ∀ j, j < 9 → defaultValue (tyX3 j) = vp_V [.int 0, .int 0, .int 0, .int 0, .int 0, .int 0, .null, .int 0, .int 0] j := by
  intro j hj
  rcases (show j = 0 ∨ j = 1 ∨ j = 2 ∨ j = 3 ∨ j = 4 ∨ j = 5 ∨ j = 6 ∨ j = 7 ∨ j = 8 by omega) with rfl | rfl | rfl | rfl | rfl | rfl | rfl | rfl | rfl <;> rfl
theorem nf_X4 : ∀ j, j < 6 → defaultValue (tyX4 j) = vp_V [.null, .int 0, .int 0, .int 0, .int 0, .int 0] j := by
  intro j hj
  rcases (show j = 0 ∨ j = 1 ∨ j = 2 ∨ j = 3 ∨ j = 4 ∨ j = 5 by omega) with rfl | rfl | rfl | rfl | rfl | rfl <;> rfl
theorem nf_X5 : ∀ j, j < 2 → defaultValue (tyX5 j) = vp_V [.null, .int 0] j := by
  intro j hj
  rcases (show j = 0 ∨ j = 1 by omega) with rfl | rfl <;> rfl
theorem nf_X6 : ∀ j, j < 8 → defaultValue (tyX6 j) = vp_V [.null, .null, .null, .null, .null, .null, .null, .int 0] j := by
  intro j hj
  rcases (show j = 0 ∨ j = 1 ∨ j = 2 ∨ j = 3 ∨ j = 4 ∨ j = 5 ∨ j = 6 ∨ j = 7 by omega) with rfl | rfl | rfl | rfl | rfl | rfl | rfl | rfl <;> rfl
theorem nf_X7 : ∀ j, j < 2 → defaultValue (tyX7 j) = vp_V [.null, .int 0] j := by
  intro j hj
  rcases (show j = 0 ∨ j = 1 by omega) with rfl | rfl <;> rfl
theorem nf_X8 : ∀ j, j < 2 → defaultValue (tyX8 j) = vp_V [.null, .int 0] j := by
  intro j hj
  rcases (show j = 0 ∨ j = 1 by omega) with rfl | rfl <;> rfl
theorem nf_X9 : ∀ j, j < 9 → defaultValue (tyX9 j) = vp_V [.null, .null, .null, .null, .null, .null, .null, .int 0, .int 0] j := by
  intro j hj
  rcases (show j = 0 ∨ j = 1 ∨ j = 2 ∨ j = 3 ∨ j = 4 ∨ j = 5 ∨ j = 6 ∨ j = 7 ∨ j = 8 by omega) with rfl | rfl | rfl | rfl | rfl | rfl | rfl | rfl | rfl <;> rfl
theorem nf_X10 : ∀ j, j < 54 → defaultValue (tyX10 j) = vp_V [.int 0, .null, .null, .null, .null, .null, .null, .null, .null, .null, .int 0, .null, .null, .null, .int 0, .null, .null, .null, .null, .null, .int 0, .long 0, .long 0, .long 0, .long 0, .null, .int 0, .int 0, .int 0, .int 0, .int 0, .int 0, .int 0, .int 0, .int 0, .int 0, .int 0, .int 0, .int 0, .null, .int 0, .int 0, .int 0, .int 0, .int 0, .int 0, .int 0, .null, .int 0, .null, .null, .int 0, .null, .int 0] j := by
  intro j hj
  rcases (show j = 0 ∨ j = 1 ∨ j = 2 ∨ j = 3 ∨ j = 4 ∨ j = 5 ∨ j = 6 ∨ j = 7 ∨ j = 8 ∨ j = 9 ∨ j = 10 ∨ j = 11 ∨ j = 12 ∨ j = 13 ∨ j = 14 ∨ j = 15 ∨ j = 16 ∨ j = 17 ∨ j = 18 ∨ j = 19 ∨ j = 20 ∨ j = 21 ∨ j = 22 ∨ j = 23 ∨ j = 24 ∨ j = 25 ∨ j = 26 ∨ j = 27 ∨ j = 28 ∨ j = 29 ∨ j = 30 ∨ j = 31 ∨ j = 32 ∨ j = 33 ∨ j = 34 ∨ j = 35 ∨ j = 36 ∨ j = 37 ∨ j = 38 ∨ j = 39 ∨ j = 40 ∨ j = 41 ∨ j = 42 ∨ j = 43 ∨ j = 44 ∨ j = 45 ∨ j = 46 ∨ j = 47 ∨ j = 48 ∨ j = 49 ∨ j = 50 ∨ j = 51 ∨ j = 52 ∨ j = 53 by omega) with rfl | rfl | rfl | rfl | rfl | rfl | rfl | rfl | rfl | rfl | rfl | rfl | rfl | rfl | rfl | rfl | rfl | rfl | rfl | rfl | rfl | rfl | rfl | rfl | rfl | rfl | rfl | rfl | rfl | rfl | rfl | rfl | rfl | rfl | rfl | rfl | rfl | rfl | rfl | rfl | rfl | rfl | rfl | rfl | rfl | rfl | rfl | rfl | rfl | rfl | rfl | rfl | rfl | rfl <;> rfl
theorem mobj_X2_init : Cond.code objectInit ⟨#[0xb1]⟩ 1 none ∈ wsX2_init.tail := by decide +kernel
theorem mobj_X0_init : Cond.code objectInit ⟨#[0xb1]⟩ 1 none ∈ wsX0_init.tail := by decide +kernel
theorem mobj_X1_init : Cond.code objectInit ⟨#[0xb1]⟩ 1 none ∈ wsX1_init.tail := by decide +kernel
theorem mobj_X5_init : Cond.code objectInit ⟨#[0xb1]⟩ 1 none ∈ wsX5_init.tail := by decide +kernel
theorem mobj_X7_init : Cond.code objectInit ⟨#[0xb1]⟩ 1 none ∈ wsX7_init.tail := by decide +kernel
theorem mobj_X8_init : Cond.code objectInit ⟨#[0xb1]⟩ 1 none ∈ wsX8_init.tail := by decide +kernel
theorem mobj_X3_init : Cond.code objectInit ⟨#[0xb1]⟩ 1 none ∈ wsX3_init.tail := by decide +kernel
theorem mobj_X4_init : Cond.code objectInit ⟨#[0xb1]⟩ 1 none ∈ wsX4_init.tail := by decide +kernel
theorem mobj_X6_init : Cond.code objectInit ⟨#[0xb1]⟩ 1 none ∈ wsX6_init.tail := by decide +kernel
theorem mobj_X9_init : Cond.code objectInit ⟨#[0xb1]⟩ 1 none ∈ wvX9_init.tail := by decide +kernel
theorem mobj_X10_init : Cond.code objectInit ⟨#[0xb1]⟩ 1 none ∈ wvX10_init.tail := by decide +kernel
theorem i_X2_init_X2 : ∀ w ∈ wsX20, w ∈ wsX2_init := by decide +kernel
set_option maxHeartbeats 4000000 in
set_option maxRecDepth 100000 in
theorem met_X2_init (l : Launch) (D : va_G) (ct : Nat → ClassId) (q_t : Nat) (sz : Nat) (n : Nat) (o_1 : Nat → Int32) (hF : FX2_init n = some (o_1)) : Met l yX2_init wsX2_init ({ frames := 1, cells := 1, slots := 300, locals := 23 } : Room) (va_Pc [.ref q_t] (pre_ D ct sz [(q_t, .inr (2, [.null, .int 0]))])) (va_Qv (fun (_ : Unit) => True) (fun (_ : Unit) (t : State) => ∃ b1 : Nat, va_P D vwCl [(q_t, .inr (2, [.ref b1, .int 0])), (b1, .inl (ct 0, 300, .inl o_1))] t.heap ∧ va_D (va_A [(q_t, .inr (2, [.null, .int 0]))] sz) [(q_t, .inr (2, [.ref b1, .int 0])), (b1, .inl (ct 0, 300, .inl o_1))]) (va_A [(q_t, .inr (2, [.null, .int 0]))] sz)) 1 300 (va_A [(q_t, .inr (2, [.null, .int 0]))] sz) := by
  refine Met.ofW (cc := cX2_init) (maxL := 1) (ret := none) (by decide) rfl ?_
  intro p e s m args below meth c s₁ B hml hv
  obtain ⟨rfl, hsz, hP, hE, hD0⟩ := hv
  have hx := B.exec
  have hb := B.bytes
  have hr := B.returns
  have hts := atoms_spec (ws := wsX2_init) B.pre
  have hown : s.vm.findClass RX2 = some m.cls := findClass_of_methodNamed B.named
  have hlocks := B.notSynchronized
  have hin : meth.name = "<init>" := (name_of_methodNamed B.named B.method).1
  subst hsz
  have hD := hD0.self (sz := s.heap.size)
  generalize hAe : va_A [(q_t, .inr (2, [.null, .int 0]))] s.heap.size = A at hD ⊢
  have hA : ∀ q : Nat, s.heap.size ≤ q → A q := fun q h => by rw [← hAe]; exact Or.inr h
  have hl := lv_entry ([.ref q_t]) (n := 1) (Nat.le_of_ble_eq_true rfl)
  rw [lg_entry_eq]
  generalize (lg_sl ([.ref q_t]) ++ List.replicate (1 - (lg_sl ([.ref q_t])).length) Slot.unset).toArray = ls at hl ⊢
  have hl : lv_has ls 1 [(0, .ref q_t)] := hl
  have C0 : Cx RX2 cX2_init 1 none wsX2_init D ct A p s m ([.ref q_t]).toArray meth c := ⟨hx, hb, hml, hown, hts, hr, hlocks, hE, hA⟩
  have hS : ∀ H : Heap, s.heap = H → va_S A s.heap H [] := fun H h => h ▸ va_S.rf
  generalize hH : s.heap = H at hP ⊢
  have hS := hS H hH
  unfold FX2_init at hF
  refine lv_aload_n hx hb dX2_init_0 rfl (lv_at hl 0 rfl) ?_
  refine W.objInit hx hb hown (hts (.methodLink RX2 3 objectInit) (by decide +kernel)) (hts (.instanceMethod objectInit) (by decide +kernel)) (hts _ (List.mem_cons_of_mem _ (mobj_X2_init))) rfl (by rw [hml]; exact hl.1) rfl dX2_init_1 (Nat.le_of_ble_eq_true rfl) (Nat.le_of_ble_eq_true rfl) ?_
  refine W.eq (g2 := F0 m 4 ls []) rfl ?_
  refine lv_aload_n hx hb dX2_init_4 rfl (lv_at hl 0 rfl) ?_
  refine lv_sipush (v := 300) hx hb dX2_init_5 (by decide) ?_
  refine va_newa (atype := .int) (a0 := (300, .inl (fun _ => 0))) (ty := .int) hx hb (hts (.arrayClass .int) (by decide +kernel)) rfl hE.1 hP hD hS hA (fun cA => rfl) (by decide) (by decide) (by decide) (Nat.le_of_ble_eq_true rfl) (Nat.le_of_ble_eq_true rfl) dX2_init_8 (fun q1 cA H hK1 hP hD hS => ?_)
  obtain rfl : cA = ct 0 := ct_eq0 hE.1 hK1
  have hP : va_P D vwCl [(q_t, .inr (2, [.null, .int 0])), (q1, .inl (ct 0, 300, .inl ((fun _ => 0))))] H := hP
  have hD : va_D A [(q_t, .inr (2, [.null, .int 0])), (q1, .inl (ct 0, 300, .inl ((fun _ => 0))))] := hD
  refine W.widen (k := 1) (n := 300) (by omega) (by omega) ?_
  refine va_putF (D := D) (ci := 2) (v := .ref q1) (ty := .array .int) (C := RX2) (T := TX2) (N := 2) hx hb hts i_X2_init_X2 tyX2 tyX2_ok nmX2 hown hE.1 hP hD hS 0 rfl rfl 0 (by decide) (hts (.fieldLink RX2 9 "NeedleHouse$Row" "readings" "[I") (by decide +kernel)) (fun _ h9 => h9) rfl hin rfl (by decide +kernel) rfl rfl (Nat.le_of_ble_eq_true rfl) dX2_init_10 (fun H locs hP hD hS => ?_)
  have hP : va_P D vwCl [(q_t, .inr (2, [.ref q1, .int 0])), (q1, .inl (ct 0, 300, .inl ((fun _ => 0))))] H := hP
  have hD : va_D A [(q_t, .inr (2, [.ref q1, .int 0])), (q1, .inl (ct 0, 300, .inl ((fun _ => 0))))] := hD
  refine lv_aload_n hx hb dX2_init_13 rfl (lv_at hl 0 rfl) ?_
  refine va_get (D := D) (ci := 2) (v := .ref q1) (C := RX2) (T := TX2) (N := 2) hx hb hts i_X2_init_X2 hown hE.1 hP 0 rfl rfl 0 (by decide) (hts (.fieldLink RX2 9 "NeedleHouse$Row" "readings" "[I") (by decide +kernel)) (fun _ h9 => h9) rfl dX2_init_14 ?_
  refine lv_ldc hx hb hown (hts (.constant RX2 15 (-2000000000)) (by decide +kernel)) dX2_init_17 ?_
  obtain ⟨f3, h2, hF⟩ := ob1_ex hF
  refine xvN (ws1 := [(q_t, .inr (2, [.ref q1, .int 0])), (q1, .inl (ct 0, 300, .inl f3))]) (va_runS (As := [.ref q1, .int ((-2000000000))]) (rest := []) ⟨hx, hb, hml, hown, hts⟩ (met_J7_fill_53178 l D ct q1 300 H.size ((fun _ => 0)) ((-2000000000)) n f3 h2) (va_cwS 2 hts gX2_init_J7_fill_53178 rfl rfl rfl (by decide +kernel) ⟨Nat.le_of_ble_eq_true rfl, Nat.le_of_ble_eq_true rfl⟩) ⟨blind_, mkpre_ hE (hP.sub [1] rfl) (hD.sub [1] (by decide) rfl)⟩ rfl rfl hl.1 rfl (lv_room (Nat.le_of_ble_eq_true rfl)) dX2_init_19 ⟨Nat.le_of_ble_eq_true rfl, Nat.le_of_ble_eq_true rfl⟩) hP hD hS hA [1] [0] 2 rfl rfl rfl rfl (by decide) rfl (fun H locs hP hD hS => ?_)
  refine lv_aload_n hx hb dX2_init_22 rfl (lv_at hl 0 rfl) ?_
  refine lv_iconst (v := 0) hx hb dX2_init_23 (by decide) ?_
  refine va_put (D := D) (ci := 2) (v := .int 0) (ty := .int) (C := RX2) (T := TX2) (N := 2) hx hb hts i_X2_init_X2 tyX2 tyX2_ok nmX2 hown hE.1 hP hD hS 0 rfl rfl 1 (by decide) (hts (.fieldLink RX2 22 "NeedleHouse$Row" "size" "I") (by decide +kernel)) (fun _ h9 => h9) rfl (by decide +kernel) rfl rfl (Nat.le_of_ble_eq_true rfl) dX2_init_24 (fun H locs hP hD hS => ?_)
  have hP : va_P D vwCl [(q_t, .inr (2, [.ref q1, .int 0])), (q1, .inl (ct 0, 300, .inl f3))] H := hP
  have hD : va_D A [(q_t, .inr (2, [.ref q1, .int 0])), (q1, .inl (ct 0, 300, .inl f3))] := hD
  obtain rfl := Option.some.inj hF
  refine W.widen (k := 1) (n := 300) (by omega) (by omega) ?_
  exact W.vret hx hb hr (fun t ht hW => ⟨⟨(), rfl, trivial, q1, vaP_at ht (hP.sub [0, 1] rfl), hD.sub [0, 1] (by decide) rfl⟩, hS.F ht⟩) hS.2.2 dX2_init_27
theorem i_X0_init_X0 : ∀ w ∈ wsX00, w ∈ wsX0_init := by decide +kernel
set_option maxHeartbeats 4000000 in
set_option maxRecDepth 100000 in
theorem met_X0_init (l : Launch) (D : va_G) (ct : Nat → ClassId) (q_t : Nat) (sz : Nat) (n : Nat) (hF : FX0_init n = some ()) : Met l yX0_init wsX0_init ({ frames := 1, cells := 4, slots := 80, locals := 20 } : Room) (va_Pc [.ref q_t] (pre_ D ct sz [(q_t, .inr (0, [.null, .null, .null, .null, .int 0]))])) (va_Qv (fun (_ : Unit) => True) (fun (_ : Unit) (t : State) => ∃ b1 b2 b3 b4 : Nat, va_P D vwCl [(q_t, .inr (0, [.ref b1, .ref b2, .ref b3, .ref b4, .int 0])), (b1, .inl (ct 0, 20, .inl ((fun _ => 0)))), (b2, .inl (ct 0, 20, .inl ((fun _ => 0)))), (b3, .inl (ct 0, 20, .inl ((fun _ => 0)))), (b4, .inl (ct 0, 20, .inl ((fun _ => 0))))] t.heap ∧ va_D (va_A [(q_t, .inr (0, [.null, .null, .null, .null, .int 0]))] sz) [(q_t, .inr (0, [.ref b1, .ref b2, .ref b3, .ref b4, .int 0])), (b1, .inl (ct 0, 20, .inl ((fun _ => 0)))), (b2, .inl (ct 0, 20, .inl ((fun _ => 0)))), (b3, .inl (ct 0, 20, .inl ((fun _ => 0)))), (b4, .inl (ct 0, 20, .inl ((fun _ => 0))))]) (va_A [(q_t, .inr (0, [.null, .null, .null, .null, .int 0]))] sz)) 4 80 (va_A [(q_t, .inr (0, [.null, .null, .null, .null, .int 0]))] sz) := by
  refine Met.ofW (cc := cX0_init) (maxL := 1) (ret := none) (by decide) rfl ?_
  intro p e s m args below meth c s₁ B hml hv
  obtain ⟨rfl, hsz, hP, hE, hD0⟩ := hv
  have hx := B.exec
  have hb := B.bytes
  have hr := B.returns
  have hts := atoms_spec (ws := wsX0_init) B.pre
  have hown : s.vm.findClass RX0 = some m.cls := findClass_of_methodNamed B.named
  have hlocks := B.notSynchronized
  have hin : meth.name = "<init>" := (name_of_methodNamed B.named B.method).1
  subst hsz
  have hD := hD0.self (sz := s.heap.size)
  generalize hAe : va_A [(q_t, .inr (0, [.null, .null, .null, .null, .int 0]))] s.heap.size = A at hD ⊢
  have hA : ∀ q : Nat, s.heap.size ≤ q → A q := fun q h => by rw [← hAe]; exact Or.inr h
  have hl := lv_entry ([.ref q_t]) (n := 1) (Nat.le_of_ble_eq_true rfl)
  rw [lg_entry_eq]
  generalize (lg_sl ([.ref q_t]) ++ List.replicate (1 - (lg_sl ([.ref q_t])).length) Slot.unset).toArray = ls at hl ⊢
  have hl : lv_has ls 1 [(0, .ref q_t)] := hl
  have C0 : Cx RX0 cX0_init 1 none wsX0_init D ct A p s m ([.ref q_t]).toArray meth c := ⟨hx, hb, hml, hown, hts, hr, hlocks, hE, hA⟩
  have hS : ∀ H : Heap, s.heap = H → va_S A s.heap H [] := fun H h => h ▸ va_S.rf
  generalize hH : s.heap = H at hP ⊢
  have hS := hS H hH
  unfold FX0_init at hF
  refine lv_aload_n hx hb dX0_init_0 rfl (lv_at hl 0 rfl) ?_
  refine W.objInit hx hb hown (hts (.methodLink RX0 3 objectInit) (by decide +kernel)) (hts (.instanceMethod objectInit) (by decide +kernel)) (hts _ (List.mem_cons_of_mem _ (mobj_X0_init))) rfl (by rw [hml]; exact hl.1) rfl dX0_init_1 (Nat.le_of_ble_eq_true rfl) (Nat.le_of_ble_eq_true rfl) ?_
  refine W.eq (g2 := F0 m 4 ls []) rfl ?_
  refine lv_aload_n hx hb dX0_init_4 rfl (lv_at hl 0 rfl) ?_
  refine lv_bipush (v := 20) hx hb dX0_init_5 (by decide) ?_
  refine va_newa (atype := .int) (a0 := (20, .inl (fun _ => 0))) (ty := .int) hx hb (hts (.arrayClass .int) (by decide +kernel)) rfl hE.1 hP hD hS hA (fun cA => rfl) (by decide) (by decide) (by decide) (Nat.le_of_ble_eq_true rfl) (Nat.le_of_ble_eq_true rfl) dX0_init_7 (fun q1 cA H hK1 hP hD hS => ?_)
  obtain rfl : cA = ct 0 := ct_eq0 hE.1 hK1
  have hP : va_P D vwCl [(q_t, .inr (0, [.null, .null, .null, .null, .int 0])), (q1, .inl (ct 0, 20, .inl ((fun _ => 0))))] H := hP
  have hD : va_D A [(q_t, .inr (0, [.null, .null, .null, .null, .int 0])), (q1, .inl (ct 0, 20, .inl ((fun _ => 0))))] := hD
  refine W.widen (k := 1) (n := 20) (by omega) (by omega) ?_
  refine va_putF (D := D) (ci := 0) (v := .ref q1) (ty := .array .int) (C := RX0) (T := TX0) (N := 5) hx hb hts i_X0_init_X0 tyX0 tyX0_ok nmX0 hown hE.1 hP hD hS 0 rfl rfl 0 (by decide) (hts (.fieldLink RX0 9 "NeedleHouse$Measures" "times" "[I") (by decide +kernel)) (fun _ h9 => h9) rfl hin rfl (by decide +kernel) rfl rfl (Nat.le_of_ble_eq_true rfl) dX0_init_9 (fun H locs hP hD hS => ?_)
  have hP : va_P D vwCl [(q_t, .inr (0, [.ref q1, .null, .null, .null, .int 0])), (q1, .inl (ct 0, 20, .inl ((fun _ => 0))))] H := hP
  have hD : va_D A [(q_t, .inr (0, [.ref q1, .null, .null, .null, .int 0])), (q1, .inl (ct 0, 20, .inl ((fun _ => 0))))] := hD
  refine lv_aload_n hx hb dX0_init_12 rfl (lv_at hl 0 rfl) ?_
  refine lv_bipush (v := 20) hx hb dX0_init_13 (by decide) ?_
  refine va_newa (atype := .int) (a0 := (20, .inl (fun _ => 0))) (ty := .int) hx hb (hts (.arrayClass .int) (by decide +kernel)) rfl hE.1 hP hD hS hA (fun cA => rfl) (by decide) (by decide) (by decide) (Nat.le_of_ble_eq_true rfl) (Nat.le_of_ble_eq_true rfl) dX0_init_15 (fun q2 cA H hK1 hP hD hS => ?_)
  obtain rfl : cA = ct 0 := ct_eq0 hE.1 hK1
  have hP : va_P D vwCl [(q_t, .inr (0, [.ref q1, .null, .null, .null, .int 0])), (q1, .inl (ct 0, 20, .inl ((fun _ => 0)))), (q2, .inl (ct 0, 20, .inl ((fun _ => 0))))] H := hP
  have hD : va_D A [(q_t, .inr (0, [.ref q1, .null, .null, .null, .int 0])), (q1, .inl (ct 0, 20, .inl ((fun _ => 0)))), (q2, .inl (ct 0, 20, .inl ((fun _ => 0))))] := hD
  refine W.widen (k := 2) (n := 40) (by omega) (by omega) ?_
  refine va_putF (D := D) (ci := 0) (v := .ref q2) (ty := .array .int) (C := RX0) (T := TX0) (N := 5) hx hb hts i_X0_init_X0 tyX0 tyX0_ok nmX0 hown hE.1 hP hD hS 0 rfl rfl 1 (by decide) (hts (.fieldLink RX0 15 "NeedleHouse$Measures" "means" "[I") (by decide +kernel)) (fun _ h9 => h9) rfl hin rfl (by decide +kernel) rfl rfl (Nat.le_of_ble_eq_true rfl) dX0_init_17 (fun H locs hP hD hS => ?_)
  have hP : va_P D vwCl [(q_t, .inr (0, [.ref q1, .ref q2, .null, .null, .int 0])), (q1, .inl (ct 0, 20, .inl ((fun _ => 0)))), (q2, .inl (ct 0, 20, .inl ((fun _ => 0))))] H := hP
  have hD : va_D A [(q_t, .inr (0, [.ref q1, .ref q2, .null, .null, .int 0])), (q1, .inl (ct 0, 20, .inl ((fun _ => 0)))), (q2, .inl (ct 0, 20, .inl ((fun _ => 0))))] := hD
  refine lv_aload_n hx hb dX0_init_20 rfl (lv_at hl 0 rfl) ?_
  refine lv_bipush (v := 20) hx hb dX0_init_21 (by decide) ?_
  refine va_newa (atype := .int) (a0 := (20, .inl (fun _ => 0))) (ty := .int) hx hb (hts (.arrayClass .int) (by decide +kernel)) rfl hE.1 hP hD hS hA (fun cA => rfl) (by decide) (by decide) (by decide) (Nat.le_of_ble_eq_true rfl) (Nat.le_of_ble_eq_true rfl) dX0_init_23 (fun q3 cA H hK1 hP hD hS => ?_)
  obtain rfl : cA = ct 0 := ct_eq0 hE.1 hK1
  have hP : va_P D vwCl [(q_t, .inr (0, [.ref q1, .ref q2, .null, .null, .int 0])), (q1, .inl (ct 0, 20, .inl ((fun _ => 0)))), (q2, .inl (ct 0, 20, .inl ((fun _ => 0)))), (q3, .inl (ct 0, 20, .inl ((fun _ => 0))))] H := hP
  have hD : va_D A [(q_t, .inr (0, [.ref q1, .ref q2, .null, .null, .int 0])), (q1, .inl (ct 0, 20, .inl ((fun _ => 0)))), (q2, .inl (ct 0, 20, .inl ((fun _ => 0)))), (q3, .inl (ct 0, 20, .inl ((fun _ => 0))))] := hD
  refine W.widen (k := 3) (n := 60) (by omega) (by omega) ?_
  refine va_putF (D := D) (ci := 0) (v := .ref q3) (ty := .array .int) (C := RX0) (T := TX0) (N := 5) hx hb hts i_X0_init_X0 tyX0 tyX0_ok nmX0 hown hE.1 hP hD hS 0 rfl rfl 2 (by decide) (hts (.fieldLink RX0 18 "NeedleHouse$Measures" "lefts" "[I") (by decide +kernel)) (fun _ h9 => h9) rfl hin rfl (by decide +kernel) rfl rfl (Nat.le_of_ble_eq_true rfl) dX0_init_25 (fun H locs hP hD hS => ?_)
  have hP : va_P D vwCl [(q_t, .inr (0, [.ref q1, .ref q2, .ref q3, .null, .int 0])), (q1, .inl (ct 0, 20, .inl ((fun _ => 0)))), (q2, .inl (ct 0, 20, .inl ((fun _ => 0)))), (q3, .inl (ct 0, 20, .inl ((fun _ => 0))))] H := hP
  have hD : va_D A [(q_t, .inr (0, [.ref q1, .ref q2, .ref q3, .null, .int 0])), (q1, .inl (ct 0, 20, .inl ((fun _ => 0)))), (q2, .inl (ct 0, 20, .inl ((fun _ => 0)))), (q3, .inl (ct 0, 20, .inl ((fun _ => 0))))] := hD
  refine lv_aload_n hx hb dX0_init_28 rfl (lv_at hl 0 rfl) ?_
  refine lv_bipush (v := 20) hx hb dX0_init_29 (by decide) ?_
  refine va_newa (atype := .int) (a0 := (20, .inl (fun _ => 0))) (ty := .int) hx hb (hts (.arrayClass .int) (by decide +kernel)) rfl hE.1 hP hD hS hA (fun cA => rfl) (by decide) (by decide) (by decide) (Nat.le_of_ble_eq_true rfl) (Nat.le_of_ble_eq_true rfl) dX0_init_31 (fun q4 cA H hK1 hP hD hS => ?_)
  obtain rfl : cA = ct 0 := ct_eq0 hE.1 hK1
  have hP : va_P D vwCl [(q_t, .inr (0, [.ref q1, .ref q2, .ref q3, .null, .int 0])), (q1, .inl (ct 0, 20, .inl ((fun _ => 0)))), (q2, .inl (ct 0, 20, .inl ((fun _ => 0)))), (q3, .inl (ct 0, 20, .inl ((fun _ => 0)))), (q4, .inl (ct 0, 20, .inl ((fun _ => 0))))] H := hP
  have hD : va_D A [(q_t, .inr (0, [.ref q1, .ref q2, .ref q3, .null, .int 0])), (q1, .inl (ct 0, 20, .inl ((fun _ => 0)))), (q2, .inl (ct 0, 20, .inl ((fun _ => 0)))), (q3, .inl (ct 0, 20, .inl ((fun _ => 0)))), (q4, .inl (ct 0, 20, .inl ((fun _ => 0))))] := hD
  refine W.widen (k := 4) (n := 80) (by omega) (by omega) ?_
  refine va_putF (D := D) (ci := 0) (v := .ref q4) (ty := .array .int) (C := RX0) (T := TX0) (N := 5) hx hb hts i_X0_init_X0 tyX0 tyX0_ok nmX0 hown hE.1 hP hD hS 0 rfl rfl 3 (by decide) (hts (.fieldLink RX0 21 "NeedleHouse$Measures" "ends" "[I") (by decide +kernel)) (fun _ h9 => h9) rfl hin rfl (by decide +kernel) rfl rfl (Nat.le_of_ble_eq_true rfl) dX0_init_33 (fun H locs hP hD hS => ?_)
  have hP : va_P D vwCl [(q_t, .inr (0, [.ref q1, .ref q2, .ref q3, .ref q4, .int 0])), (q1, .inl (ct 0, 20, .inl ((fun _ => 0)))), (q2, .inl (ct 0, 20, .inl ((fun _ => 0)))), (q3, .inl (ct 0, 20, .inl ((fun _ => 0)))), (q4, .inl (ct 0, 20, .inl ((fun _ => 0))))] H := hP
  have hD : va_D A [(q_t, .inr (0, [.ref q1, .ref q2, .ref q3, .ref q4, .int 0])), (q1, .inl (ct 0, 20, .inl ((fun _ => 0)))), (q2, .inl (ct 0, 20, .inl ((fun _ => 0)))), (q3, .inl (ct 0, 20, .inl ((fun _ => 0)))), (q4, .inl (ct 0, 20, .inl ((fun _ => 0))))] := hD
  refine lv_aload_n hx hb dX0_init_36 rfl (lv_at hl 0 rfl) ?_
  refine lv_iconst (v := 0) hx hb dX0_init_37 (by decide) ?_
  refine va_put (D := D) (ci := 0) (v := .int 0) (ty := .int) (C := RX0) (T := TX0) (N := 5) hx hb hts i_X0_init_X0 tyX0 tyX0_ok nmX0 hown hE.1 hP hD hS 0 rfl rfl 4 (by decide) (hts (.fieldLink RX0 24 "NeedleHouse$Measures" "size" "I") (by decide +kernel)) (fun _ h9 => h9) rfl (by decide +kernel) rfl rfl (Nat.le_of_ble_eq_true rfl) dX0_init_38 (fun H locs hP hD hS => ?_)
  have hP : va_P D vwCl [(q_t, .inr (0, [.ref q1, .ref q2, .ref q3, .ref q4, .int 0])), (q1, .inl (ct 0, 20, .inl ((fun _ => 0)))), (q2, .inl (ct 0, 20, .inl ((fun _ => 0)))), (q3, .inl (ct 0, 20, .inl ((fun _ => 0)))), (q4, .inl (ct 0, 20, .inl ((fun _ => 0))))] H := hP
  have hD : va_D A [(q_t, .inr (0, [.ref q1, .ref q2, .ref q3, .ref q4, .int 0])), (q1, .inl (ct 0, 20, .inl ((fun _ => 0)))), (q2, .inl (ct 0, 20, .inl ((fun _ => 0)))), (q3, .inl (ct 0, 20, .inl ((fun _ => 0)))), (q4, .inl (ct 0, 20, .inl ((fun _ => 0))))] := hD
  refine W.widen (k := 4) (n := 80) (by omega) (by omega) ?_
  exact W.vret hx hb hr (fun t ht hW => ⟨⟨(), rfl, trivial, q1, q2, q3, q4, vaP_at ht (hP.sub [0, 1, 2, 3, 4] rfl), hD.sub [0, 1, 2, 3, 4] (by decide) rfl⟩, hS.F ht⟩) hS.2.2 dX0_init_41
theorem i_X1_init_X1 : ∀ w ∈ wsX10, w ∈ wsX1_init := by decide +kernel
set_option maxHeartbeats 4000000 in
set_option maxRecDepth 100000 in
theorem met_X1_init (l : Launch) (D : va_G) (ct : Nat → ClassId) (q_t : Nat) (sz : Nat) (n : Nat) (hF : FX1_init n = some ()) : Met l yX1_init wsX1_init ({ frames := 1, cells := 8, slots := 160, locals := 20 } : Room) (va_Pc [.ref q_t] (pre_ D ct sz [(q_t, .inr (1, [.null, .null, .null, .int 0, .null, .null, .null, .null, .null, .int 0, .long 0, .long 0, .long 0, .long 0]))])) (va_Qv (fun (_ : Unit) => True) (fun (_ : Unit) (t : State) => ∃ b1 b2 b3 b4 b5 b6 b7 b8 : Nat, va_P D vwCl [(q_t, .inr (1, [.ref b1, .ref b2, .ref b3, .int 0, .ref b4, .ref b5, .ref b6, .ref b7, .ref b8, .int 0, .long 0, .long 0, .long 0, .long 0])), (b1, .inl (ct 0, 20, .inl ((fun _ => 0)))), (b2, .inl (ct 0, 20, .inl ((fun _ => 0)))), (b3, .inl (ct 0, 20, .inl ((fun _ => 0)))), (b4, .inl (ct 0, 20, .inl ((fun _ => 0)))), (b5, .inl (ct 0, 20, .inl ((fun _ => 0)))), (b6, .inl (ct 0, 20, .inl ((fun _ => 0)))), (b7, .inl (ct 0, 20, .inl ((fun _ => 0)))), (b8, .inl (ct 1, 20, .inr (.inl ((fun _ => 0)))))] t.heap ∧ va_D (va_A [(q_t, .inr (1, [.null, .null, .null, .int 0, .null, .null, .null, .null, .null, .int 0, .long 0, .long 0, .long 0, .long 0]))] sz) [(q_t, .inr (1, [.ref b1, .ref b2, .ref b3, .int 0, .ref b4, .ref b5, .ref b6, .ref b7, .ref b8, .int 0, .long 0, .long 0, .long 0, .long 0])), (b1, .inl (ct 0, 20, .inl ((fun _ => 0)))), (b2, .inl (ct 0, 20, .inl ((fun _ => 0)))), (b3, .inl (ct 0, 20, .inl ((fun _ => 0)))), (b4, .inl (ct 0, 20, .inl ((fun _ => 0)))), (b5, .inl (ct 0, 20, .inl ((fun _ => 0)))), (b6, .inl (ct 0, 20, .inl ((fun _ => 0)))), (b7, .inl (ct 0, 20, .inl ((fun _ => 0)))), (b8, .inl (ct 1, 20, .inr (.inl ((fun _ => 0)))))]) (va_A [(q_t, .inr (1, [.null, .null, .null, .int 0, .null, .null, .null, .null, .null, .int 0, .long 0, .long 0, .long 0, .long 0]))] sz)) 8 160 (va_A [(q_t, .inr (1, [.null, .null, .null, .int 0, .null, .null, .null, .null, .null, .int 0, .long 0, .long 0, .long 0, .long 0]))] sz) := by
  refine Met.ofW (cc := cX1_init) (maxL := 1) (ret := none) (by decide) rfl ?_
  intro p e s m args below meth c s₁ B hml hv
  obtain ⟨rfl, hsz, hP, hE, hD0⟩ := hv
  have hx := B.exec
  have hb := B.bytes
  have hr := B.returns
  have hts := atoms_spec (ws := wsX1_init) B.pre
  have hown : s.vm.findClass RX1 = some m.cls := findClass_of_methodNamed B.named
  have hlocks := B.notSynchronized
  have hin : meth.name = "<init>" := (name_of_methodNamed B.named B.method).1
  subst hsz
  have hD := hD0.self (sz := s.heap.size)
  generalize hAe : va_A [(q_t, .inr (1, [.null, .null, .null, .int 0, .null, .null, .null, .null, .null, .int 0, .long 0, .long 0, .long 0, .long 0]))] s.heap.size = A at hD ⊢
  have hA : ∀ q : Nat, s.heap.size ≤ q → A q := fun q h => by rw [← hAe]; exact Or.inr h
  have hl := lv_entry ([.ref q_t]) (n := 1) (Nat.le_of_ble_eq_true rfl)
  rw [lg_entry_eq]
  generalize (lg_sl ([.ref q_t]) ++ List.replicate (1 - (lg_sl ([.ref q_t])).length) Slot.unset).toArray = ls at hl ⊢
  have hl : lv_has ls 1 [(0, .ref q_t)] := hl
  have C0 : Cx RX1 cX1_init 1 none wsX1_init D ct A p s m ([.ref q_t]).toArray meth c := ⟨hx, hb, hml, hown, hts, hr, hlocks, hE, hA⟩
  have hS : ∀ H : Heap, s.heap = H → va_S A s.heap H [] := fun H h => h ▸ va_S.rf
  generalize hH : s.heap = H at hP ⊢
  have hS := hS H hH
  unfold FX1_init at hF
  refine lv_aload_n hx hb dX1_init_0 rfl (lv_at hl 0 rfl) ?_
  refine W.objInit hx hb hown (hts (.methodLink RX1 3 objectInit) (by decide +kernel)) (hts (.instanceMethod objectInit) (by decide +kernel)) (hts _ (List.mem_cons_of_mem _ (mobj_X1_init))) rfl (by rw [hml]; exact hl.1) rfl dX1_init_1 (Nat.le_of_ble_eq_true rfl) (Nat.le_of_ble_eq_true rfl) ?_
  refine W.eq (g2 := F0 m 4 ls []) rfl ?_
  refine lv_aload_n hx hb dX1_init_4 rfl (lv_at hl 0 rfl) ?_
  refine lv_bipush (v := 20) hx hb dX1_init_5 (by decide) ?_
  refine va_newa (atype := .int) (a0 := (20, .inl (fun _ => 0))) (ty := .int) hx hb (hts (.arrayClass .int) (by decide +kernel)) rfl hE.1 hP hD hS hA (fun cA => rfl) (by decide) (by decide) (by decide) (Nat.le_of_ble_eq_true rfl) (Nat.le_of_ble_eq_true rfl) dX1_init_7 (fun q1 cA H hK1 hP hD hS => ?_)
  obtain rfl : cA = ct 0 := ct_eq0 hE.1 hK1
  have hP : va_P D vwCl [(q_t, .inr (1, [.null, .null, .null, .int 0, .null, .null, .null, .null, .null, .int 0, .long 0, .long 0, .long 0, .long 0])), (q1, .inl (ct 0, 20, .inl ((fun _ => 0))))] H := hP
  have hD : va_D A [(q_t, .inr (1, [.null, .null, .null, .int 0, .null, .null, .null, .null, .null, .int 0, .long 0, .long 0, .long 0, .long 0])), (q1, .inl (ct 0, 20, .inl ((fun _ => 0))))] := hD
  refine W.widen (k := 1) (n := 20) (by omega) (by omega) ?_
  refine va_putF (D := D) (ci := 1) (v := .ref q1) (ty := .array .int) (C := RX1) (T := TX1) (N := 14) hx hb hts i_X1_init_X1 tyX1 tyX1_ok nmX1 hown hE.1 hP hD hS 0 rfl rfl 0 (by decide) (hts (.fieldLink RX1 9 "NeedleHouse$Pieces" "times" "[I") (by decide +kernel)) (fun _ h9 => h9) rfl hin rfl (by decide +kernel) rfl rfl (Nat.le_of_ble_eq_true rfl) dX1_init_9 (fun H locs hP hD hS => ?_)
  have hP : va_P D vwCl [(q_t, .inr (1, [.ref q1, .null, .null, .int 0, .null, .null, .null, .null, .null, .int 0, .long 0, .long 0, .long 0, .long 0])), (q1, .inl (ct 0, 20, .inl ((fun _ => 0))))] H := hP
  have hD : va_D A [(q_t, .inr (1, [.ref q1, .null, .null, .int 0, .null, .null, .null, .null, .null, .int 0, .long 0, .long 0, .long 0, .long 0])), (q1, .inl (ct 0, 20, .inl ((fun _ => 0))))] := hD
  refine lv_aload_n hx hb dX1_init_12 rfl (lv_at hl 0 rfl) ?_
  refine lv_bipush (v := 20) hx hb dX1_init_13 (by decide) ?_
  refine va_newa (atype := .int) (a0 := (20, .inl (fun _ => 0))) (ty := .int) hx hb (hts (.arrayClass .int) (by decide +kernel)) rfl hE.1 hP hD hS hA (fun cA => rfl) (by decide) (by decide) (by decide) (Nat.le_of_ble_eq_true rfl) (Nat.le_of_ble_eq_true rfl) dX1_init_15 (fun q2 cA H hK1 hP hD hS => ?_)
  obtain rfl : cA = ct 0 := ct_eq0 hE.1 hK1
  have hP : va_P D vwCl [(q_t, .inr (1, [.ref q1, .null, .null, .int 0, .null, .null, .null, .null, .null, .int 0, .long 0, .long 0, .long 0, .long 0])), (q1, .inl (ct 0, 20, .inl ((fun _ => 0)))), (q2, .inl (ct 0, 20, .inl ((fun _ => 0))))] H := hP
  have hD : va_D A [(q_t, .inr (1, [.ref q1, .null, .null, .int 0, .null, .null, .null, .null, .null, .int 0, .long 0, .long 0, .long 0, .long 0])), (q1, .inl (ct 0, 20, .inl ((fun _ => 0)))), (q2, .inl (ct 0, 20, .inl ((fun _ => 0))))] := hD
  refine W.widen (k := 2) (n := 40) (by omega) (by omega) ?_
  refine va_putF (D := D) (ci := 1) (v := .ref q2) (ty := .array .int) (C := RX1) (T := TX1) (N := 14) hx hb hts i_X1_init_X1 tyX1 tyX1_ok nmX1 hown hE.1 hP hD hS 0 rfl rfl 1 (by decide) (hts (.fieldLink RX1 15 "NeedleHouse$Pieces" "lows" "[I") (by decide +kernel)) (fun _ h9 => h9) rfl hin rfl (by decide +kernel) rfl rfl (Nat.le_of_ble_eq_true rfl) dX1_init_17 (fun H locs hP hD hS => ?_)
  have hP : va_P D vwCl [(q_t, .inr (1, [.ref q1, .ref q2, .null, .int 0, .null, .null, .null, .null, .null, .int 0, .long 0, .long 0, .long 0, .long 0])), (q1, .inl (ct 0, 20, .inl ((fun _ => 0)))), (q2, .inl (ct 0, 20, .inl ((fun _ => 0))))] H := hP
  have hD : va_D A [(q_t, .inr (1, [.ref q1, .ref q2, .null, .int 0, .null, .null, .null, .null, .null, .int 0, .long 0, .long 0, .long 0, .long 0])), (q1, .inl (ct 0, 20, .inl ((fun _ => 0)))), (q2, .inl (ct 0, 20, .inl ((fun _ => 0))))] := hD
  refine lv_aload_n hx hb dX1_init_20 rfl (lv_at hl 0 rfl) ?_
  refine lv_bipush (v := 20) hx hb dX1_init_21 (by decide) ?_
  refine va_newa (atype := .int) (a0 := (20, .inl (fun _ => 0))) (ty := .int) hx hb (hts (.arrayClass .int) (by decide +kernel)) rfl hE.1 hP hD hS hA (fun cA => rfl) (by decide) (by decide) (by decide) (Nat.le_of_ble_eq_true rfl) (Nat.le_of_ble_eq_true rfl) dX1_init_23 (fun q3 cA H hK1 hP hD hS => ?_)
  obtain rfl : cA = ct 0 := ct_eq0 hE.1 hK1
  have hP : va_P D vwCl [(q_t, .inr (1, [.ref q1, .ref q2, .null, .int 0, .null, .null, .null, .null, .null, .int 0, .long 0, .long 0, .long 0, .long 0])), (q1, .inl (ct 0, 20, .inl ((fun _ => 0)))), (q2, .inl (ct 0, 20, .inl ((fun _ => 0)))), (q3, .inl (ct 0, 20, .inl ((fun _ => 0))))] H := hP
  have hD : va_D A [(q_t, .inr (1, [.ref q1, .ref q2, .null, .int 0, .null, .null, .null, .null, .null, .int 0, .long 0, .long 0, .long 0, .long 0])), (q1, .inl (ct 0, 20, .inl ((fun _ => 0)))), (q2, .inl (ct 0, 20, .inl ((fun _ => 0)))), (q3, .inl (ct 0, 20, .inl ((fun _ => 0))))] := hD
  refine W.widen (k := 3) (n := 60) (by omega) (by omega) ?_
  refine va_putF (D := D) (ci := 1) (v := .ref q3) (ty := .array .int) (C := RX1) (T := TX1) (N := 14) hx hb hts i_X1_init_X1 tyX1 tyX1_ok nmX1 hown hE.1 hP hD hS 0 rfl rfl 2 (by decide) (hts (.fieldLink RX1 18 "NeedleHouse$Pieces" "highs" "[I") (by decide +kernel)) (fun _ h9 => h9) rfl hin rfl (by decide +kernel) rfl rfl (Nat.le_of_ble_eq_true rfl) dX1_init_25 (fun H locs hP hD hS => ?_)
  have hP : va_P D vwCl [(q_t, .inr (1, [.ref q1, .ref q2, .ref q3, .int 0, .null, .null, .null, .null, .null, .int 0, .long 0, .long 0, .long 0, .long 0])), (q1, .inl (ct 0, 20, .inl ((fun _ => 0)))), (q2, .inl (ct 0, 20, .inl ((fun _ => 0)))), (q3, .inl (ct 0, 20, .inl ((fun _ => 0))))] H := hP
  have hD : va_D A [(q_t, .inr (1, [.ref q1, .ref q2, .ref q3, .int 0, .null, .null, .null, .null, .null, .int 0, .long 0, .long 0, .long 0, .long 0])), (q1, .inl (ct 0, 20, .inl ((fun _ => 0)))), (q2, .inl (ct 0, 20, .inl ((fun _ => 0)))), (q3, .inl (ct 0, 20, .inl ((fun _ => 0))))] := hD
  refine lv_aload_n hx hb dX1_init_28 rfl (lv_at hl 0 rfl) ?_
  refine lv_bipush (v := 20) hx hb dX1_init_29 (by decide) ?_
  refine va_newa (atype := .int) (a0 := (20, .inl (fun _ => 0))) (ty := .int) hx hb (hts (.arrayClass .int) (by decide +kernel)) rfl hE.1 hP hD hS hA (fun cA => rfl) (by decide) (by decide) (by decide) (Nat.le_of_ble_eq_true rfl) (Nat.le_of_ble_eq_true rfl) dX1_init_31 (fun q4 cA H hK1 hP hD hS => ?_)
  obtain rfl : cA = ct 0 := ct_eq0 hE.1 hK1
  have hP : va_P D vwCl [(q_t, .inr (1, [.ref q1, .ref q2, .ref q3, .int 0, .null, .null, .null, .null, .null, .int 0, .long 0, .long 0, .long 0, .long 0])), (q1, .inl (ct 0, 20, .inl ((fun _ => 0)))), (q2, .inl (ct 0, 20, .inl ((fun _ => 0)))), (q3, .inl (ct 0, 20, .inl ((fun _ => 0)))), (q4, .inl (ct 0, 20, .inl ((fun _ => 0))))] H := hP
  have hD : va_D A [(q_t, .inr (1, [.ref q1, .ref q2, .ref q3, .int 0, .null, .null, .null, .null, .null, .int 0, .long 0, .long 0, .long 0, .long 0])), (q1, .inl (ct 0, 20, .inl ((fun _ => 0)))), (q2, .inl (ct 0, 20, .inl ((fun _ => 0)))), (q3, .inl (ct 0, 20, .inl ((fun _ => 0)))), (q4, .inl (ct 0, 20, .inl ((fun _ => 0))))] := hD
  refine W.widen (k := 4) (n := 80) (by omega) (by omega) ?_
  refine va_putF (D := D) (ci := 1) (v := .ref q4) (ty := .array .int) (C := RX1) (T := TX1) (N := 14) hx hb hts i_X1_init_X1 tyX1 tyX1_ok nmX1 hown hE.1 hP hD hS 0 rfl rfl 4 (by decide) (hts (.fieldLink RX1 21 "NeedleHouse$Pieces" "firsts" "[I") (by decide +kernel)) (fun _ h9 => h9) rfl hin rfl (by decide +kernel) rfl rfl (Nat.le_of_ble_eq_true rfl) dX1_init_33 (fun H locs hP hD hS => ?_)
  have hP : va_P D vwCl [(q_t, .inr (1, [.ref q1, .ref q2, .ref q3, .int 0, .ref q4, .null, .null, .null, .null, .int 0, .long 0, .long 0, .long 0, .long 0])), (q1, .inl (ct 0, 20, .inl ((fun _ => 0)))), (q2, .inl (ct 0, 20, .inl ((fun _ => 0)))), (q3, .inl (ct 0, 20, .inl ((fun _ => 0)))), (q4, .inl (ct 0, 20, .inl ((fun _ => 0))))] H := hP
  have hD : va_D A [(q_t, .inr (1, [.ref q1, .ref q2, .ref q3, .int 0, .ref q4, .null, .null, .null, .null, .int 0, .long 0, .long 0, .long 0, .long 0])), (q1, .inl (ct 0, 20, .inl ((fun _ => 0)))), (q2, .inl (ct 0, 20, .inl ((fun _ => 0)))), (q3, .inl (ct 0, 20, .inl ((fun _ => 0)))), (q4, .inl (ct 0, 20, .inl ((fun _ => 0))))] := hD
  refine lv_aload_n hx hb dX1_init_36 rfl (lv_at hl 0 rfl) ?_
  refine lv_bipush (v := 20) hx hb dX1_init_37 (by decide) ?_
  refine va_newa (atype := .int) (a0 := (20, .inl (fun _ => 0))) (ty := .int) hx hb (hts (.arrayClass .int) (by decide +kernel)) rfl hE.1 hP hD hS hA (fun cA => rfl) (by decide) (by decide) (by decide) (Nat.le_of_ble_eq_true rfl) (Nat.le_of_ble_eq_true rfl) dX1_init_39 (fun q5 cA H hK1 hP hD hS => ?_)
  obtain rfl : cA = ct 0 := ct_eq0 hE.1 hK1
  have hP : va_P D vwCl [(q_t, .inr (1, [.ref q1, .ref q2, .ref q3, .int 0, .ref q4, .null, .null, .null, .null, .int 0, .long 0, .long 0, .long 0, .long 0])), (q1, .inl (ct 0, 20, .inl ((fun _ => 0)))), (q2, .inl (ct 0, 20, .inl ((fun _ => 0)))), (q3, .inl (ct 0, 20, .inl ((fun _ => 0)))), (q4, .inl (ct 0, 20, .inl ((fun _ => 0)))), (q5, .inl (ct 0, 20, .inl ((fun _ => 0))))] H := hP
  have hD : va_D A [(q_t, .inr (1, [.ref q1, .ref q2, .ref q3, .int 0, .ref q4, .null, .null, .null, .null, .int 0, .long 0, .long 0, .long 0, .long 0])), (q1, .inl (ct 0, 20, .inl ((fun _ => 0)))), (q2, .inl (ct 0, 20, .inl ((fun _ => 0)))), (q3, .inl (ct 0, 20, .inl ((fun _ => 0)))), (q4, .inl (ct 0, 20, .inl ((fun _ => 0)))), (q5, .inl (ct 0, 20, .inl ((fun _ => 0))))] := hD
  refine W.widen (k := 5) (n := 100) (by omega) (by omega) ?_
  refine va_putF (D := D) (ci := 1) (v := .ref q5) (ty := .array .int) (C := RX1) (T := TX1) (N := 14) hx hb hts i_X1_init_X1 tyX1 tyX1_ok nmX1 hown hE.1 hP hD hS 0 rfl rfl 5 (by decide) (hts (.fieldLink RX1 24 "NeedleHouse$Pieces" "lengths" "[I") (by decide +kernel)) (fun _ h9 => h9) rfl hin rfl (by decide +kernel) rfl rfl (Nat.le_of_ble_eq_true rfl) dX1_init_41 (fun H locs hP hD hS => ?_)
  have hP : va_P D vwCl [(q_t, .inr (1, [.ref q1, .ref q2, .ref q3, .int 0, .ref q4, .ref q5, .null, .null, .null, .int 0, .long 0, .long 0, .long 0, .long 0])), (q1, .inl (ct 0, 20, .inl ((fun _ => 0)))), (q2, .inl (ct 0, 20, .inl ((fun _ => 0)))), (q3, .inl (ct 0, 20, .inl ((fun _ => 0)))), (q4, .inl (ct 0, 20, .inl ((fun _ => 0)))), (q5, .inl (ct 0, 20, .inl ((fun _ => 0))))] H := hP
  have hD : va_D A [(q_t, .inr (1, [.ref q1, .ref q2, .ref q3, .int 0, .ref q4, .ref q5, .null, .null, .null, .int 0, .long 0, .long 0, .long 0, .long 0])), (q1, .inl (ct 0, 20, .inl ((fun _ => 0)))), (q2, .inl (ct 0, 20, .inl ((fun _ => 0)))), (q3, .inl (ct 0, 20, .inl ((fun _ => 0)))), (q4, .inl (ct 0, 20, .inl ((fun _ => 0)))), (q5, .inl (ct 0, 20, .inl ((fun _ => 0))))] := hD
  refine lv_aload_n hx hb dX1_init_44 rfl (lv_at hl 0 rfl) ?_
  refine lv_bipush (v := 20) hx hb dX1_init_45 (by decide) ?_
  refine va_newa (atype := .int) (a0 := (20, .inl (fun _ => 0))) (ty := .int) hx hb (hts (.arrayClass .int) (by decide +kernel)) rfl hE.1 hP hD hS hA (fun cA => rfl) (by decide) (by decide) (by decide) (Nat.le_of_ble_eq_true rfl) (Nat.le_of_ble_eq_true rfl) dX1_init_47 (fun q6 cA H hK1 hP hD hS => ?_)
  obtain rfl : cA = ct 0 := ct_eq0 hE.1 hK1
  have hP : va_P D vwCl [(q_t, .inr (1, [.ref q1, .ref q2, .ref q3, .int 0, .ref q4, .ref q5, .null, .null, .null, .int 0, .long 0, .long 0, .long 0, .long 0])), (q1, .inl (ct 0, 20, .inl ((fun _ => 0)))), (q2, .inl (ct 0, 20, .inl ((fun _ => 0)))), (q3, .inl (ct 0, 20, .inl ((fun _ => 0)))), (q4, .inl (ct 0, 20, .inl ((fun _ => 0)))), (q5, .inl (ct 0, 20, .inl ((fun _ => 0)))), (q6, .inl (ct 0, 20, .inl ((fun _ => 0))))] H := hP
  have hD : va_D A [(q_t, .inr (1, [.ref q1, .ref q2, .ref q3, .int 0, .ref q4, .ref q5, .null, .null, .null, .int 0, .long 0, .long 0, .long 0, .long 0])), (q1, .inl (ct 0, 20, .inl ((fun _ => 0)))), (q2, .inl (ct 0, 20, .inl ((fun _ => 0)))), (q3, .inl (ct 0, 20, .inl ((fun _ => 0)))), (q4, .inl (ct 0, 20, .inl ((fun _ => 0)))), (q5, .inl (ct 0, 20, .inl ((fun _ => 0)))), (q6, .inl (ct 0, 20, .inl ((fun _ => 0))))] := hD
  refine W.widen (k := 6) (n := 120) (by omega) (by omega) ?_
  refine va_putF (D := D) (ci := 1) (v := .ref q6) (ty := .array .int) (C := RX1) (T := TX1) (N := 14) hx hb hts i_X1_init_X1 tyX1 tyX1_ok nmX1 hown hE.1 hP hD hS 0 rfl rfl 6 (by decide) (hts (.fieldLink RX1 27 "NeedleHouse$Pieces" "uppers" "[I") (by decide +kernel)) (fun _ h9 => h9) rfl hin rfl (by decide +kernel) rfl rfl (Nat.le_of_ble_eq_true rfl) dX1_init_49 (fun H locs hP hD hS => ?_)
  have hP : va_P D vwCl [(q_t, .inr (1, [.ref q1, .ref q2, .ref q3, .int 0, .ref q4, .ref q5, .ref q6, .null, .null, .int 0, .long 0, .long 0, .long 0, .long 0])), (q1, .inl (ct 0, 20, .inl ((fun _ => 0)))), (q2, .inl (ct 0, 20, .inl ((fun _ => 0)))), (q3, .inl (ct 0, 20, .inl ((fun _ => 0)))), (q4, .inl (ct 0, 20, .inl ((fun _ => 0)))), (q5, .inl (ct 0, 20, .inl ((fun _ => 0)))), (q6, .inl (ct 0, 20, .inl ((fun _ => 0))))] H := hP
  have hD : va_D A [(q_t, .inr (1, [.ref q1, .ref q2, .ref q3, .int 0, .ref q4, .ref q5, .ref q6, .null, .null, .int 0, .long 0, .long 0, .long 0, .long 0])), (q1, .inl (ct 0, 20, .inl ((fun _ => 0)))), (q2, .inl (ct 0, 20, .inl ((fun _ => 0)))), (q3, .inl (ct 0, 20, .inl ((fun _ => 0)))), (q4, .inl (ct 0, 20, .inl ((fun _ => 0)))), (q5, .inl (ct 0, 20, .inl ((fun _ => 0)))), (q6, .inl (ct 0, 20, .inl ((fun _ => 0))))] := hD
  refine lv_aload_n hx hb dX1_init_52 rfl (lv_at hl 0 rfl) ?_
  refine lv_bipush (v := 20) hx hb dX1_init_53 (by decide) ?_
  refine va_newa (atype := .int) (a0 := (20, .inl (fun _ => 0))) (ty := .int) hx hb (hts (.arrayClass .int) (by decide +kernel)) rfl hE.1 hP hD hS hA (fun cA => rfl) (by decide) (by decide) (by decide) (Nat.le_of_ble_eq_true rfl) (Nat.le_of_ble_eq_true rfl) dX1_init_55 (fun q7 cA H hK1 hP hD hS => ?_)
  obtain rfl : cA = ct 0 := ct_eq0 hE.1 hK1
  have hP : va_P D vwCl [(q_t, .inr (1, [.ref q1, .ref q2, .ref q3, .int 0, .ref q4, .ref q5, .ref q6, .null, .null, .int 0, .long 0, .long 0, .long 0, .long 0])), (q1, .inl (ct 0, 20, .inl ((fun _ => 0)))), (q2, .inl (ct 0, 20, .inl ((fun _ => 0)))), (q3, .inl (ct 0, 20, .inl ((fun _ => 0)))), (q4, .inl (ct 0, 20, .inl ((fun _ => 0)))), (q5, .inl (ct 0, 20, .inl ((fun _ => 0)))), (q6, .inl (ct 0, 20, .inl ((fun _ => 0)))), (q7, .inl (ct 0, 20, .inl ((fun _ => 0))))] H := hP
  have hD : va_D A [(q_t, .inr (1, [.ref q1, .ref q2, .ref q3, .int 0, .ref q4, .ref q5, .ref q6, .null, .null, .int 0, .long 0, .long 0, .long 0, .long 0])), (q1, .inl (ct 0, 20, .inl ((fun _ => 0)))), (q2, .inl (ct 0, 20, .inl ((fun _ => 0)))), (q3, .inl (ct 0, 20, .inl ((fun _ => 0)))), (q4, .inl (ct 0, 20, .inl ((fun _ => 0)))), (q5, .inl (ct 0, 20, .inl ((fun _ => 0)))), (q6, .inl (ct 0, 20, .inl ((fun _ => 0)))), (q7, .inl (ct 0, 20, .inl ((fun _ => 0))))] := hD
  refine W.widen (k := 7) (n := 140) (by omega) (by omega) ?_
  refine va_putF (D := D) (ci := 1) (v := .ref q7) (ty := .array .int) (C := RX1) (T := TX1) (N := 14) hx hb hts i_X1_init_X1 tyX1 tyX1_ok nmX1 hown hE.1 hP hD hS 0 rfl rfl 7 (by decide) (hts (.fieldLink RX1 30 "NeedleHouse$Pieces" "lowers" "[I") (by decide +kernel)) (fun _ h9 => h9) rfl hin rfl (by decide +kernel) rfl rfl (Nat.le_of_ble_eq_true rfl) dX1_init_57 (fun H locs hP hD hS => ?_)
  have hP : va_P D vwCl [(q_t, .inr (1, [.ref q1, .ref q2, .ref q3, .int 0, .ref q4, .ref q5, .ref q6, .ref q7, .null, .int 0, .long 0, .long 0, .long 0, .long 0])), (q1, .inl (ct 0, 20, .inl ((fun _ => 0)))), (q2, .inl (ct 0, 20, .inl ((fun _ => 0)))), (q3, .inl (ct 0, 20, .inl ((fun _ => 0)))), (q4, .inl (ct 0, 20, .inl ((fun _ => 0)))), (q5, .inl (ct 0, 20, .inl ((fun _ => 0)))), (q6, .inl (ct 0, 20, .inl ((fun _ => 0)))), (q7, .inl (ct 0, 20, .inl ((fun _ => 0))))] H := hP
  have hD : va_D A [(q_t, .inr (1, [.ref q1, .ref q2, .ref q3, .int 0, .ref q4, .ref q5, .ref q6, .ref q7, .null, .int 0, .long 0, .long 0, .long 0, .long 0])), (q1, .inl (ct 0, 20, .inl ((fun _ => 0)))), (q2, .inl (ct 0, 20, .inl ((fun _ => 0)))), (q3, .inl (ct 0, 20, .inl ((fun _ => 0)))), (q4, .inl (ct 0, 20, .inl ((fun _ => 0)))), (q5, .inl (ct 0, 20, .inl ((fun _ => 0)))), (q6, .inl (ct 0, 20, .inl ((fun _ => 0)))), (q7, .inl (ct 0, 20, .inl ((fun _ => 0))))] := hD
  refine lv_aload_n hx hb dX1_init_60 rfl (lv_at hl 0 rfl) ?_
  refine lv_bipush (v := 20) hx hb dX1_init_61 (by decide) ?_
  refine va_newa (atype := .long) (a0 := (20, .inr (.inl (fun _ => 0)))) (ty := .long) hx hb (hts (.arrayClass .long) (by decide +kernel)) rfl hE.1 hP hD hS hA (fun cA => rfl) (by decide) (by decide) (by decide) (Nat.le_of_ble_eq_true rfl) (Nat.le_of_ble_eq_true rfl) dX1_init_63 (fun q8 cA H hK1 hP hD hS => ?_)
  obtain rfl : cA = ct 1 := ct_eq1 hE.1 hK1
  have hP : va_P D vwCl [(q_t, .inr (1, [.ref q1, .ref q2, .ref q3, .int 0, .ref q4, .ref q5, .ref q6, .ref q7, .null, .int 0, .long 0, .long 0, .long 0, .long 0])), (q1, .inl (ct 0, 20, .inl ((fun _ => 0)))), (q2, .inl (ct 0, 20, .inl ((fun _ => 0)))), (q3, .inl (ct 0, 20, .inl ((fun _ => 0)))), (q4, .inl (ct 0, 20, .inl ((fun _ => 0)))), (q5, .inl (ct 0, 20, .inl ((fun _ => 0)))), (q6, .inl (ct 0, 20, .inl ((fun _ => 0)))), (q7, .inl (ct 0, 20, .inl ((fun _ => 0)))), (q8, .inl (ct 1, 20, .inr (.inl ((fun _ => 0)))))] H := hP
  have hD : va_D A [(q_t, .inr (1, [.ref q1, .ref q2, .ref q3, .int 0, .ref q4, .ref q5, .ref q6, .ref q7, .null, .int 0, .long 0, .long 0, .long 0, .long 0])), (q1, .inl (ct 0, 20, .inl ((fun _ => 0)))), (q2, .inl (ct 0, 20, .inl ((fun _ => 0)))), (q3, .inl (ct 0, 20, .inl ((fun _ => 0)))), (q4, .inl (ct 0, 20, .inl ((fun _ => 0)))), (q5, .inl (ct 0, 20, .inl ((fun _ => 0)))), (q6, .inl (ct 0, 20, .inl ((fun _ => 0)))), (q7, .inl (ct 0, 20, .inl ((fun _ => 0)))), (q8, .inl (ct 1, 20, .inr (.inl ((fun _ => 0)))))] := hD
  refine W.widen (k := 8) (n := 160) (by omega) (by omega) ?_
  refine va_putF (D := D) (ci := 1) (v := .ref q8) (ty := .array .long) (C := RX1) (T := TX1) (N := 14) hx hb hts i_X1_init_X1 tyX1 tyX1_ok nmX1 hown hE.1 hP hD hS 0 rfl rfl 8 (by decide) (hts (.fieldLink RX1 33 "NeedleHouse$Pieces" "middles" "[J") (by decide +kernel)) (fun _ h9 => h9) rfl hin rfl (by decide +kernel) rfl rfl (Nat.le_of_ble_eq_true rfl) dX1_init_65 (fun H locs hP hD hS => ?_)
  have hP : va_P D vwCl [(q_t, .inr (1, [.ref q1, .ref q2, .ref q3, .int 0, .ref q4, .ref q5, .ref q6, .ref q7, .ref q8, .int 0, .long 0, .long 0, .long 0, .long 0])), (q1, .inl (ct 0, 20, .inl ((fun _ => 0)))), (q2, .inl (ct 0, 20, .inl ((fun _ => 0)))), (q3, .inl (ct 0, 20, .inl ((fun _ => 0)))), (q4, .inl (ct 0, 20, .inl ((fun _ => 0)))), (q5, .inl (ct 0, 20, .inl ((fun _ => 0)))), (q6, .inl (ct 0, 20, .inl ((fun _ => 0)))), (q7, .inl (ct 0, 20, .inl ((fun _ => 0)))), (q8, .inl (ct 1, 20, .inr (.inl ((fun _ => 0)))))] H := hP
  have hD : va_D A [(q_t, .inr (1, [.ref q1, .ref q2, .ref q3, .int 0, .ref q4, .ref q5, .ref q6, .ref q7, .ref q8, .int 0, .long 0, .long 0, .long 0, .long 0])), (q1, .inl (ct 0, 20, .inl ((fun _ => 0)))), (q2, .inl (ct 0, 20, .inl ((fun _ => 0)))), (q3, .inl (ct 0, 20, .inl ((fun _ => 0)))), (q4, .inl (ct 0, 20, .inl ((fun _ => 0)))), (q5, .inl (ct 0, 20, .inl ((fun _ => 0)))), (q6, .inl (ct 0, 20, .inl ((fun _ => 0)))), (q7, .inl (ct 0, 20, .inl ((fun _ => 0)))), (q8, .inl (ct 1, 20, .inr (.inl ((fun _ => 0)))))] := hD
  refine lv_aload_n hx hb dX1_init_68 rfl (lv_at hl 0 rfl) ?_
  refine lv_iconst (v := 0) hx hb dX1_init_69 (by decide) ?_
  refine va_put (D := D) (ci := 1) (v := .int 0) (ty := .int) (C := RX1) (T := TX1) (N := 14) hx hb hts i_X1_init_X1 tyX1 tyX1_ok nmX1 hown hE.1 hP hD hS 0 rfl rfl 3 (by decide) (hts (.fieldLink RX1 37 "NeedleHouse$Pieces" "points" "I") (by decide +kernel)) (fun _ h9 => h9) rfl (by decide +kernel) rfl rfl (Nat.le_of_ble_eq_true rfl) dX1_init_70 (fun H locs hP hD hS => ?_)
  have hP : va_P D vwCl [(q_t, .inr (1, [.ref q1, .ref q2, .ref q3, .int 0, .ref q4, .ref q5, .ref q6, .ref q7, .ref q8, .int 0, .long 0, .long 0, .long 0, .long 0])), (q1, .inl (ct 0, 20, .inl ((fun _ => 0)))), (q2, .inl (ct 0, 20, .inl ((fun _ => 0)))), (q3, .inl (ct 0, 20, .inl ((fun _ => 0)))), (q4, .inl (ct 0, 20, .inl ((fun _ => 0)))), (q5, .inl (ct 0, 20, .inl ((fun _ => 0)))), (q6, .inl (ct 0, 20, .inl ((fun _ => 0)))), (q7, .inl (ct 0, 20, .inl ((fun _ => 0)))), (q8, .inl (ct 1, 20, .inr (.inl ((fun _ => 0)))))] H := hP
  have hD : va_D A [(q_t, .inr (1, [.ref q1, .ref q2, .ref q3, .int 0, .ref q4, .ref q5, .ref q6, .ref q7, .ref q8, .int 0, .long 0, .long 0, .long 0, .long 0])), (q1, .inl (ct 0, 20, .inl ((fun _ => 0)))), (q2, .inl (ct 0, 20, .inl ((fun _ => 0)))), (q3, .inl (ct 0, 20, .inl ((fun _ => 0)))), (q4, .inl (ct 0, 20, .inl ((fun _ => 0)))), (q5, .inl (ct 0, 20, .inl ((fun _ => 0)))), (q6, .inl (ct 0, 20, .inl ((fun _ => 0)))), (q7, .inl (ct 0, 20, .inl ((fun _ => 0)))), (q8, .inl (ct 1, 20, .inr (.inl ((fun _ => 0)))))] := hD
  refine lv_aload_n hx hb dX1_init_73 rfl (lv_at hl 0 rfl) ?_
  refine lv_iconst (v := 0) hx hb dX1_init_74 (by decide) ?_
  refine va_put (D := D) (ci := 1) (v := .int 0) (ty := .int) (C := RX1) (T := TX1) (N := 14) hx hb hts i_X1_init_X1 tyX1 tyX1_ok nmX1 hown hE.1 hP hD hS 0 rfl rfl 9 (by decide) (hts (.fieldLink RX1 41 "NeedleHouse$Pieces" "size" "I") (by decide +kernel)) (fun _ h9 => h9) rfl (by decide +kernel) rfl rfl (Nat.le_of_ble_eq_true rfl) dX1_init_75 (fun H locs hP hD hS => ?_)
  have hP : va_P D vwCl [(q_t, .inr (1, [.ref q1, .ref q2, .ref q3, .int 0, .ref q4, .ref q5, .ref q6, .ref q7, .ref q8, .int 0, .long 0, .long 0, .long 0, .long 0])), (q1, .inl (ct 0, 20, .inl ((fun _ => 0)))), (q2, .inl (ct 0, 20, .inl ((fun _ => 0)))), (q3, .inl (ct 0, 20, .inl ((fun _ => 0)))), (q4, .inl (ct 0, 20, .inl ((fun _ => 0)))), (q5, .inl (ct 0, 20, .inl ((fun _ => 0)))), (q6, .inl (ct 0, 20, .inl ((fun _ => 0)))), (q7, .inl (ct 0, 20, .inl ((fun _ => 0)))), (q8, .inl (ct 1, 20, .inr (.inl ((fun _ => 0)))))] H := hP
  have hD : va_D A [(q_t, .inr (1, [.ref q1, .ref q2, .ref q3, .int 0, .ref q4, .ref q5, .ref q6, .ref q7, .ref q8, .int 0, .long 0, .long 0, .long 0, .long 0])), (q1, .inl (ct 0, 20, .inl ((fun _ => 0)))), (q2, .inl (ct 0, 20, .inl ((fun _ => 0)))), (q3, .inl (ct 0, 20, .inl ((fun _ => 0)))), (q4, .inl (ct 0, 20, .inl ((fun _ => 0)))), (q5, .inl (ct 0, 20, .inl ((fun _ => 0)))), (q6, .inl (ct 0, 20, .inl ((fun _ => 0)))), (q7, .inl (ct 0, 20, .inl ((fun _ => 0)))), (q8, .inl (ct 1, 20, .inr (.inl ((fun _ => 0)))))] := hD
  refine W.widen (k := 8) (n := 160) (by omega) (by omega) ?_
  exact W.vret hx hb hr (fun t ht hW => ⟨⟨(), rfl, trivial, q1, q2, q3, q4, q5, q6, q7, q8, vaP_at ht (hP.sub [0, 1, 2, 3, 4, 5, 6, 7, 8] rfl), hD.sub [0, 1, 2, 3, 4, 5, 6, 7, 8] (by decide) rfl⟩, hS.F ht⟩) hS.2.2 dX1_init_78
theorem i_X5_init_X5 : ∀ w ∈ wsX50, w ∈ wsX5_init := by decide +kernel
set_option maxHeartbeats 4000000 in
set_option maxRecDepth 100000 in
theorem met_X5_init (l : Launch) (D : va_G) (ct : Nat → ClassId) (q_t : Nat) (sz : Nat) (n : Nat) (hF : FX5_init n = some ()) : Met l yX5_init wsX5_init ({ frames := 1, cells := 1, slots := 300, locals := 20 } : Room) (va_Pc [.ref q_t] (pre_ D ct sz [(q_t, .inr (5, [.null, .int 0]))])) (va_Qv (fun (_ : Unit) => True) (fun (_ : Unit) (t : State) => ∃ b1 : Nat, va_P D vwCl [(q_t, .inr (5, [.ref b1, .int 0])), (b1, .inl (ct 0, 300, .inl ((fun _ => 0))))] t.heap ∧ va_D (va_A [(q_t, .inr (5, [.null, .int 0]))] sz) [(q_t, .inr (5, [.ref b1, .int 0])), (b1, .inl (ct 0, 300, .inl ((fun _ => 0))))]) (va_A [(q_t, .inr (5, [.null, .int 0]))] sz)) 1 300 (va_A [(q_t, .inr (5, [.null, .int 0]))] sz) := by
  refine Met.ofW (cc := cX5_init) (maxL := 1) (ret := none) (by decide) rfl ?_
  intro p e s m args below meth c s₁ B hml hv
  obtain ⟨rfl, hsz, hP, hE, hD0⟩ := hv
  have hx := B.exec
  have hb := B.bytes
  have hr := B.returns
  have hts := atoms_spec (ws := wsX5_init) B.pre
  have hown : s.vm.findClass RX5 = some m.cls := findClass_of_methodNamed B.named
  have hlocks := B.notSynchronized
  have hin : meth.name = "<init>" := (name_of_methodNamed B.named B.method).1
  subst hsz
  have hD := hD0.self (sz := s.heap.size)
  generalize hAe : va_A [(q_t, .inr (5, [.null, .int 0]))] s.heap.size = A at hD ⊢
  have hA : ∀ q : Nat, s.heap.size ≤ q → A q := fun q h => by rw [← hAe]; exact Or.inr h
  have hl := lv_entry ([.ref q_t]) (n := 1) (Nat.le_of_ble_eq_true rfl)
  rw [lg_entry_eq]
  generalize (lg_sl ([.ref q_t]) ++ List.replicate (1 - (lg_sl ([.ref q_t])).length) Slot.unset).toArray = ls at hl ⊢
  have hl : lv_has ls 1 [(0, .ref q_t)] := hl
  have C0 : Cx RX5 cX5_init 1 none wsX5_init D ct A p s m ([.ref q_t]).toArray meth c := ⟨hx, hb, hml, hown, hts, hr, hlocks, hE, hA⟩
  have hS : ∀ H : Heap, s.heap = H → va_S A s.heap H [] := fun H h => h ▸ va_S.rf
  generalize hH : s.heap = H at hP ⊢
  have hS := hS H hH
  unfold FX5_init at hF
  refine lv_aload_n hx hb dX5_init_0 rfl (lv_at hl 0 rfl) ?_
  refine W.objInit hx hb hown (hts (.methodLink RX5 3 objectInit) (by decide +kernel)) (hts (.instanceMethod objectInit) (by decide +kernel)) (hts _ (List.mem_cons_of_mem _ (mobj_X5_init))) rfl (by rw [hml]; exact hl.1) rfl dX5_init_1 (Nat.le_of_ble_eq_true rfl) (Nat.le_of_ble_eq_true rfl) ?_
  refine W.eq (g2 := F0 m 4 ls []) rfl ?_
  refine lv_aload_n hx hb dX5_init_4 rfl (lv_at hl 0 rfl) ?_
  refine lv_sipush (v := 300) hx hb dX5_init_5 (by decide) ?_
  refine va_newa (atype := .int) (a0 := (300, .inl (fun _ => 0))) (ty := .int) hx hb (hts (.arrayClass .int) (by decide +kernel)) rfl hE.1 hP hD hS hA (fun cA => rfl) (by decide) (by decide) (by decide) (Nat.le_of_ble_eq_true rfl) (Nat.le_of_ble_eq_true rfl) dX5_init_8 (fun q1 cA H hK1 hP hD hS => ?_)
  obtain rfl : cA = ct 0 := ct_eq0 hE.1 hK1
  have hP : va_P D vwCl [(q_t, .inr (5, [.null, .int 0])), (q1, .inl (ct 0, 300, .inl ((fun _ => 0))))] H := hP
  have hD : va_D A [(q_t, .inr (5, [.null, .int 0])), (q1, .inl (ct 0, 300, .inl ((fun _ => 0))))] := hD
  refine W.widen (k := 1) (n := 300) (by omega) (by omega) ?_
  refine va_putF (D := D) (ci := 5) (v := .ref q1) (ty := .array .int) (C := RX5) (T := TX5) (N := 2) hx hb hts i_X5_init_X5 tyX5 tyX5_ok nmX5 hown hE.1 hP hD hS 0 rfl rfl 0 (by decide) (hts (.fieldLink RX5 9 "NeedleHouse$Tape" "bytes" "[I") (by decide +kernel)) (fun _ h9 => h9) rfl hin rfl (by decide +kernel) rfl rfl (Nat.le_of_ble_eq_true rfl) dX5_init_10 (fun H locs hP hD hS => ?_)
  have hP : va_P D vwCl [(q_t, .inr (5, [.ref q1, .int 0])), (q1, .inl (ct 0, 300, .inl ((fun _ => 0))))] H := hP
  have hD : va_D A [(q_t, .inr (5, [.ref q1, .int 0])), (q1, .inl (ct 0, 300, .inl ((fun _ => 0))))] := hD
  refine lv_aload_n hx hb dX5_init_13 rfl (lv_at hl 0 rfl) ?_
  refine lv_iconst (v := 0) hx hb dX5_init_14 (by decide) ?_
  refine va_put (D := D) (ci := 5) (v := .int 0) (ty := .int) (C := RX5) (T := TX5) (N := 2) hx hb hts i_X5_init_X5 tyX5 tyX5_ok nmX5 hown hE.1 hP hD hS 0 rfl rfl 1 (by decide) (hts (.fieldLink RX5 15 "NeedleHouse$Tape" "size" "I") (by decide +kernel)) (fun _ h9 => h9) rfl (by decide +kernel) rfl rfl (Nat.le_of_ble_eq_true rfl) dX5_init_15 (fun H locs hP hD hS => ?_)
  have hP : va_P D vwCl [(q_t, .inr (5, [.ref q1, .int 0])), (q1, .inl (ct 0, 300, .inl ((fun _ => 0))))] H := hP
  have hD : va_D A [(q_t, .inr (5, [.ref q1, .int 0])), (q1, .inl (ct 0, 300, .inl ((fun _ => 0))))] := hD
  refine W.widen (k := 1) (n := 300) (by omega) (by omega) ?_
  exact W.vret hx hb hr (fun t ht hW => ⟨⟨(), rfl, trivial, q1, vaP_at ht (hP.sub [0, 1] rfl), hD.sub [0, 1] (by decide) rfl⟩, hS.F ht⟩) hS.2.2 dX5_init_18
theorem i_X7_init_X7 : ∀ w ∈ wsX70, w ∈ wsX7_init := by decide +kernel
set_option maxHeartbeats 4000000 in
set_option maxRecDepth 100000 in
theorem met_X7_init (l : Launch) (D : va_G) (ct : Nat → ClassId) (q_t : Nat) (sz : Nat) (n : Nat) (hF : FX7_init n = some ()) : Met l yX7_init wsX7_init ({ frames := 1, cells := 1, slots := 300, locals := 20 } : Room) (va_Pc [.ref q_t] (pre_ D ct sz [(q_t, .inr (7, [.null, .int 0]))])) (va_Qv (fun (_ : Unit) => True) (fun (_ : Unit) (t : State) => ∃ b1 : Nat, va_P D vwCl [(q_t, .inr (7, [.ref b1, .int 0])), (b1, .inl (ct 2, 300, .inl ((fun _ => 0))))] t.heap ∧ va_D (va_A [(q_t, .inr (7, [.null, .int 0]))] sz) [(q_t, .inr (7, [.ref b1, .int 0])), (b1, .inl (ct 2, 300, .inl ((fun _ => 0))))]) (va_A [(q_t, .inr (7, [.null, .int 0]))] sz)) 1 300 (va_A [(q_t, .inr (7, [.null, .int 0]))] sz) := by
  refine Met.ofW (cc := cX7_init) (maxL := 1) (ret := none) (by decide) rfl ?_
  intro p e s m args below meth c s₁ B hml hv
  obtain ⟨rfl, hsz, hP, hE, hD0⟩ := hv
  have hx := B.exec
  have hb := B.bytes
  have hr := B.returns
  have hts := atoms_spec (ws := wsX7_init) B.pre
  have hown : s.vm.findClass RX7 = some m.cls := findClass_of_methodNamed B.named
  have hlocks := B.notSynchronized
  have hin : meth.name = "<init>" := (name_of_methodNamed B.named B.method).1
  subst hsz
  have hD := hD0.self (sz := s.heap.size)
  generalize hAe : va_A [(q_t, .inr (7, [.null, .int 0]))] s.heap.size = A at hD ⊢
  have hA : ∀ q : Nat, s.heap.size ≤ q → A q := fun q h => by rw [← hAe]; exact Or.inr h
  have hl := lv_entry ([.ref q_t]) (n := 1) (Nat.le_of_ble_eq_true rfl)
  rw [lg_entry_eq]
  generalize (lg_sl ([.ref q_t]) ++ List.replicate (1 - (lg_sl ([.ref q_t])).length) Slot.unset).toArray = ls at hl ⊢
  have hl : lv_has ls 1 [(0, .ref q_t)] := hl
  have C0 : Cx RX7 cX7_init 1 none wsX7_init D ct A p s m ([.ref q_t]).toArray meth c := ⟨hx, hb, hml, hown, hts, hr, hlocks, hE, hA⟩
  have hS : ∀ H : Heap, s.heap = H → va_S A s.heap H [] := fun H h => h ▸ va_S.rf
  generalize hH : s.heap = H at hP ⊢
  have hS := hS H hH
  unfold FX7_init at hF
  refine lv_aload_n hx hb dX7_init_0 rfl (lv_at hl 0 rfl) ?_
  refine W.objInit hx hb hown (hts (.methodLink RX7 3 objectInit) (by decide +kernel)) (hts (.instanceMethod objectInit) (by decide +kernel)) (hts _ (List.mem_cons_of_mem _ (mobj_X7_init))) rfl (by rw [hml]; exact hl.1) rfl dX7_init_1 (Nat.le_of_ble_eq_true rfl) (Nat.le_of_ble_eq_true rfl) ?_
  refine W.eq (g2 := F0 m 4 ls []) rfl ?_
  refine lv_aload_n hx hb dX7_init_4 rfl (lv_at hl 0 rfl) ?_
  refine lv_sipush (v := 300) hx hb dX7_init_5 (by decide) ?_
  refine va_newa (atype := .boolean) (a0 := (300, .inl (fun _ => 0))) (ty := .boolean) hx hb (hts (.arrayClass .boolean) (by decide +kernel)) rfl hE.1 hP hD hS hA (fun cA => rfl) (by decide) (by decide) (by decide) (Nat.le_of_ble_eq_true rfl) (Nat.le_of_ble_eq_true rfl) dX7_init_8 (fun q1 cA H hK1 hP hD hS => ?_)
  obtain rfl : cA = ct 2 := ct_eq2 hE.1 hK1
  have hP : va_P D vwCl [(q_t, .inr (7, [.null, .int 0])), (q1, .inl (ct 2, 300, .inl ((fun _ => 0))))] H := hP
  have hD : va_D A [(q_t, .inr (7, [.null, .int 0])), (q1, .inl (ct 2, 300, .inl ((fun _ => 0))))] := hD
  refine W.widen (k := 1) (n := 300) (by omega) (by omega) ?_
  refine va_putF (D := D) (ci := 7) (v := .ref q1) (ty := .array .boolean) (C := RX7) (T := TX7) (N := 2) hx hb hts i_X7_init_X7 tyX7 tyX7_ok nmX7 hown hE.1 hP hD hS 0 rfl rfl 0 (by decide) (hts (.fieldLink RX7 9 "NeedleHouse$Trains" "going" "[Z") (by decide +kernel)) (fun _ h9 => h9) rfl hin rfl (by decide +kernel) rfl rfl (Nat.le_of_ble_eq_true rfl) dX7_init_10 (fun H locs hP hD hS => ?_)
  have hP : va_P D vwCl [(q_t, .inr (7, [.ref q1, .int 0])), (q1, .inl (ct 2, 300, .inl ((fun _ => 0))))] H := hP
  have hD : va_D A [(q_t, .inr (7, [.ref q1, .int 0])), (q1, .inl (ct 2, 300, .inl ((fun _ => 0))))] := hD
  refine lv_aload_n hx hb dX7_init_13 rfl (lv_at hl 0 rfl) ?_
  refine lv_iconst (v := 0) hx hb dX7_init_14 (by decide) ?_
  refine va_put (D := D) (ci := 7) (v := .int 0) (ty := .int) (C := RX7) (T := TX7) (N := 2) hx hb hts i_X7_init_X7 tyX7 tyX7_ok nmX7 hown hE.1 hP hD hS 0 rfl rfl 1 (by decide) (hts (.fieldLink RX7 15 "NeedleHouse$Trains" "size" "I") (by decide +kernel)) (fun _ h9 => h9) rfl (by decide +kernel) rfl rfl (Nat.le_of_ble_eq_true rfl) dX7_init_15 (fun H locs hP hD hS => ?_)
  have hP : va_P D vwCl [(q_t, .inr (7, [.ref q1, .int 0])), (q1, .inl (ct 2, 300, .inl ((fun _ => 0))))] H := hP
  have hD : va_D A [(q_t, .inr (7, [.ref q1, .int 0])), (q1, .inl (ct 2, 300, .inl ((fun _ => 0))))] := hD
  refine W.widen (k := 1) (n := 300) (by omega) (by omega) ?_
  exact W.vret hx hb hr (fun t ht hW => ⟨⟨(), rfl, trivial, q1, vaP_at ht (hP.sub [0, 1] rfl), hD.sub [0, 1] (by decide) rfl⟩, hS.F ht⟩) hS.2.2 dX7_init_18
theorem i_X8_init_X8 : ∀ w ∈ wsX80, w ∈ wsX8_init := by decide +kernel
set_option maxHeartbeats 4000000 in
set_option maxRecDepth 100000 in
theorem met_X8_init (l : Launch) (D : va_G) (ct : Nat → ClassId) (q_t : Nat) (sz : Nat) (n : Nat) (hF : FX8_init n = some ()) : Met l yX8_init wsX8_init ({ frames := 1, cells := 1, slots := 150, locals := 20 } : Room) (va_Pc [.ref q_t] (pre_ D ct sz [(q_t, .inr (8, [.null, .int 0]))])) (va_Qv (fun (_ : Unit) => True) (fun (_ : Unit) (t : State) => ∃ b1 : Nat, va_P D vwCl [(q_t, .inr (8, [.ref b1, .int 0])), (b1, .inl (ct 0, 150, .inl ((fun _ => 0))))] t.heap ∧ va_D (va_A [(q_t, .inr (8, [.null, .int 0]))] sz) [(q_t, .inr (8, [.ref b1, .int 0])), (b1, .inl (ct 0, 150, .inl ((fun _ => 0))))]) (va_A [(q_t, .inr (8, [.null, .int 0]))] sz)) 1 150 (va_A [(q_t, .inr (8, [.null, .int 0]))] sz) := by
  refine Met.ofW (cc := cX8_init) (maxL := 1) (ret := none) (by decide) rfl ?_
  intro p e s m args below meth c s₁ B hml hv
  obtain ⟨rfl, hsz, hP, hE, hD0⟩ := hv
  have hx := B.exec
  have hb := B.bytes
  have hr := B.returns
  have hts := atoms_spec (ws := wsX8_init) B.pre
  have hown : s.vm.findClass RX8 = some m.cls := findClass_of_methodNamed B.named
  have hlocks := B.notSynchronized
  have hin : meth.name = "<init>" := (name_of_methodNamed B.named B.method).1
  subst hsz
  have hD := hD0.self (sz := s.heap.size)
  generalize hAe : va_A [(q_t, .inr (8, [.null, .int 0]))] s.heap.size = A at hD ⊢
  have hA : ∀ q : Nat, s.heap.size ≤ q → A q := fun q h => by rw [← hAe]; exact Or.inr h
  have hl := lv_entry ([.ref q_t]) (n := 1) (Nat.le_of_ble_eq_true rfl)
  rw [lg_entry_eq]
  generalize (lg_sl ([.ref q_t]) ++ List.replicate (1 - (lg_sl ([.ref q_t])).length) Slot.unset).toArray = ls at hl ⊢
  have hl : lv_has ls 1 [(0, .ref q_t)] := hl
  have C0 : Cx RX8 cX8_init 1 none wsX8_init D ct A p s m ([.ref q_t]).toArray meth c := ⟨hx, hb, hml, hown, hts, hr, hlocks, hE, hA⟩
  have hS : ∀ H : Heap, s.heap = H → va_S A s.heap H [] := fun H h => h ▸ va_S.rf
  generalize hH : s.heap = H at hP ⊢
  have hS := hS H hH
  unfold FX8_init at hF
  refine lv_aload_n hx hb dX8_init_0 rfl (lv_at hl 0 rfl) ?_
  refine W.objInit hx hb hown (hts (.methodLink RX8 3 objectInit) (by decide +kernel)) (hts (.instanceMethod objectInit) (by decide +kernel)) (hts _ (List.mem_cons_of_mem _ (mobj_X8_init))) rfl (by rw [hml]; exact hl.1) rfl dX8_init_1 (Nat.le_of_ble_eq_true rfl) (Nat.le_of_ble_eq_true rfl) ?_
  refine W.eq (g2 := F0 m 4 ls []) rfl ?_
  refine lv_aload_n hx hb dX8_init_4 rfl (lv_at hl 0 rfl) ?_
  refine lv_sipush (v := 150) hx hb dX8_init_5 (by decide) ?_
  refine va_newa (atype := .int) (a0 := (150, .inl (fun _ => 0))) (ty := .int) hx hb (hts (.arrayClass .int) (by decide +kernel)) rfl hE.1 hP hD hS hA (fun cA => rfl) (by decide) (by decide) (by decide) (Nat.le_of_ble_eq_true rfl) (Nat.le_of_ble_eq_true rfl) dX8_init_8 (fun q1 cA H hK1 hP hD hS => ?_)
  obtain rfl : cA = ct 0 := ct_eq0 hE.1 hK1
  have hP : va_P D vwCl [(q_t, .inr (8, [.null, .int 0])), (q1, .inl (ct 0, 150, .inl ((fun _ => 0))))] H := hP
  have hD : va_D A [(q_t, .inr (8, [.null, .int 0])), (q1, .inl (ct 0, 150, .inl ((fun _ => 0))))] := hD
  refine W.widen (k := 1) (n := 150) (by omega) (by omega) ?_
  refine va_putF (D := D) (ci := 8) (v := .ref q1) (ty := .array .int) (C := RX8) (T := TX8) (N := 2) hx hb hts i_X8_init_X8 tyX8 tyX8_ok nmX8 hown hE.1 hP hD hS 0 rfl rfl 0 (by decide) (hts (.fieldLink RX8 9 "NeedleHouse$Windows" "indices" "[I") (by decide +kernel)) (fun _ h9 => h9) rfl hin rfl (by decide +kernel) rfl rfl (Nat.le_of_ble_eq_true rfl) dX8_init_10 (fun H locs hP hD hS => ?_)
  have hP : va_P D vwCl [(q_t, .inr (8, [.ref q1, .int 0])), (q1, .inl (ct 0, 150, .inl ((fun _ => 0))))] H := hP
  have hD : va_D A [(q_t, .inr (8, [.ref q1, .int 0])), (q1, .inl (ct 0, 150, .inl ((fun _ => 0))))] := hD
  refine lv_aload_n hx hb dX8_init_13 rfl (lv_at hl 0 rfl) ?_
  refine lv_iconst (v := 0) hx hb dX8_init_14 (by decide) ?_
  refine va_put (D := D) (ci := 8) (v := .int 0) (ty := .int) (C := RX8) (T := TX8) (N := 2) hx hb hts i_X8_init_X8 tyX8 tyX8_ok nmX8 hown hE.1 hP hD hS 0 rfl rfl 1 (by decide) (hts (.fieldLink RX8 15 "NeedleHouse$Windows" "size" "I") (by decide +kernel)) (fun _ h9 => h9) rfl (by decide +kernel) rfl rfl (Nat.le_of_ble_eq_true rfl) dX8_init_15 (fun H locs hP hD hS => ?_)
  have hP : va_P D vwCl [(q_t, .inr (8, [.ref q1, .int 0])), (q1, .inl (ct 0, 150, .inl ((fun _ => 0))))] H := hP
  have hD : va_D A [(q_t, .inr (8, [.ref q1, .int 0])), (q1, .inl (ct 0, 150, .inl ((fun _ => 0))))] := hD
  refine W.widen (k := 1) (n := 150) (by omega) (by omega) ?_
  exact W.vret hx hb hr (fun t ht hW => ⟨⟨(), rfl, trivial, q1, vaP_at ht (hP.sub [0, 1] rfl), hD.sub [0, 1] (by decide) rfl⟩, hS.F ht⟩) hS.2.2 dX8_init_18
theorem i_X3_init_X3 : ∀ w ∈ wsX30, w ∈ wsX3_init := by decide +kernel
set_option maxHeartbeats 4000000 in
set_option maxRecDepth 100000 in
theorem met_X3_init (l : Launch) (D : va_G) (ct : Nat → ClassId) (q_t : Nat) (sz : Nat) (n : Nat) (o_1 : Nat → Int32) (hF : FX3_init n = some (o_1)) : Met l yX3_init wsX3_init ({ frames := 2, cells := 1, slots := 9, locals := 41 } : Room) (va_Pc [.ref q_t] (pre_ D ct sz [(q_t, .inr (3, [.int 0, .int 0, .int 0, .int 0, .int 0, .int 0, .null, .int 0, .int 0]))])) (va_Qv (fun (_ : Unit) => True) (fun (_ : Unit) (t : State) => ∃ b1 : Nat, va_P D vwCl [(q_t, .inr (3, [.int 50, .int 5, .int 1, .int 2, .int 10, .int 5, .ref b1, .int 9, .int 0])), (b1, .inl (ct 0, 9, .inl o_1))] t.heap ∧ va_D (va_A [(q_t, .inr (3, [.int 0, .int 0, .int 0, .int 0, .int 0, .int 0, .null, .int 0, .int 0]))] sz) [(q_t, .inr (3, [.int 50, .int 5, .int 1, .int 2, .int 10, .int 5, .ref b1, .int 9, .int 0])), (b1, .inl (ct 0, 9, .inl o_1))]) (va_A [(q_t, .inr (3, [.int 0, .int 0, .int 0, .int 0, .int 0, .int 0, .null, .int 0, .int 0]))] sz)) 1 9 (va_A [(q_t, .inr (3, [.int 0, .int 0, .int 0, .int 0, .int 0, .int 0, .null, .int 0, .int 0]))] sz) := by
  refine Met.ofW (cc := cX3_init) (maxL := 1) (ret := none) (by decide) rfl ?_
  intro p e s m args below meth c s₁ B hml hv
  obtain ⟨rfl, hsz, hP, hE, hD0⟩ := hv
  have hx := B.exec
  have hb := B.bytes
  have hr := B.returns
  have hts := atoms_spec (ws := wsX3_init) B.pre
  have hown : s.vm.findClass RX3 = some m.cls := findClass_of_methodNamed B.named
  have hlocks := B.notSynchronized
  have hin : meth.name = "<init>" := (name_of_methodNamed B.named B.method).1
  subst hsz
  have hD := hD0.self (sz := s.heap.size)
  generalize hAe : va_A [(q_t, .inr (3, [.int 0, .int 0, .int 0, .int 0, .int 0, .int 0, .null, .int 0, .int 0]))] s.heap.size = A at hD ⊢
  have hA : ∀ q : Nat, s.heap.size ≤ q → A q := fun q h => by rw [← hAe]; exact Or.inr h
  have hl := lv_entry ([.ref q_t]) (n := 1) (Nat.le_of_ble_eq_true rfl)
  rw [lg_entry_eq]
  generalize (lg_sl ([.ref q_t]) ++ List.replicate (1 - (lg_sl ([.ref q_t])).length) Slot.unset).toArray = ls at hl ⊢
  have hl : lv_has ls 1 [(0, .ref q_t)] := hl
  have C0 : Cx RX3 cX3_init 1 none wsX3_init D ct A p s m ([.ref q_t]).toArray meth c := ⟨hx, hb, hml, hown, hts, hr, hlocks, hE, hA⟩
  have hS : ∀ H : Heap, s.heap = H → va_S A s.heap H [] := fun H h => h ▸ va_S.rf
  generalize hH : s.heap = H at hP ⊢
  have hS := hS H hH
  unfold FX3_init at hF
  refine lv_aload_n hx hb dX3_init_0 rfl (lv_at hl 0 rfl) ?_
  refine W.objInit hx hb hown (hts (.methodLink RX3 3 objectInit) (by decide +kernel)) (hts (.instanceMethod objectInit) (by decide +kernel)) (hts _ (List.mem_cons_of_mem _ (mobj_X3_init))) rfl (by rw [hml]; exact hl.1) rfl dX3_init_1 (Nat.le_of_ble_eq_true rfl) (Nat.le_of_ble_eq_true rfl) ?_
  refine W.eq (g2 := F0 m 4 ls []) rfl ?_
  refine lv_aload_n hx hb dX3_init_4 rfl (lv_at hl 0 rfl) ?_
  refine lv_bipush (v := 9) hx hb dX3_init_5 (by decide) ?_
  refine va_newa (atype := .int) (a0 := (9, .inl (fun _ => 0))) (ty := .int) hx hb (hts (.arrayClass .int) (by decide +kernel)) rfl hE.1 hP hD hS hA (fun cA => rfl) (by decide) (by decide) (by decide) (Nat.le_of_ble_eq_true rfl) (Nat.le_of_ble_eq_true rfl) dX3_init_7 (fun q1 cA H hK1 hP hD hS => ?_)
  obtain rfl : cA = ct 0 := ct_eq0 hE.1 hK1
  have hP : va_P D vwCl [(q_t, .inr (3, [.int 0, .int 0, .int 0, .int 0, .int 0, .int 0, .null, .int 0, .int 0])), (q1, .inl (ct 0, 9, .inl ((fun _ => 0))))] H := hP
  have hD : va_D A [(q_t, .inr (3, [.int 0, .int 0, .int 0, .int 0, .int 0, .int 0, .null, .int 0, .int 0])), (q1, .inl (ct 0, 9, .inl ((fun _ => 0))))] := hD
  refine W.widen (k := 1) (n := 9) (by omega) (by omega) ?_
  refine va_putF (D := D) (ci := 3) (v := .ref q1) (ty := .array .int) (C := RX3) (T := TX3) (N := 9) hx hb hts i_X3_init_X3 tyX3 tyX3_ok nmX3 hown hE.1 hP hD hS 0 rfl rfl 6 (by decide) (hts (.fieldLink RX3 9 "NeedleHouse$Rule" "steps" "[I") (by decide +kernel)) (fun _ h9 => h9) rfl hin rfl (by decide +kernel) rfl rfl (Nat.le_of_ble_eq_true rfl) dX3_init_9 (fun H locs hP hD hS => ?_)
  have hP : va_P D vwCl [(q_t, .inr (3, [.int 0, .int 0, .int 0, .int 0, .int 0, .int 0, .ref q1, .int 0, .int 0])), (q1, .inl (ct 0, 9, .inl ((fun _ => 0))))] H := hP
  have hD : va_D A [(q_t, .inr (3, [.int 0, .int 0, .int 0, .int 0, .int 0, .int 0, .ref q1, .int 0, .int 0])), (q1, .inl (ct 0, 9, .inl ((fun _ => 0))))] := hD
  refine lv_aload_n hx hb dX3_init_12 rfl (lv_at hl 0 rfl) ?_
  obtain ⟨v3, v4, v5, v6, v7, v8, v9, v10, f11, h2, hF⟩ := ob9_ex hF
  obtain ⟨rfl, rfl, rfl, rfl, rfl, rfl, rfl, rfl, hfeh2⟩ := in9 (reset_s.symm.trans h2)
  refine xvN (ws1 := [(q_t, .inr (3, [.int 50, .int 5, .int 1, .int 2, .int 10, .int 5, .ref q1, .int 9, .int 0])), (q1, .inl (ct 0, 9, .inl f11))]) (va_runV (As := []) (rest := []) ⟨hx, hb, hml, hown, hts⟩ (met_X3_reset l D ct q_t q1 H.size 0 0 0 0 0 0 0 0 ((fun _ => 0)) n 50 5 1 2 10 5 9 0 f11 h2) (cwV 0 hts gX3_init_X3_reset rfl rfl rfl (by decide +kernel) ⟨Nat.le_of_ble_eq_true rfl, Nat.le_of_ble_eq_true rfl⟩) ⟨blind_, va_recv hE.1 hP (ci := 3) (q0 := 0) rfl rfl, mkpre_ hE (hP.sub [0, 1] rfl) (hD.sub [0, 1] (by decide) rfl)⟩ rfl rfl hl.1 rfl (lv_room (Nat.le_of_ble_eq_true rfl)) dX3_init_13 ⟨Nat.le_of_ble_eq_true rfl, Nat.le_of_ble_eq_true rfl⟩) hP hD hS hA [0, 1] [] 2 rfl rfl rfl rfl (by decide) rfl (fun H locs hP hD hS => ?_)
  obtain rfl := Option.some.inj hF
  refine W.widen (k := 1) (n := 9) (by omega) (by omega) ?_
  exact W.vret hx hb hr (fun t ht hW => ⟨⟨(), rfl, trivial, q1, vaP_at ht (hP.sub [0, 1] rfl), hD.sub [0, 1] (by decide) rfl⟩, hS.F ht⟩) hS.2.2 dX3_init_16
theorem i_X4_init_X4 : ∀ w ∈ wsX40, w ∈ wsX4_init := by decide +kernel
theorem i_X4_init_X5 : ∀ w ∈ wsX50, w ∈ wsX4_init := by decide +kernel
set_option maxHeartbeats 4000000 in
set_option maxRecDepth 100000 in
theorem met_X4_init (l : Launch) (D : va_G) (ct : Nat → ClassId) (q_t : Nat) (sz : Nat) (n : Nat) (hF : FX4_init n = some ()) : Met l yX4_init wsX4_init ({ frames := 2, cells := 2, slots := 302, locals := 40 } : Room) (va_Pc [.ref q_t] (pre_ D ct sz [(q_t, .inr (4, [.null, .int 0, .int 0, .int 0, .int 0, .int 0]))])) (va_Qv (fun (_ : Unit) => True) (fun (_ : Unit) (t : State) => ∃ b1 b2 : Nat, va_P D vwCl [(q_t, .inr (4, [.ref b1, .int 0, .int 0, .int 0, .int 0, .int ((-1))])), (b1, .inr (5, [.ref b2, .int 0])), (b2, .inl (ct 0, 300, .inl ((fun _ => 0))))] t.heap ∧ va_D (va_A [(q_t, .inr (4, [.null, .int 0, .int 0, .int 0, .int 0, .int 0]))] sz) [(q_t, .inr (4, [.ref b1, .int 0, .int 0, .int 0, .int 0, .int ((-1))])), (b1, .inr (5, [.ref b2, .int 0])), (b2, .inl (ct 0, 300, .inl ((fun _ => 0))))]) (va_A [(q_t, .inr (4, [.null, .int 0, .int 0, .int 0, .int 0, .int 0]))] sz)) 2 302 (va_A [(q_t, .inr (4, [.null, .int 0, .int 0, .int 0, .int 0, .int 0]))] sz) := by
  refine Met.ofW (cc := cX4_init) (maxL := 1) (ret := none) (by decide) rfl ?_
  intro p e s m args below meth c s₁ B hml hv
  obtain ⟨rfl, hsz, hP, hE, hD0⟩ := hv
  have hx := B.exec
  have hb := B.bytes
  have hr := B.returns
  have hts := atoms_spec (ws := wsX4_init) B.pre
  have hown : s.vm.findClass RX4 = some m.cls := findClass_of_methodNamed B.named
  have hlocks := B.notSynchronized
  have hin : meth.name = "<init>" := (name_of_methodNamed B.named B.method).1
  subst hsz
  have hD := hD0.self (sz := s.heap.size)
  generalize hAe : va_A [(q_t, .inr (4, [.null, .int 0, .int 0, .int 0, .int 0, .int 0]))] s.heap.size = A at hD ⊢
  have hA : ∀ q : Nat, s.heap.size ≤ q → A q := fun q h => by rw [← hAe]; exact Or.inr h
  have hl := lv_entry ([.ref q_t]) (n := 1) (Nat.le_of_ble_eq_true rfl)
  rw [lg_entry_eq]
  generalize (lg_sl ([.ref q_t]) ++ List.replicate (1 - (lg_sl ([.ref q_t])).length) Slot.unset).toArray = ls at hl ⊢
  have hl : lv_has ls 1 [(0, .ref q_t)] := hl
  have C0 : Cx RX4 cX4_init 1 none wsX4_init D ct A p s m ([.ref q_t]).toArray meth c := ⟨hx, hb, hml, hown, hts, hr, hlocks, hE, hA⟩
  have hS : ∀ H : Heap, s.heap = H → va_S A s.heap H [] := fun H h => h ▸ va_S.rf
  generalize hH : s.heap = H at hP ⊢
  have hS := hS H hH
  unfold FX4_init at hF
  refine lv_aload_n hx hb dX4_init_0 rfl (lv_at hl 0 rfl) ?_
  refine W.objInit hx hb hown (hts (.methodLink RX4 3 objectInit) (by decide +kernel)) (hts (.instanceMethod objectInit) (by decide +kernel)) (hts _ (List.mem_cons_of_mem _ (mobj_X4_init))) rfl (by rw [hml]; exact hl.1) rfl dX4_init_1 (Nat.le_of_ble_eq_true rfl) (Nat.le_of_ble_eq_true rfl) ?_
  refine W.eq (g2 := F0 m 4 ls []) rfl ?_
  refine lv_aload_n hx hb dX4_init_4 rfl (lv_at hl 0 rfl) ?_
  refine va_new (ci := 5) (fs := [.null, .int 0]) (C := RX5) (T := TX5) (N := 2) hx hb hts i_X4_init_X5 tyX5 tyX5_ok hown (hts (.classLink RX4 9 RX5) (by decide +kernel)) (hts (.instantiable RX5 2) (by decide +kernel)) (hts (.initialized RX5) (by decide +kernel)) hE.1 hP hD hS hA rfl (nf_X5) (Nat.le_of_ble_eq_true rfl) (Nat.le_of_ble_eq_true rfl) dX4_init_5 (fun q1 H hP hD hS => ?_)
  have hP : va_P D vwCl [(q_t, .inr (4, [.null, .int 0, .int 0, .int 0, .int 0, .int 0])), (q1, .inr (5, [.null, .int 0]))] H := hP
  have hD : va_D A [(q_t, .inr (4, [.null, .int 0, .int 0, .int 0, .int 0, .int 0])), (q1, .inr (5, [.null, .int 0]))] := hD
  refine W.widen (k := 1) (n := 2) (by omega) (by omega) ?_
  refine lv_dup hx hb dX4_init_8 rfl ?_
  obtain ⟨u0, h2, hF⟩ := ob1_ex hF
  have hS0 := hS
  have hH0 : True := trivial
  refine va_callv (va_runI (As := []) (rest := [.ref q1, .ref q_t]) ⟨hx, hb, hml, hown, hts⟩ (met_X5_init l D ct q1 H.size n h2) (cwI 0 hts gX4_init_X5_init rfl rfl rfl (hts (.initialized RX5) (by decide +kernel)) (hts (.methodLink RX4 11 yX5_init) (by decide +kernel)) (hts (.instanceMethod yX5_init) (by decide +kernel)) rfl (by decide +kernel) ⟨Nat.le_of_ble_eq_true rfl, Nat.le_of_ble_eq_true rfl⟩) ⟨blind_, mkpre_ hE (hP.sub [1] rfl) (hD.sub [1] (by decide) rfl)⟩ rfl rfl hl.1 rfl (lv_room (Nat.le_of_ble_eq_true rfl)) dX4_init_9 ⟨Nat.le_of_ble_eq_true rfl, Nat.le_of_ble_eq_true rfl⟩) hS (fun q _ h => (va_free hD hS hA [1] rfl) q h) (va_free hD hS hA [1] rfl) (fun u t H1 locs ht hvm hw hB hz1 hk1 hS => ?_)
  obtain ⟨q3, hP1, hD1⟩ := hB
  rw [ht] at hP1
  obtain ⟨hP, hD⟩ := va_join (wr := [(q_t, .inr (4, [.null, .int 0, .int 0, .int 0, .int 0, .int 0]))]) (w1 := [(q1, .inr (5, [.ref q3, .int 0])), (q3, .inl (ct 0, 300, .inl ((fun _ => 0))))]) hP hD [1] [0] rfl rfl (by decide) (by decide) hk1 (va_free hD hS0 hA [1] rfl) hP1 hD1
  generalize H1 = H at hP hS ⊢
  have hP : va_P D vwCl [(q_t, .inr (4, [.null, .int 0, .int 0, .int 0, .int 0, .int 0])), (q1, .inr (5, [.ref q3, .int 0])), (q3, .inl (ct 0, 300, .inl ((fun _ => 0))))] H := hP
  have hD : va_D A [(q_t, .inr (4, [.null, .int 0, .int 0, .int 0, .int 0, .int 0])), (q1, .inr (5, [.ref q3, .int 0])), (q3, .inl (ct 0, 300, .inl ((fun _ => 0))))] := hD
  refine W.widen (k := 2) (n := 302) (by omega) (by omega) ?_
  refine W.eq (g2 := F0 m 12 ls [.ref q1, .ref q_t]) rfl ?_
  refine va_putF (D := D) (ci := 4) (v := .ref q1) (ty := .object "NeedleHouse$Tape") (C := RX4) (T := TX4) (N := 6) hx hb hts i_X4_init_X4 tyX4 tyX4_ok nmX4 hown hE.1 hP hD hS 0 rfl rfl 0 (by decide) (hts (.fieldLink RX4 12 "NeedleHouse$RuleReader" "tape" "LNeedleHouse$Tape;") (by decide +kernel)) (fun _ h9 => h9) rfl hin rfl (by decide +kernel) rfl rfl (Nat.le_of_ble_eq_true rfl) dX4_init_12 (fun H locs hP hD hS => ?_)
  have hP : va_P D vwCl [(q_t, .inr (4, [.ref q1, .int 0, .int 0, .int 0, .int 0, .int 0])), (q1, .inr (5, [.ref q3, .int 0])), (q3, .inl (ct 0, 300, .inl ((fun _ => 0))))] H := hP
  have hD : va_D A [(q_t, .inr (4, [.ref q1, .int 0, .int 0, .int 0, .int 0, .int 0])), (q1, .inr (5, [.ref q3, .int 0])), (q3, .inl (ct 0, 300, .inl ((fun _ => 0))))] := hD
  refine lv_aload_n hx hb dX4_init_15 rfl (lv_at hl 0 rfl) ?_
  refine lv_iconst (v := 0) hx hb dX4_init_16 (by decide) ?_
  refine va_put (D := D) (ci := 4) (v := .int 0) (ty := .int) (C := RX4) (T := TX4) (N := 6) hx hb hts i_X4_init_X4 tyX4 tyX4_ok nmX4 hown hE.1 hP hD hS 0 rfl rfl 1 (by decide) (hts (.fieldLink RX4 18 "NeedleHouse$RuleReader" "length" "I") (by decide +kernel)) (fun _ h9 => h9) rfl (by decide +kernel) rfl rfl (Nat.le_of_ble_eq_true rfl) dX4_init_17 (fun H locs hP hD hS => ?_)
  have hP : va_P D vwCl [(q_t, .inr (4, [.ref q1, .int 0, .int 0, .int 0, .int 0, .int 0])), (q1, .inr (5, [.ref q3, .int 0])), (q3, .inl (ct 0, 300, .inl ((fun _ => 0))))] H := hP
  have hD : va_D A [(q_t, .inr (4, [.ref q1, .int 0, .int 0, .int 0, .int 0, .int 0])), (q1, .inr (5, [.ref q3, .int 0])), (q3, .inl (ct 0, 300, .inl ((fun _ => 0))))] := hD
  refine lv_aload_n hx hb dX4_init_20 rfl (lv_at hl 0 rfl) ?_
  refine lv_iconst (v := 0) hx hb dX4_init_21 (by decide) ?_
  refine va_put (D := D) (ci := 4) (v := .int 0) (ty := .int) (C := RX4) (T := TX4) (N := 6) hx hb hts i_X4_init_X4 tyX4 tyX4_ok nmX4 hown hE.1 hP hD hS 0 rfl rfl 2 (by decide) (hts (.fieldLink RX4 22 "NeedleHouse$RuleReader" "place" "I") (by decide +kernel)) (fun _ h9 => h9) rfl (by decide +kernel) rfl rfl (Nat.le_of_ble_eq_true rfl) dX4_init_22 (fun H locs hP hD hS => ?_)
  have hP : va_P D vwCl [(q_t, .inr (4, [.ref q1, .int 0, .int 0, .int 0, .int 0, .int 0])), (q1, .inr (5, [.ref q3, .int 0])), (q3, .inl (ct 0, 300, .inl ((fun _ => 0))))] H := hP
  have hD : va_D A [(q_t, .inr (4, [.ref q1, .int 0, .int 0, .int 0, .int 0, .int 0])), (q1, .inr (5, [.ref q3, .int 0])), (q3, .inl (ct 0, 300, .inl ((fun _ => 0))))] := hD
  refine lv_aload_n hx hb dX4_init_25 rfl (lv_at hl 0 rfl) ?_
  refine lv_iconst (v := 0) hx hb dX4_init_26 (by decide) ?_
  refine va_put (D := D) (ci := 4) (v := .int 0) (ty := .int) (C := RX4) (T := TX4) (N := 6) hx hb hts i_X4_init_X4 tyX4 tyX4_ok nmX4 hown hE.1 hP hD hS 0 rfl rfl 3 (by decide) (hts (.fieldLink RX4 25 "NeedleHouse$RuleReader" "numberPlace" "I") (by decide +kernel)) (fun _ h9 => h9) rfl (by decide +kernel) rfl rfl (Nat.le_of_ble_eq_true rfl) dX4_init_27 (fun H locs hP hD hS => ?_)
  have hP : va_P D vwCl [(q_t, .inr (4, [.ref q1, .int 0, .int 0, .int 0, .int 0, .int 0])), (q1, .inr (5, [.ref q3, .int 0])), (q3, .inl (ct 0, 300, .inl ((fun _ => 0))))] H := hP
  have hD : va_D A [(q_t, .inr (4, [.ref q1, .int 0, .int 0, .int 0, .int 0, .int 0])), (q1, .inr (5, [.ref q3, .int 0])), (q3, .inl (ct 0, 300, .inl ((fun _ => 0))))] := hD
  refine lv_aload_n hx hb dX4_init_30 rfl (lv_at hl 0 rfl) ?_
  refine lv_iconst (v := 0) hx hb dX4_init_31 (by decide) ?_
  refine va_put (D := D) (ci := 4) (v := .int 0) (ty := .int) (C := RX4) (T := TX4) (N := 6) hx hb hts i_X4_init_X4 tyX4 tyX4_ok nmX4 hown hE.1 hP hD hS 0 rfl rfl 4 (by decide) (hts (.fieldLink RX4 28 "NeedleHouse$RuleReader" "faultKind" "I") (by decide +kernel)) (fun _ h9 => h9) rfl (by decide +kernel) rfl rfl (Nat.le_of_ble_eq_true rfl) dX4_init_32 (fun H locs hP hD hS => ?_)
  have hP : va_P D vwCl [(q_t, .inr (4, [.ref q1, .int 0, .int 0, .int 0, .int 0, .int 0])), (q1, .inr (5, [.ref q3, .int 0])), (q3, .inl (ct 0, 300, .inl ((fun _ => 0))))] H := hP
  have hD : va_D A [(q_t, .inr (4, [.ref q1, .int 0, .int 0, .int 0, .int 0, .int 0])), (q1, .inr (5, [.ref q3, .int 0])), (q3, .inl (ct 0, 300, .inl ((fun _ => 0))))] := hD
  refine lv_aload_n hx hb dX4_init_35 rfl (lv_at hl 0 rfl) ?_
  refine lv_iconst (v := (-1)) hx hb dX4_init_36 (by decide) ?_
  refine va_put (D := D) (ci := 4) (v := .int ((-1))) (ty := .int) (C := RX4) (T := TX4) (N := 6) hx hb hts i_X4_init_X4 tyX4 tyX4_ok nmX4 hown hE.1 hP hD hS 0 rfl rfl 5 (by decide) (hts (.fieldLink RX4 31 "NeedleHouse$RuleReader" "faultPlace" "I") (by decide +kernel)) (fun _ h9 => h9) rfl (by decide +kernel) rfl rfl (Nat.le_of_ble_eq_true rfl) dX4_init_37 (fun H locs hP hD hS => ?_)
  have hP : va_P D vwCl [(q_t, .inr (4, [.ref q1, .int 0, .int 0, .int 0, .int 0, .int ((-1))])), (q1, .inr (5, [.ref q3, .int 0])), (q3, .inl (ct 0, 300, .inl ((fun _ => 0))))] H := hP
  have hD : va_D A [(q_t, .inr (4, [.ref q1, .int 0, .int 0, .int 0, .int 0, .int ((-1))])), (q1, .inr (5, [.ref q3, .int 0])), (q3, .inl (ct 0, 300, .inl ((fun _ => 0))))] := hD
  refine W.widen (k := 2) (n := 302) (by omega) (by omega) ?_
  exact W.vret hx hb hr (fun t ht hW => ⟨⟨(), rfl, trivial, q1, q3, vaP_at ht (hP.sub [0, 1, 2] rfl), hD.sub [0, 1, 2] (by decide) rfl⟩, hS.F ht⟩) hS.2.2 dX4_init_40
theorem i_X6_init_X0 : ∀ w ∈ wsX00, w ∈ wsX6_init := by decide +kernel
theorem i_X6_init_X1 : ∀ w ∈ wsX10, w ∈ wsX6_init := by decide +kernel
theorem i_X6_init_X2 : ∀ w ∈ wsX20, w ∈ wsX6_init := by decide +kernel
theorem i_X6_init_X6 : ∀ w ∈ wsX60, w ∈ wsX6_init := by decide +kernel
set_option maxHeartbeats 4000000 in
set_option maxRecDepth 100000 in
theorem met_X6_init (l : Launch) (D : va_G) (ct : Nat → ClassId) (q_t : Nat) (sz : Nat) (n : Nat) (o_1 : Nat → Int32) (o_2 : Nat → Int32) (o_3 : Nat → Int32) (o_4 : Nat → Int32) (o_5 : Nat → Int32) (hF : FX6_init n = some (o_1, o_2, o_3, o_4, o_5)) : Met l yX6_init wsX6_init ({ frames := 2, cells := 21, slots := 1763, locals := 43 } : Room) (va_Pc [.ref q_t] (pre_ D ct sz [(q_t, .inr (6, [.null, .null, .null, .null, .null, .null, .null, .int 0]))])) (va_Qv (fun (_ : Unit) => True) (fun (_ : Unit) (t : State) => ∃ b1 b2 b3 b4 b5 b6 b7 b8 b9 b10 b11 b12 b13 b14 b15 b16 b17 b18 b19 b20 b21 : Nat, va_P D vwCl [(q_t, .inr (6, [.ref b1, .ref b3, .ref b5, .ref b10, .ref b19, .ref b20, .ref b21, .int ((-1))])), (b1, .inr (2, [.ref b2, .int 0])), (b2, .inl (ct 0, 300, .inl o_1)), (b3, .inr (2, [.ref b4, .int 0])), (b4, .inl (ct 0, 300, .inl o_2)), (b5, .inr (0, [.ref b6, .ref b7, .ref b8, .ref b9, .int 0])), (b6, .inl (ct 0, 20, .inl ((fun _ => 0)))), (b7, .inl (ct 0, 20, .inl ((fun _ => 0)))), (b8, .inl (ct 0, 20, .inl ((fun _ => 0)))), (b9, .inl (ct 0, 20, .inl ((fun _ => 0)))), (b10, .inr (1, [.ref b11, .ref b12, .ref b13, .int 0, .ref b14, .ref b15, .ref b16, .ref b17, .ref b18, .int 0, .long 0, .long 0, .long 0, .long 0])), (b11, .inl (ct 0, 20, .inl ((fun _ => 0)))), (b12, .inl (ct 0, 20, .inl ((fun _ => 0)))), (b13, .inl (ct 0, 20, .inl ((fun _ => 0)))), (b14, .inl (ct 0, 20, .inl ((fun _ => 0)))), (b15, .inl (ct 0, 20, .inl ((fun _ => 0)))), (b16, .inl (ct 0, 20, .inl ((fun _ => 0)))), (b17, .inl (ct 0, 20, .inl ((fun _ => 0)))), (b18, .inl (ct 1, 20, .inr (.inl ((fun _ => 0))))), (b19, .inl (ct 0, 300, .inl o_3)), (b20, .inl (ct 0, 300, .inl o_4)), (b21, .inl (ct 0, 300, .inl o_5))] t.heap ∧ va_D (va_A [(q_t, .inr (6, [.null, .null, .null, .null, .null, .null, .null, .int 0]))] sz) [(q_t, .inr (6, [.ref b1, .ref b3, .ref b5, .ref b10, .ref b19, .ref b20, .ref b21, .int ((-1))])), (b1, .inr (2, [.ref b2, .int 0])), (b2, .inl (ct 0, 300, .inl o_1)), (b3, .inr (2, [.ref b4, .int 0])), (b4, .inl (ct 0, 300, .inl o_2)), (b5, .inr (0, [.ref b6, .ref b7, .ref b8, .ref b9, .int 0])), (b6, .inl (ct 0, 20, .inl ((fun _ => 0)))), (b7, .inl (ct 0, 20, .inl ((fun _ => 0)))), (b8, .inl (ct 0, 20, .inl ((fun _ => 0)))), (b9, .inl (ct 0, 20, .inl ((fun _ => 0)))), (b10, .inr (1, [.ref b11, .ref b12, .ref b13, .int 0, .ref b14, .ref b15, .ref b16, .ref b17, .ref b18, .int 0, .long 0, .long 0, .long 0, .long 0])), (b11, .inl (ct 0, 20, .inl ((fun _ => 0)))), (b12, .inl (ct 0, 20, .inl ((fun _ => 0)))), (b13, .inl (ct 0, 20, .inl ((fun _ => 0)))), (b14, .inl (ct 0, 20, .inl ((fun _ => 0)))), (b15, .inl (ct 0, 20, .inl ((fun _ => 0)))), (b16, .inl (ct 0, 20, .inl ((fun _ => 0)))), (b17, .inl (ct 0, 20, .inl ((fun _ => 0)))), (b18, .inl (ct 1, 20, .inr (.inl ((fun _ => 0))))), (b19, .inl (ct 0, 300, .inl o_3)), (b20, .inl (ct 0, 300, .inl o_4)), (b21, .inl (ct 0, 300, .inl o_5))]) (va_A [(q_t, .inr (6, [.null, .null, .null, .null, .null, .null, .null, .int 0]))] sz)) 21 1763 (va_A [(q_t, .inr (6, [.null, .null, .null, .null, .null, .null, .null, .int 0]))] sz) := by
  refine Met.ofW (cc := cX6_init) (maxL := 1) (ret := none) (by decide) rfl ?_
  intro p e s m args below meth c s₁ B hml hv
  obtain ⟨rfl, hsz, hP, hE, hD0⟩ := hv
  have hx := B.exec
  have hb := B.bytes
  have hr := B.returns
  have hts := atoms_spec (ws := wsX6_init) B.pre
  have hown : s.vm.findClass RX6 = some m.cls := findClass_of_methodNamed B.named
  have hlocks := B.notSynchronized
  have hin : meth.name = "<init>" := (name_of_methodNamed B.named B.method).1
  subst hsz
  have hD := hD0.self (sz := s.heap.size)
  generalize hAe : va_A [(q_t, .inr (6, [.null, .null, .null, .null, .null, .null, .null, .int 0]))] s.heap.size = A at hD ⊢
  have hA : ∀ q : Nat, s.heap.size ≤ q → A q := fun q h => by rw [← hAe]; exact Or.inr h
  have hl := lv_entry ([.ref q_t]) (n := 1) (Nat.le_of_ble_eq_true rfl)
  rw [lg_entry_eq]
  generalize (lg_sl ([.ref q_t]) ++ List.replicate (1 - (lg_sl ([.ref q_t])).length) Slot.unset).toArray = ls at hl ⊢
  have hl : lv_has ls 1 [(0, .ref q_t)] := hl
  have C0 : Cx RX6 cX6_init 1 none wsX6_init D ct A p s m ([.ref q_t]).toArray meth c := ⟨hx, hb, hml, hown, hts, hr, hlocks, hE, hA⟩
  have hS : ∀ H : Heap, s.heap = H → va_S A s.heap H [] := fun H h => h ▸ va_S.rf
  generalize hH : s.heap = H at hP ⊢
  have hS := hS H hH
  unfold FX6_init at hF
  refine lv_aload_n hx hb dX6_init_0 rfl (lv_at hl 0 rfl) ?_
  refine W.objInit hx hb hown (hts (.methodLink RX6 3 objectInit) (by decide +kernel)) (hts (.instanceMethod objectInit) (by decide +kernel)) (hts _ (List.mem_cons_of_mem _ (mobj_X6_init))) rfl (by rw [hml]; exact hl.1) rfl dX6_init_1 (Nat.le_of_ble_eq_true rfl) (Nat.le_of_ble_eq_true rfl) ?_
  refine W.eq (g2 := F0 m 4 ls []) rfl ?_
  refine lv_aload_n hx hb dX6_init_4 rfl (lv_at hl 0 rfl) ?_
  refine va_new (ci := 2) (fs := [.null, .int 0]) (C := RX2) (T := TX2) (N := 2) hx hb hts i_X6_init_X2 tyX2 tyX2_ok hown (hts (.classLink RX6 9 RX2) (by decide +kernel)) (hts (.instantiable RX2 2) (by decide +kernel)) (hts (.initialized RX2) (by decide +kernel)) hE.1 hP hD hS hA rfl (nf_X2) (Nat.le_of_ble_eq_true rfl) (Nat.le_of_ble_eq_true rfl) dX6_init_5 (fun q1 H hP hD hS => ?_)
  have hP : va_P D vwCl [(q_t, .inr (6, [.null, .null, .null, .null, .null, .null, .null, .int 0])), (q1, .inr (2, [.null, .int 0]))] H := hP
  have hD : va_D A [(q_t, .inr (6, [.null, .null, .null, .null, .null, .null, .null, .int 0])), (q1, .inr (2, [.null, .int 0]))] := hD
  refine W.widen (k := 1) (n := 2) (by omega) (by omega) ?_
  refine lv_dup hx hb dX6_init_8 rfl ?_
  obtain ⟨f2, h3, hF⟩ := ob1_ex hF
  have hS0 := hS
  have hH0 : True := trivial
  refine va_callv (va_runI (As := []) (rest := [.ref q1, .ref q_t]) ⟨hx, hb, hml, hown, hts⟩ (met_X2_init l D ct q1 H.size n f2 h3) (cwI 0 hts gX6_init_X2_init rfl rfl rfl (hts (.initialized RX2) (by decide +kernel)) (hts (.methodLink RX6 11 yX2_init) (by decide +kernel)) (hts (.instanceMethod yX2_init) (by decide +kernel)) rfl (by decide +kernel) ⟨Nat.le_of_ble_eq_true rfl, Nat.le_of_ble_eq_true rfl⟩) ⟨blind_, mkpre_ hE (hP.sub [1] rfl) (hD.sub [1] (by decide) rfl)⟩ rfl rfl hl.1 rfl (lv_room (Nat.le_of_ble_eq_true rfl)) dX6_init_9 ⟨Nat.le_of_ble_eq_true rfl, Nat.le_of_ble_eq_true rfl⟩) hS (fun q _ h => (va_free hD hS hA [1] rfl) q h) (va_free hD hS hA [1] rfl) (fun u t H1 locs ht hvm hw hB hz1 hk1 hS => ?_)
  obtain ⟨q4, hP1, hD1⟩ := hB
  rw [ht] at hP1
  obtain ⟨hP, hD⟩ := va_join (wr := [(q_t, .inr (6, [.null, .null, .null, .null, .null, .null, .null, .int 0]))]) (w1 := [(q1, .inr (2, [.ref q4, .int 0])), (q4, .inl (ct 0, 300, .inl f2))]) hP hD [1] [0] rfl rfl (by decide) (by decide) hk1 (va_free hD hS0 hA [1] rfl) hP1 hD1
  generalize H1 = H at hP hS ⊢
  have hP : va_P D vwCl [(q_t, .inr (6, [.null, .null, .null, .null, .null, .null, .null, .int 0])), (q1, .inr (2, [.ref q4, .int 0])), (q4, .inl (ct 0, 300, .inl f2))] H := hP
  have hD : va_D A [(q_t, .inr (6, [.null, .null, .null, .null, .null, .null, .null, .int 0])), (q1, .inr (2, [.ref q4, .int 0])), (q4, .inl (ct 0, 300, .inl f2))] := hD
  refine W.widen (k := 2) (n := 302) (by omega) (by omega) ?_
  refine W.eq (g2 := F0 m 12 ls [.ref q1, .ref q_t]) rfl ?_
  refine va_putF (D := D) (ci := 6) (v := .ref q1) (ty := .object "NeedleHouse$Row") (C := RX6) (T := TX6) (N := 8) hx hb hts i_X6_init_X6 tyX6 tyX6_ok nmX6 hown hE.1 hP hD hS 0 rfl rfl 0 (by decide) (hts (.fieldLink RX6 12 "NeedleHouse$Track" "row0" "LNeedleHouse$Row;") (by decide +kernel)) (fun _ h9 => h9) rfl hin rfl (by decide +kernel) rfl rfl (Nat.le_of_ble_eq_true rfl) dX6_init_12 (fun H locs hP hD hS => ?_)
  have hP : va_P D vwCl [(q_t, .inr (6, [.ref q1, .null, .null, .null, .null, .null, .null, .int 0])), (q1, .inr (2, [.ref q4, .int 0])), (q4, .inl (ct 0, 300, .inl f2))] H := hP
  have hD : va_D A [(q_t, .inr (6, [.ref q1, .null, .null, .null, .null, .null, .null, .int 0])), (q1, .inr (2, [.ref q4, .int 0])), (q4, .inl (ct 0, 300, .inl f2))] := hD
  refine lv_aload_n hx hb dX6_init_15 rfl (lv_at hl 0 rfl) ?_
  refine va_new (ci := 2) (fs := [.null, .int 0]) (C := RX2) (T := TX2) (N := 2) hx hb hts i_X6_init_X2 tyX2 tyX2_ok hown (hts (.classLink RX6 9 RX2) (by decide +kernel)) (hts (.instantiable RX2 2) (by decide +kernel)) (hts (.initialized RX2) (by decide +kernel)) hE.1 hP hD hS hA rfl (nf_X2) (Nat.le_of_ble_eq_true rfl) (Nat.le_of_ble_eq_true rfl) dX6_init_16 (fun q5 H hP hD hS => ?_)
  have hP : va_P D vwCl [(q_t, .inr (6, [.ref q1, .null, .null, .null, .null, .null, .null, .int 0])), (q1, .inr (2, [.ref q4, .int 0])), (q4, .inl (ct 0, 300, .inl f2)), (q5, .inr (2, [.null, .int 0]))] H := hP
  have hD : va_D A [(q_t, .inr (6, [.ref q1, .null, .null, .null, .null, .null, .null, .int 0])), (q1, .inr (2, [.ref q4, .int 0])), (q4, .inl (ct 0, 300, .inl f2)), (q5, .inr (2, [.null, .int 0]))] := hD
  refine W.widen (k := 3) (n := 304) (by omega) (by omega) ?_
  refine lv_dup hx hb dX6_init_19 rfl ?_
  obtain ⟨f6, h7, hF⟩ := ob1_ex hF
  have hS0 := hS
  have hH0 : True := trivial
  refine va_callv (va_runI (As := []) (rest := [.ref q5, .ref q_t]) ⟨hx, hb, hml, hown, hts⟩ (met_X2_init l D ct q5 H.size n f6 h7) (cwI 0 hts gX6_init_X2_init rfl rfl rfl (hts (.initialized RX2) (by decide +kernel)) (hts (.methodLink RX6 11 yX2_init) (by decide +kernel)) (hts (.instanceMethod yX2_init) (by decide +kernel)) rfl (by decide +kernel) ⟨Nat.le_of_ble_eq_true rfl, Nat.le_of_ble_eq_true rfl⟩) ⟨blind_, mkpre_ hE (hP.sub [3] rfl) (hD.sub [3] (by decide) rfl)⟩ rfl rfl hl.1 rfl (lv_room (Nat.le_of_ble_eq_true rfl)) dX6_init_20 ⟨Nat.le_of_ble_eq_true rfl, Nat.le_of_ble_eq_true rfl⟩) hS (fun q _ h => (va_free hD hS hA [3] rfl) q h) (va_free hD hS hA [3] rfl) (fun u t H1 locs ht hvm hw hB hz1 hk1 hS => ?_)
  obtain ⟨q8, hP1, hD1⟩ := hB
  rw [ht] at hP1
  obtain ⟨hP, hD⟩ := va_join (wr := [(q_t, .inr (6, [.ref q1, .null, .null, .null, .null, .null, .null, .int 0])), (q1, .inr (2, [.ref q4, .int 0])), (q4, .inl (ct 0, 300, .inl f2))]) (w1 := [(q5, .inr (2, [.ref q8, .int 0])), (q8, .inl (ct 0, 300, .inl f6))]) hP hD [3] [0, 1, 2] rfl rfl (by decide) (by decide) hk1 (va_free hD hS0 hA [3] rfl) hP1 hD1
  generalize H1 = H at hP hS ⊢
  have hP : va_P D vwCl [(q_t, .inr (6, [.ref q1, .null, .null, .null, .null, .null, .null, .int 0])), (q1, .inr (2, [.ref q4, .int 0])), (q4, .inl (ct 0, 300, .inl f2)), (q5, .inr (2, [.ref q8, .int 0])), (q8, .inl (ct 0, 300, .inl f6))] H := hP
  have hD : va_D A [(q_t, .inr (6, [.ref q1, .null, .null, .null, .null, .null, .null, .int 0])), (q1, .inr (2, [.ref q4, .int 0])), (q4, .inl (ct 0, 300, .inl f2)), (q5, .inr (2, [.ref q8, .int 0])), (q8, .inl (ct 0, 300, .inl f6))] := hD
  refine W.widen (k := 4) (n := 604) (by omega) (by omega) ?_
  refine W.eq (g2 := F0 m 23 ls [.ref q5, .ref q_t]) rfl ?_
  refine va_putF (D := D) (ci := 6) (v := .ref q5) (ty := .object "NeedleHouse$Row") (C := RX6) (T := TX6) (N := 8) hx hb hts i_X6_init_X6 tyX6 tyX6_ok nmX6 hown hE.1 hP hD hS 0 rfl rfl 1 (by decide) (hts (.fieldLink RX6 18 "NeedleHouse$Track" "row1" "LNeedleHouse$Row;") (by decide +kernel)) (fun _ h9 => h9) rfl hin rfl (by decide +kernel) rfl rfl (Nat.le_of_ble_eq_true rfl) dX6_init_23 (fun H locs hP hD hS => ?_)
  have hP : va_P D vwCl [(q_t, .inr (6, [.ref q1, .ref q5, .null, .null, .null, .null, .null, .int 0])), (q1, .inr (2, [.ref q4, .int 0])), (q4, .inl (ct 0, 300, .inl f2)), (q5, .inr (2, [.ref q8, .int 0])), (q8, .inl (ct 0, 300, .inl f6))] H := hP
  have hD : va_D A [(q_t, .inr (6, [.ref q1, .ref q5, .null, .null, .null, .null, .null, .int 0])), (q1, .inr (2, [.ref q4, .int 0])), (q4, .inl (ct 0, 300, .inl f2)), (q5, .inr (2, [.ref q8, .int 0])), (q8, .inl (ct 0, 300, .inl f6))] := hD
  refine lv_aload_n hx hb dX6_init_26 rfl (lv_at hl 0 rfl) ?_
  refine va_new (ci := 0) (fs := [.null, .null, .null, .null, .int 0]) (C := RX0) (T := TX0) (N := 5) hx hb hts i_X6_init_X0 tyX0 tyX0_ok hown (hts (.classLink RX6 21 RX0) (by decide +kernel)) (hts (.instantiable RX0 5) (by decide +kernel)) (hts (.initialized RX0) (by decide +kernel)) hE.1 hP hD hS hA rfl (nf_X0) (Nat.le_of_ble_eq_true rfl) (Nat.le_of_ble_eq_true rfl) dX6_init_27 (fun q9 H hP hD hS => ?_)
  have hP : va_P D vwCl [(q_t, .inr (6, [.ref q1, .ref q5, .null, .null, .null, .null, .null, .int 0])), (q1, .inr (2, [.ref q4, .int 0])), (q4, .inl (ct 0, 300, .inl f2)), (q5, .inr (2, [.ref q8, .int 0])), (q8, .inl (ct 0, 300, .inl f6)), (q9, .inr (0, [.null, .null, .null, .null, .int 0]))] H := hP
  have hD : va_D A [(q_t, .inr (6, [.ref q1, .ref q5, .null, .null, .null, .null, .null, .int 0])), (q1, .inr (2, [.ref q4, .int 0])), (q4, .inl (ct 0, 300, .inl f2)), (q5, .inr (2, [.ref q8, .int 0])), (q8, .inl (ct 0, 300, .inl f6)), (q9, .inr (0, [.null, .null, .null, .null, .int 0]))] := hD
  refine W.widen (k := 5) (n := 609) (by omega) (by omega) ?_
  refine lv_dup hx hb dX6_init_30 rfl ?_
  obtain ⟨u0, h10, hF⟩ := ob1_ex hF
  have hS0 := hS
  have hH0 : True := trivial
  refine va_callv (va_runI (As := []) (rest := [.ref q9, .ref q_t]) ⟨hx, hb, hml, hown, hts⟩ (met_X0_init l D ct q9 H.size n h10) (cwI 0 hts gX6_init_X0_init rfl rfl rfl (hts (.initialized RX0) (by decide +kernel)) (hts (.methodLink RX6 23 yX0_init) (by decide +kernel)) (hts (.instanceMethod yX0_init) (by decide +kernel)) rfl (by decide +kernel) ⟨Nat.le_of_ble_eq_true rfl, Nat.le_of_ble_eq_true rfl⟩) ⟨blind_, mkpre_ hE (hP.sub [5] rfl) (hD.sub [5] (by decide) rfl)⟩ rfl rfl hl.1 rfl (lv_room (Nat.le_of_ble_eq_true rfl)) dX6_init_31 ⟨Nat.le_of_ble_eq_true rfl, Nat.le_of_ble_eq_true rfl⟩) hS (fun q _ h => (va_free hD hS hA [5] rfl) q h) (va_free hD hS hA [5] rfl) (fun u t H1 locs ht hvm hw hB hz1 hk1 hS => ?_)
  obtain ⟨q11, q12, q13, q14, hP1, hD1⟩ := hB
  rw [ht] at hP1
  obtain ⟨hP, hD⟩ := va_join (wr := [(q_t, .inr (6, [.ref q1, .ref q5, .null, .null, .null, .null, .null, .int 0])), (q1, .inr (2, [.ref q4, .int 0])), (q4, .inl (ct 0, 300, .inl f2)), (q5, .inr (2, [.ref q8, .int 0])), (q8, .inl (ct 0, 300, .inl f6))]) (w1 := [(q9, .inr (0, [.ref q11, .ref q12, .ref q13, .ref q14, .int 0])), (q11, .inl (ct 0, 20, .inl ((fun _ => 0)))), (q12, .inl (ct 0, 20, .inl ((fun _ => 0)))), (q13, .inl (ct 0, 20, .inl ((fun _ => 0)))), (q14, .inl (ct 0, 20, .inl ((fun _ => 0))))]) hP hD [5] [0, 1, 2, 3, 4] rfl rfl (by decide) (by decide) hk1 (va_free hD hS0 hA [5] rfl) hP1 hD1
  generalize H1 = H at hP hS ⊢
  have hP : va_P D vwCl [(q_t, .inr (6, [.ref q1, .ref q5, .null, .null, .null, .null, .null, .int 0])), (q1, .inr (2, [.ref q4, .int 0])), (q4, .inl (ct 0, 300, .inl f2)), (q5, .inr (2, [.ref q8, .int 0])), (q8, .inl (ct 0, 300, .inl f6)), (q9, .inr (0, [.ref q11, .ref q12, .ref q13, .ref q14, .int 0])), (q11, .inl (ct 0, 20, .inl ((fun _ => 0)))), (q12, .inl (ct 0, 20, .inl ((fun _ => 0)))), (q13, .inl (ct 0, 20, .inl ((fun _ => 0)))), (q14, .inl (ct 0, 20, .inl ((fun _ => 0))))] H := hP
  have hD : va_D A [(q_t, .inr (6, [.ref q1, .ref q5, .null, .null, .null, .null, .null, .int 0])), (q1, .inr (2, [.ref q4, .int 0])), (q4, .inl (ct 0, 300, .inl f2)), (q5, .inr (2, [.ref q8, .int 0])), (q8, .inl (ct 0, 300, .inl f6)), (q9, .inr (0, [.ref q11, .ref q12, .ref q13, .ref q14, .int 0])), (q11, .inl (ct 0, 20, .inl ((fun _ => 0)))), (q12, .inl (ct 0, 20, .inl ((fun _ => 0)))), (q13, .inl (ct 0, 20, .inl ((fun _ => 0)))), (q14, .inl (ct 0, 20, .inl ((fun _ => 0))))] := hD
  refine W.widen (k := 9) (n := 689) (by omega) (by omega) ?_
  refine W.eq (g2 := F0 m 34 ls [.ref q9, .ref q_t]) rfl ?_
  refine va_putF (D := D) (ci := 6) (v := .ref q9) (ty := .object "NeedleHouse$Measures") (C := RX6) (T := TX6) (N := 8) hx hb hts i_X6_init_X6 tyX6 tyX6_ok nmX6 hown hE.1 hP hD hS 0 rfl rfl 2 (by decide) (hts (.fieldLink RX6 24 "NeedleHouse$Track" "measures" "LNeedleHouse$Measures;") (by decide +kernel)) (fun _ h9 => h9) rfl hin rfl (by decide +kernel) rfl rfl (Nat.le_of_ble_eq_true rfl) dX6_init_34 (fun H locs hP hD hS => ?_)
  have hP : va_P D vwCl [(q_t, .inr (6, [.ref q1, .ref q5, .ref q9, .null, .null, .null, .null, .int 0])), (q1, .inr (2, [.ref q4, .int 0])), (q4, .inl (ct 0, 300, .inl f2)), (q5, .inr (2, [.ref q8, .int 0])), (q8, .inl (ct 0, 300, .inl f6)), (q9, .inr (0, [.ref q11, .ref q12, .ref q13, .ref q14, .int 0])), (q11, .inl (ct 0, 20, .inl ((fun _ => 0)))), (q12, .inl (ct 0, 20, .inl ((fun _ => 0)))), (q13, .inl (ct 0, 20, .inl ((fun _ => 0)))), (q14, .inl (ct 0, 20, .inl ((fun _ => 0))))] H := hP
  have hD : va_D A [(q_t, .inr (6, [.ref q1, .ref q5, .ref q9, .null, .null, .null, .null, .int 0])), (q1, .inr (2, [.ref q4, .int 0])), (q4, .inl (ct 0, 300, .inl f2)), (q5, .inr (2, [.ref q8, .int 0])), (q8, .inl (ct 0, 300, .inl f6)), (q9, .inr (0, [.ref q11, .ref q12, .ref q13, .ref q14, .int 0])), (q11, .inl (ct 0, 20, .inl ((fun _ => 0)))), (q12, .inl (ct 0, 20, .inl ((fun _ => 0)))), (q13, .inl (ct 0, 20, .inl ((fun _ => 0)))), (q14, .inl (ct 0, 20, .inl ((fun _ => 0))))] := hD
  refine lv_aload_n hx hb dX6_init_37 rfl (lv_at hl 0 rfl) ?_
  refine va_new (ci := 1) (fs := [.null, .null, .null, .int 0, .null, .null, .null, .null, .null, .int 0, .long 0, .long 0, .long 0, .long 0]) (C := RX1) (T := TX1) (N := 14) hx hb hts i_X6_init_X1 tyX1 tyX1_ok hown (hts (.classLink RX6 28 RX1) (by decide +kernel)) (hts (.instantiable RX1 14) (by decide +kernel)) (hts (.initialized RX1) (by decide +kernel)) hE.1 hP hD hS hA rfl (nf_X1) (Nat.le_of_ble_eq_true rfl) (Nat.le_of_ble_eq_true rfl) dX6_init_38 (fun q15 H hP hD hS => ?_)
  have hP : va_P D vwCl [(q_t, .inr (6, [.ref q1, .ref q5, .ref q9, .null, .null, .null, .null, .int 0])), (q1, .inr (2, [.ref q4, .int 0])), (q4, .inl (ct 0, 300, .inl f2)), (q5, .inr (2, [.ref q8, .int 0])), (q8, .inl (ct 0, 300, .inl f6)), (q9, .inr (0, [.ref q11, .ref q12, .ref q13, .ref q14, .int 0])), (q11, .inl (ct 0, 20, .inl ((fun _ => 0)))), (q12, .inl (ct 0, 20, .inl ((fun _ => 0)))), (q13, .inl (ct 0, 20, .inl ((fun _ => 0)))), (q14, .inl (ct 0, 20, .inl ((fun _ => 0)))), (q15, .inr (1, [.null, .null, .null, .int 0, .null, .null, .null, .null, .null, .int 0, .long 0, .long 0, .long 0, .long 0]))] H := hP
  have hD : va_D A [(q_t, .inr (6, [.ref q1, .ref q5, .ref q9, .null, .null, .null, .null, .int 0])), (q1, .inr (2, [.ref q4, .int 0])), (q4, .inl (ct 0, 300, .inl f2)), (q5, .inr (2, [.ref q8, .int 0])), (q8, .inl (ct 0, 300, .inl f6)), (q9, .inr (0, [.ref q11, .ref q12, .ref q13, .ref q14, .int 0])), (q11, .inl (ct 0, 20, .inl ((fun _ => 0)))), (q12, .inl (ct 0, 20, .inl ((fun _ => 0)))), (q13, .inl (ct 0, 20, .inl ((fun _ => 0)))), (q14, .inl (ct 0, 20, .inl ((fun _ => 0)))), (q15, .inr (1, [.null, .null, .null, .int 0, .null, .null, .null, .null, .null, .int 0, .long 0, .long 0, .long 0, .long 0]))] := hD
  refine W.widen (k := 10) (n := 703) (by omega) (by omega) ?_
  refine lv_dup hx hb dX6_init_41 rfl ?_
  obtain ⟨u0, h16, hF⟩ := ob1_ex hF
  have hS0 := hS
  have hH0 : True := trivial
  refine va_callv (va_runI (As := []) (rest := [.ref q15, .ref q_t]) ⟨hx, hb, hml, hown, hts⟩ (met_X1_init l D ct q15 H.size n h16) (cwI 0 hts gX6_init_X1_init rfl rfl rfl (hts (.initialized RX1) (by decide +kernel)) (hts (.methodLink RX6 30 yX1_init) (by decide +kernel)) (hts (.instanceMethod yX1_init) (by decide +kernel)) rfl (by decide +kernel) ⟨Nat.le_of_ble_eq_true rfl, Nat.le_of_ble_eq_true rfl⟩) ⟨blind_, mkpre_ hE (hP.sub [10] rfl) (hD.sub [10] (by decide) rfl)⟩ rfl rfl hl.1 rfl (lv_room (Nat.le_of_ble_eq_true rfl)) dX6_init_42 ⟨Nat.le_of_ble_eq_true rfl, Nat.le_of_ble_eq_true rfl⟩) hS (fun q _ h => (va_free hD hS hA [10] rfl) q h) (va_free hD hS hA [10] rfl) (fun u t H1 locs ht hvm hw hB hz1 hk1 hS => ?_)
  obtain ⟨q17, q18, q19, q20, q21, q22, q23, q24, hP1, hD1⟩ := hB
  rw [ht] at hP1
  obtain ⟨hP, hD⟩ := va_join (wr := [(q_t, .inr (6, [.ref q1, .ref q5, .ref q9, .null, .null, .null, .null, .int 0])), (q1, .inr (2, [.ref q4, .int 0])), (q4, .inl (ct 0, 300, .inl f2)), (q5, .inr (2, [.ref q8, .int 0])), (q8, .inl (ct 0, 300, .inl f6)), (q9, .inr (0, [.ref q11, .ref q12, .ref q13, .ref q14, .int 0])), (q11, .inl (ct 0, 20, .inl ((fun _ => 0)))), (q12, .inl (ct 0, 20, .inl ((fun _ => 0)))), (q13, .inl (ct 0, 20, .inl ((fun _ => 0)))), (q14, .inl (ct 0, 20, .inl ((fun _ => 0))))]) (w1 := [(q15, .inr (1, [.ref q17, .ref q18, .ref q19, .int 0, .ref q20, .ref q21, .ref q22, .ref q23, .ref q24, .int 0, .long 0, .long 0, .long 0, .long 0])), (q17, .inl (ct 0, 20, .inl ((fun _ => 0)))), (q18, .inl (ct 0, 20, .inl ((fun _ => 0)))), (q19, .inl (ct 0, 20, .inl ((fun _ => 0)))), (q20, .inl (ct 0, 20, .inl ((fun _ => 0)))), (q21, .inl (ct 0, 20, .inl ((fun _ => 0)))), (q22, .inl (ct 0, 20, .inl ((fun _ => 0)))), (q23, .inl (ct 0, 20, .inl ((fun _ => 0)))), (q24, .inl (ct 1, 20, .inr (.inl ((fun _ => 0)))))]) hP hD [10] [0, 1, 2, 3, 4, 5, 6, 7, 8, 9] rfl rfl (by decide) (by decide) hk1 (va_free hD hS0 hA [10] rfl) hP1 hD1
  generalize H1 = H at hP hS ⊢
  have hP : va_P D vwCl [(q_t, .inr (6, [.ref q1, .ref q5, .ref q9, .null, .null, .null, .null, .int 0])), (q1, .inr (2, [.ref q4, .int 0])), (q4, .inl (ct 0, 300, .inl f2)), (q5, .inr (2, [.ref q8, .int 0])), (q8, .inl (ct 0, 300, .inl f6)), (q9, .inr (0, [.ref q11, .ref q12, .ref q13, .ref q14, .int 0])), (q11, .inl (ct 0, 20, .inl ((fun _ => 0)))), (q12, .inl (ct 0, 20, .inl ((fun _ => 0)))), (q13, .inl (ct 0, 20, .inl ((fun _ => 0)))), (q14, .inl (ct 0, 20, .inl ((fun _ => 0)))), (q15, .inr (1, [.ref q17, .ref q18, .ref q19, .int 0, .ref q20, .ref q21, .ref q22, .ref q23, .ref q24, .int 0, .long 0, .long 0, .long 0, .long 0])), (q17, .inl (ct 0, 20, .inl ((fun _ => 0)))), (q18, .inl (ct 0, 20, .inl ((fun _ => 0)))), (q19, .inl (ct 0, 20, .inl ((fun _ => 0)))), (q20, .inl (ct 0, 20, .inl ((fun _ => 0)))), (q21, .inl (ct 0, 20, .inl ((fun _ => 0)))), (q22, .inl (ct 0, 20, .inl ((fun _ => 0)))), (q23, .inl (ct 0, 20, .inl ((fun _ => 0)))), (q24, .inl (ct 1, 20, .inr (.inl ((fun _ => 0)))))] H := hP
  have hD : va_D A [(q_t, .inr (6, [.ref q1, .ref q5, .ref q9, .null, .null, .null, .null, .int 0])), (q1, .inr (2, [.ref q4, .int 0])), (q4, .inl (ct 0, 300, .inl f2)), (q5, .inr (2, [.ref q8, .int 0])), (q8, .inl (ct 0, 300, .inl f6)), (q9, .inr (0, [.ref q11, .ref q12, .ref q13, .ref q14, .int 0])), (q11, .inl (ct 0, 20, .inl ((fun _ => 0)))), (q12, .inl (ct 0, 20, .inl ((fun _ => 0)))), (q13, .inl (ct 0, 20, .inl ((fun _ => 0)))), (q14, .inl (ct 0, 20, .inl ((fun _ => 0)))), (q15, .inr (1, [.ref q17, .ref q18, .ref q19, .int 0, .ref q20, .ref q21, .ref q22, .ref q23, .ref q24, .int 0, .long 0, .long 0, .long 0, .long 0])), (q17, .inl (ct 0, 20, .inl ((fun _ => 0)))), (q18, .inl (ct 0, 20, .inl ((fun _ => 0)))), (q19, .inl (ct 0, 20, .inl ((fun _ => 0)))), (q20, .inl (ct 0, 20, .inl ((fun _ => 0)))), (q21, .inl (ct 0, 20, .inl ((fun _ => 0)))), (q22, .inl (ct 0, 20, .inl ((fun _ => 0)))), (q23, .inl (ct 0, 20, .inl ((fun _ => 0)))), (q24, .inl (ct 1, 20, .inr (.inl ((fun _ => 0)))))] := hD
  refine W.widen (k := 18) (n := 863) (by omega) (by omega) ?_
  refine W.eq (g2 := F0 m 45 ls [.ref q15, .ref q_t]) rfl ?_
  refine va_putF (D := D) (ci := 6) (v := .ref q15) (ty := .object "NeedleHouse$Pieces") (C := RX6) (T := TX6) (N := 8) hx hb hts i_X6_init_X6 tyX6 tyX6_ok nmX6 hown hE.1 hP hD hS 0 rfl rfl 3 (by decide) (hts (.fieldLink RX6 31 "NeedleHouse$Track" "pieces" "LNeedleHouse$Pieces;") (by decide +kernel)) (fun _ h9 => h9) rfl hin rfl (by decide +kernel) rfl rfl (Nat.le_of_ble_eq_true rfl) dX6_init_45 (fun H locs hP hD hS => ?_)
  have hP : va_P D vwCl [(q_t, .inr (6, [.ref q1, .ref q5, .ref q9, .ref q15, .null, .null, .null, .int 0])), (q1, .inr (2, [.ref q4, .int 0])), (q4, .inl (ct 0, 300, .inl f2)), (q5, .inr (2, [.ref q8, .int 0])), (q8, .inl (ct 0, 300, .inl f6)), (q9, .inr (0, [.ref q11, .ref q12, .ref q13, .ref q14, .int 0])), (q11, .inl (ct 0, 20, .inl ((fun _ => 0)))), (q12, .inl (ct 0, 20, .inl ((fun _ => 0)))), (q13, .inl (ct 0, 20, .inl ((fun _ => 0)))), (q14, .inl (ct 0, 20, .inl ((fun _ => 0)))), (q15, .inr (1, [.ref q17, .ref q18, .ref q19, .int 0, .ref q20, .ref q21, .ref q22, .ref q23, .ref q24, .int 0, .long 0, .long 0, .long 0, .long 0])), (q17, .inl (ct 0, 20, .inl ((fun _ => 0)))), (q18, .inl (ct 0, 20, .inl ((fun _ => 0)))), (q19, .inl (ct 0, 20, .inl ((fun _ => 0)))), (q20, .inl (ct 0, 20, .inl ((fun _ => 0)))), (q21, .inl (ct 0, 20, .inl ((fun _ => 0)))), (q22, .inl (ct 0, 20, .inl ((fun _ => 0)))), (q23, .inl (ct 0, 20, .inl ((fun _ => 0)))), (q24, .inl (ct 1, 20, .inr (.inl ((fun _ => 0)))))] H := hP
  have hD : va_D A [(q_t, .inr (6, [.ref q1, .ref q5, .ref q9, .ref q15, .null, .null, .null, .int 0])), (q1, .inr (2, [.ref q4, .int 0])), (q4, .inl (ct 0, 300, .inl f2)), (q5, .inr (2, [.ref q8, .int 0])), (q8, .inl (ct 0, 300, .inl f6)), (q9, .inr (0, [.ref q11, .ref q12, .ref q13, .ref q14, .int 0])), (q11, .inl (ct 0, 20, .inl ((fun _ => 0)))), (q12, .inl (ct 0, 20, .inl ((fun _ => 0)))), (q13, .inl (ct 0, 20, .inl ((fun _ => 0)))), (q14, .inl (ct 0, 20, .inl ((fun _ => 0)))), (q15, .inr (1, [.ref q17, .ref q18, .ref q19, .int 0, .ref q20, .ref q21, .ref q22, .ref q23, .ref q24, .int 0, .long 0, .long 0, .long 0, .long 0])), (q17, .inl (ct 0, 20, .inl ((fun _ => 0)))), (q18, .inl (ct 0, 20, .inl ((fun _ => 0)))), (q19, .inl (ct 0, 20, .inl ((fun _ => 0)))), (q20, .inl (ct 0, 20, .inl ((fun _ => 0)))), (q21, .inl (ct 0, 20, .inl ((fun _ => 0)))), (q22, .inl (ct 0, 20, .inl ((fun _ => 0)))), (q23, .inl (ct 0, 20, .inl ((fun _ => 0)))), (q24, .inl (ct 1, 20, .inr (.inl ((fun _ => 0)))))] := hD
  refine lv_aload_n hx hb dX6_init_48 rfl (lv_at hl 0 rfl) ?_
  refine lv_sipush (v := 300) hx hb dX6_init_49 (by decide) ?_
  refine va_newa (atype := .int) (a0 := (300, .inl (fun _ => 0))) (ty := .int) hx hb (hts (.arrayClass .int) (by decide +kernel)) rfl hE.1 hP hD hS hA (fun cA => rfl) (by decide) (by decide) (by decide) (Nat.le_of_ble_eq_true rfl) (Nat.le_of_ble_eq_true rfl) dX6_init_52 (fun q25 cA H hK1 hP hD hS => ?_)
  obtain rfl : cA = ct 0 := ct_eq0 hE.1 hK1
  have hP : va_P D vwCl [(q_t, .inr (6, [.ref q1, .ref q5, .ref q9, .ref q15, .null, .null, .null, .int 0])), (q1, .inr (2, [.ref q4, .int 0])), (q4, .inl (ct 0, 300, .inl f2)), (q5, .inr (2, [.ref q8, .int 0])), (q8, .inl (ct 0, 300, .inl f6)), (q9, .inr (0, [.ref q11, .ref q12, .ref q13, .ref q14, .int 0])), (q11, .inl (ct 0, 20, .inl ((fun _ => 0)))), (q12, .inl (ct 0, 20, .inl ((fun _ => 0)))), (q13, .inl (ct 0, 20, .inl ((fun _ => 0)))), (q14, .inl (ct 0, 20, .inl ((fun _ => 0)))), (q15, .inr (1, [.ref q17, .ref q18, .ref q19, .int 0, .ref q20, .ref q21, .ref q22, .ref q23, .ref q24, .int 0, .long 0, .long 0, .long 0, .long 0])), (q17, .inl (ct 0, 20, .inl ((fun _ => 0)))), (q18, .inl (ct 0, 20, .inl ((fun _ => 0)))), (q19, .inl (ct 0, 20, .inl ((fun _ => 0)))), (q20, .inl (ct 0, 20, .inl ((fun _ => 0)))), (q21, .inl (ct 0, 20, .inl ((fun _ => 0)))), (q22, .inl (ct 0, 20, .inl ((fun _ => 0)))), (q23, .inl (ct 0, 20, .inl ((fun _ => 0)))), (q24, .inl (ct 1, 20, .inr (.inl ((fun _ => 0))))), (q25, .inl (ct 0, 300, .inl ((fun _ => 0))))] H := hP
  have hD : va_D A [(q_t, .inr (6, [.ref q1, .ref q5, .ref q9, .ref q15, .null, .null, .null, .int 0])), (q1, .inr (2, [.ref q4, .int 0])), (q4, .inl (ct 0, 300, .inl f2)), (q5, .inr (2, [.ref q8, .int 0])), (q8, .inl (ct 0, 300, .inl f6)), (q9, .inr (0, [.ref q11, .ref q12, .ref q13, .ref q14, .int 0])), (q11, .inl (ct 0, 20, .inl ((fun _ => 0)))), (q12, .inl (ct 0, 20, .inl ((fun _ => 0)))), (q13, .inl (ct 0, 20, .inl ((fun _ => 0)))), (q14, .inl (ct 0, 20, .inl ((fun _ => 0)))), (q15, .inr (1, [.ref q17, .ref q18, .ref q19, .int 0, .ref q20, .ref q21, .ref q22, .ref q23, .ref q24, .int 0, .long 0, .long 0, .long 0, .long 0])), (q17, .inl (ct 0, 20, .inl ((fun _ => 0)))), (q18, .inl (ct 0, 20, .inl ((fun _ => 0)))), (q19, .inl (ct 0, 20, .inl ((fun _ => 0)))), (q20, .inl (ct 0, 20, .inl ((fun _ => 0)))), (q21, .inl (ct 0, 20, .inl ((fun _ => 0)))), (q22, .inl (ct 0, 20, .inl ((fun _ => 0)))), (q23, .inl (ct 0, 20, .inl ((fun _ => 0)))), (q24, .inl (ct 1, 20, .inr (.inl ((fun _ => 0))))), (q25, .inl (ct 0, 300, .inl ((fun _ => 0))))] := hD
  refine W.widen (k := 19) (n := 1163) (by omega) (by omega) ?_
  refine va_putF (D := D) (ci := 6) (v := .ref q25) (ty := .array .int) (C := RX6) (T := TX6) (N := 8) hx hb hts i_X6_init_X6 tyX6 tyX6_ok nmX6 hown hE.1 hP hD hS 0 rfl rfl 4 (by decide) (hts (.fieldLink RX6 35 "NeedleHouse$Track" "joins" "[I") (by decide +kernel)) (fun _ h9 => h9) rfl hin rfl (by decide +kernel) rfl rfl (Nat.le_of_ble_eq_true rfl) dX6_init_54 (fun H locs hP hD hS => ?_)
  have hP : va_P D vwCl [(q_t, .inr (6, [.ref q1, .ref q5, .ref q9, .ref q15, .ref q25, .null, .null, .int 0])), (q1, .inr (2, [.ref q4, .int 0])), (q4, .inl (ct 0, 300, .inl f2)), (q5, .inr (2, [.ref q8, .int 0])), (q8, .inl (ct 0, 300, .inl f6)), (q9, .inr (0, [.ref q11, .ref q12, .ref q13, .ref q14, .int 0])), (q11, .inl (ct 0, 20, .inl ((fun _ => 0)))), (q12, .inl (ct 0, 20, .inl ((fun _ => 0)))), (q13, .inl (ct 0, 20, .inl ((fun _ => 0)))), (q14, .inl (ct 0, 20, .inl ((fun _ => 0)))), (q15, .inr (1, [.ref q17, .ref q18, .ref q19, .int 0, .ref q20, .ref q21, .ref q22, .ref q23, .ref q24, .int 0, .long 0, .long 0, .long 0, .long 0])), (q17, .inl (ct 0, 20, .inl ((fun _ => 0)))), (q18, .inl (ct 0, 20, .inl ((fun _ => 0)))), (q19, .inl (ct 0, 20, .inl ((fun _ => 0)))), (q20, .inl (ct 0, 20, .inl ((fun _ => 0)))), (q21, .inl (ct 0, 20, .inl ((fun _ => 0)))), (q22, .inl (ct 0, 20, .inl ((fun _ => 0)))), (q23, .inl (ct 0, 20, .inl ((fun _ => 0)))), (q24, .inl (ct 1, 20, .inr (.inl ((fun _ => 0))))), (q25, .inl (ct 0, 300, .inl ((fun _ => 0))))] H := hP
  have hD : va_D A [(q_t, .inr (6, [.ref q1, .ref q5, .ref q9, .ref q15, .ref q25, .null, .null, .int 0])), (q1, .inr (2, [.ref q4, .int 0])), (q4, .inl (ct 0, 300, .inl f2)), (q5, .inr (2, [.ref q8, .int 0])), (q8, .inl (ct 0, 300, .inl f6)), (q9, .inr (0, [.ref q11, .ref q12, .ref q13, .ref q14, .int 0])), (q11, .inl (ct 0, 20, .inl ((fun _ => 0)))), (q12, .inl (ct 0, 20, .inl ((fun _ => 0)))), (q13, .inl (ct 0, 20, .inl ((fun _ => 0)))), (q14, .inl (ct 0, 20, .inl ((fun _ => 0)))), (q15, .inr (1, [.ref q17, .ref q18, .ref q19, .int 0, .ref q20, .ref q21, .ref q22, .ref q23, .ref q24, .int 0, .long 0, .long 0, .long 0, .long 0])), (q17, .inl (ct 0, 20, .inl ((fun _ => 0)))), (q18, .inl (ct 0, 20, .inl ((fun _ => 0)))), (q19, .inl (ct 0, 20, .inl ((fun _ => 0)))), (q20, .inl (ct 0, 20, .inl ((fun _ => 0)))), (q21, .inl (ct 0, 20, .inl ((fun _ => 0)))), (q22, .inl (ct 0, 20, .inl ((fun _ => 0)))), (q23, .inl (ct 0, 20, .inl ((fun _ => 0)))), (q24, .inl (ct 1, 20, .inr (.inl ((fun _ => 0))))), (q25, .inl (ct 0, 300, .inl ((fun _ => 0))))] := hD
  refine lv_aload_n hx hb dX6_init_57 rfl (lv_at hl 0 rfl) ?_
  refine lv_sipush (v := 300) hx hb dX6_init_58 (by decide) ?_
  refine va_newa (atype := .int) (a0 := (300, .inl (fun _ => 0))) (ty := .int) hx hb (hts (.arrayClass .int) (by decide +kernel)) rfl hE.1 hP hD hS hA (fun cA => rfl) (by decide) (by decide) (by decide) (Nat.le_of_ble_eq_true rfl) (Nat.le_of_ble_eq_true rfl) dX6_init_61 (fun q26 cA H hK1 hP hD hS => ?_)
  obtain rfl : cA = ct 0 := ct_eq0 hE.1 hK1
  have hP : va_P D vwCl [(q_t, .inr (6, [.ref q1, .ref q5, .ref q9, .ref q15, .ref q25, .null, .null, .int 0])), (q1, .inr (2, [.ref q4, .int 0])), (q4, .inl (ct 0, 300, .inl f2)), (q5, .inr (2, [.ref q8, .int 0])), (q8, .inl (ct 0, 300, .inl f6)), (q9, .inr (0, [.ref q11, .ref q12, .ref q13, .ref q14, .int 0])), (q11, .inl (ct 0, 20, .inl ((fun _ => 0)))), (q12, .inl (ct 0, 20, .inl ((fun _ => 0)))), (q13, .inl (ct 0, 20, .inl ((fun _ => 0)))), (q14, .inl (ct 0, 20, .inl ((fun _ => 0)))), (q15, .inr (1, [.ref q17, .ref q18, .ref q19, .int 0, .ref q20, .ref q21, .ref q22, .ref q23, .ref q24, .int 0, .long 0, .long 0, .long 0, .long 0])), (q17, .inl (ct 0, 20, .inl ((fun _ => 0)))), (q18, .inl (ct 0, 20, .inl ((fun _ => 0)))), (q19, .inl (ct 0, 20, .inl ((fun _ => 0)))), (q20, .inl (ct 0, 20, .inl ((fun _ => 0)))), (q21, .inl (ct 0, 20, .inl ((fun _ => 0)))), (q22, .inl (ct 0, 20, .inl ((fun _ => 0)))), (q23, .inl (ct 0, 20, .inl ((fun _ => 0)))), (q24, .inl (ct 1, 20, .inr (.inl ((fun _ => 0))))), (q25, .inl (ct 0, 300, .inl ((fun _ => 0)))), (q26, .inl (ct 0, 300, .inl ((fun _ => 0))))] H := hP
  have hD : va_D A [(q_t, .inr (6, [.ref q1, .ref q5, .ref q9, .ref q15, .ref q25, .null, .null, .int 0])), (q1, .inr (2, [.ref q4, .int 0])), (q4, .inl (ct 0, 300, .inl f2)), (q5, .inr (2, [.ref q8, .int 0])), (q8, .inl (ct 0, 300, .inl f6)), (q9, .inr (0, [.ref q11, .ref q12, .ref q13, .ref q14, .int 0])), (q11, .inl (ct 0, 20, .inl ((fun _ => 0)))), (q12, .inl (ct 0, 20, .inl ((fun _ => 0)))), (q13, .inl (ct 0, 20, .inl ((fun _ => 0)))), (q14, .inl (ct 0, 20, .inl ((fun _ => 0)))), (q15, .inr (1, [.ref q17, .ref q18, .ref q19, .int 0, .ref q20, .ref q21, .ref q22, .ref q23, .ref q24, .int 0, .long 0, .long 0, .long 0, .long 0])), (q17, .inl (ct 0, 20, .inl ((fun _ => 0)))), (q18, .inl (ct 0, 20, .inl ((fun _ => 0)))), (q19, .inl (ct 0, 20, .inl ((fun _ => 0)))), (q20, .inl (ct 0, 20, .inl ((fun _ => 0)))), (q21, .inl (ct 0, 20, .inl ((fun _ => 0)))), (q22, .inl (ct 0, 20, .inl ((fun _ => 0)))), (q23, .inl (ct 0, 20, .inl ((fun _ => 0)))), (q24, .inl (ct 1, 20, .inr (.inl ((fun _ => 0))))), (q25, .inl (ct 0, 300, .inl ((fun _ => 0)))), (q26, .inl (ct 0, 300, .inl ((fun _ => 0))))] := hD
  refine W.widen (k := 20) (n := 1463) (by omega) (by omega) ?_
  refine va_putF (D := D) (ci := 6) (v := .ref q26) (ty := .array .int) (C := RX6) (T := TX6) (N := 8) hx hb hts i_X6_init_X6 tyX6 tyX6_ok nmX6 hown hE.1 hP hD hS 0 rfl rfl 5 (by decide) (hts (.fieldLink RX6 39 "NeedleHouse$Track" "finals" "[I") (by decide +kernel)) (fun _ h9 => h9) rfl hin rfl (by decide +kernel) rfl rfl (Nat.le_of_ble_eq_true rfl) dX6_init_63 (fun H locs hP hD hS => ?_)
  have hP : va_P D vwCl [(q_t, .inr (6, [.ref q1, .ref q5, .ref q9, .ref q15, .ref q25, .ref q26, .null, .int 0])), (q1, .inr (2, [.ref q4, .int 0])), (q4, .inl (ct 0, 300, .inl f2)), (q5, .inr (2, [.ref q8, .int 0])), (q8, .inl (ct 0, 300, .inl f6)), (q9, .inr (0, [.ref q11, .ref q12, .ref q13, .ref q14, .int 0])), (q11, .inl (ct 0, 20, .inl ((fun _ => 0)))), (q12, .inl (ct 0, 20, .inl ((fun _ => 0)))), (q13, .inl (ct 0, 20, .inl ((fun _ => 0)))), (q14, .inl (ct 0, 20, .inl ((fun _ => 0)))), (q15, .inr (1, [.ref q17, .ref q18, .ref q19, .int 0, .ref q20, .ref q21, .ref q22, .ref q23, .ref q24, .int 0, .long 0, .long 0, .long 0, .long 0])), (q17, .inl (ct 0, 20, .inl ((fun _ => 0)))), (q18, .inl (ct 0, 20, .inl ((fun _ => 0)))), (q19, .inl (ct 0, 20, .inl ((fun _ => 0)))), (q20, .inl (ct 0, 20, .inl ((fun _ => 0)))), (q21, .inl (ct 0, 20, .inl ((fun _ => 0)))), (q22, .inl (ct 0, 20, .inl ((fun _ => 0)))), (q23, .inl (ct 0, 20, .inl ((fun _ => 0)))), (q24, .inl (ct 1, 20, .inr (.inl ((fun _ => 0))))), (q25, .inl (ct 0, 300, .inl ((fun _ => 0)))), (q26, .inl (ct 0, 300, .inl ((fun _ => 0))))] H := hP
  have hD : va_D A [(q_t, .inr (6, [.ref q1, .ref q5, .ref q9, .ref q15, .ref q25, .ref q26, .null, .int 0])), (q1, .inr (2, [.ref q4, .int 0])), (q4, .inl (ct 0, 300, .inl f2)), (q5, .inr (2, [.ref q8, .int 0])), (q8, .inl (ct 0, 300, .inl f6)), (q9, .inr (0, [.ref q11, .ref q12, .ref q13, .ref q14, .int 0])), (q11, .inl (ct 0, 20, .inl ((fun _ => 0)))), (q12, .inl (ct 0, 20, .inl ((fun _ => 0)))), (q13, .inl (ct 0, 20, .inl ((fun _ => 0)))), (q14, .inl (ct 0, 20, .inl ((fun _ => 0)))), (q15, .inr (1, [.ref q17, .ref q18, .ref q19, .int 0, .ref q20, .ref q21, .ref q22, .ref q23, .ref q24, .int 0, .long 0, .long 0, .long 0, .long 0])), (q17, .inl (ct 0, 20, .inl ((fun _ => 0)))), (q18, .inl (ct 0, 20, .inl ((fun _ => 0)))), (q19, .inl (ct 0, 20, .inl ((fun _ => 0)))), (q20, .inl (ct 0, 20, .inl ((fun _ => 0)))), (q21, .inl (ct 0, 20, .inl ((fun _ => 0)))), (q22, .inl (ct 0, 20, .inl ((fun _ => 0)))), (q23, .inl (ct 0, 20, .inl ((fun _ => 0)))), (q24, .inl (ct 1, 20, .inr (.inl ((fun _ => 0))))), (q25, .inl (ct 0, 300, .inl ((fun _ => 0)))), (q26, .inl (ct 0, 300, .inl ((fun _ => 0))))] := hD
  refine lv_aload_n hx hb dX6_init_66 rfl (lv_at hl 0 rfl) ?_
  refine lv_sipush (v := 300) hx hb dX6_init_67 (by decide) ?_
  refine va_newa (atype := .int) (a0 := (300, .inl (fun _ => 0))) (ty := .int) hx hb (hts (.arrayClass .int) (by decide +kernel)) rfl hE.1 hP hD hS hA (fun cA => rfl) (by decide) (by decide) (by decide) (Nat.le_of_ble_eq_true rfl) (Nat.le_of_ble_eq_true rfl) dX6_init_70 (fun q27 cA H hK1 hP hD hS => ?_)
  obtain rfl : cA = ct 0 := ct_eq0 hE.1 hK1
  have hP : va_P D vwCl [(q_t, .inr (6, [.ref q1, .ref q5, .ref q9, .ref q15, .ref q25, .ref q26, .null, .int 0])), (q1, .inr (2, [.ref q4, .int 0])), (q4, .inl (ct 0, 300, .inl f2)), (q5, .inr (2, [.ref q8, .int 0])), (q8, .inl (ct 0, 300, .inl f6)), (q9, .inr (0, [.ref q11, .ref q12, .ref q13, .ref q14, .int 0])), (q11, .inl (ct 0, 20, .inl ((fun _ => 0)))), (q12, .inl (ct 0, 20, .inl ((fun _ => 0)))), (q13, .inl (ct 0, 20, .inl ((fun _ => 0)))), (q14, .inl (ct 0, 20, .inl ((fun _ => 0)))), (q15, .inr (1, [.ref q17, .ref q18, .ref q19, .int 0, .ref q20, .ref q21, .ref q22, .ref q23, .ref q24, .int 0, .long 0, .long 0, .long 0, .long 0])), (q17, .inl (ct 0, 20, .inl ((fun _ => 0)))), (q18, .inl (ct 0, 20, .inl ((fun _ => 0)))), (q19, .inl (ct 0, 20, .inl ((fun _ => 0)))), (q20, .inl (ct 0, 20, .inl ((fun _ => 0)))), (q21, .inl (ct 0, 20, .inl ((fun _ => 0)))), (q22, .inl (ct 0, 20, .inl ((fun _ => 0)))), (q23, .inl (ct 0, 20, .inl ((fun _ => 0)))), (q24, .inl (ct 1, 20, .inr (.inl ((fun _ => 0))))), (q25, .inl (ct 0, 300, .inl ((fun _ => 0)))), (q26, .inl (ct 0, 300, .inl ((fun _ => 0)))), (q27, .inl (ct 0, 300, .inl ((fun _ => 0))))] H := hP
  have hD : va_D A [(q_t, .inr (6, [.ref q1, .ref q5, .ref q9, .ref q15, .ref q25, .ref q26, .null, .int 0])), (q1, .inr (2, [.ref q4, .int 0])), (q4, .inl (ct 0, 300, .inl f2)), (q5, .inr (2, [.ref q8, .int 0])), (q8, .inl (ct 0, 300, .inl f6)), (q9, .inr (0, [.ref q11, .ref q12, .ref q13, .ref q14, .int 0])), (q11, .inl (ct 0, 20, .inl ((fun _ => 0)))), (q12, .inl (ct 0, 20, .inl ((fun _ => 0)))), (q13, .inl (ct 0, 20, .inl ((fun _ => 0)))), (q14, .inl (ct 0, 20, .inl ((fun _ => 0)))), (q15, .inr (1, [.ref q17, .ref q18, .ref q19, .int 0, .ref q20, .ref q21, .ref q22, .ref q23, .ref q24, .int 0, .long 0, .long 0, .long 0, .long 0])), (q17, .inl (ct 0, 20, .inl ((fun _ => 0)))), (q18, .inl (ct 0, 20, .inl ((fun _ => 0)))), (q19, .inl (ct 0, 20, .inl ((fun _ => 0)))), (q20, .inl (ct 0, 20, .inl ((fun _ => 0)))), (q21, .inl (ct 0, 20, .inl ((fun _ => 0)))), (q22, .inl (ct 0, 20, .inl ((fun _ => 0)))), (q23, .inl (ct 0, 20, .inl ((fun _ => 0)))), (q24, .inl (ct 1, 20, .inr (.inl ((fun _ => 0))))), (q25, .inl (ct 0, 300, .inl ((fun _ => 0)))), (q26, .inl (ct 0, 300, .inl ((fun _ => 0)))), (q27, .inl (ct 0, 300, .inl ((fun _ => 0))))] := hD
  refine W.widen (k := 21) (n := 1763) (by omega) (by omega) ?_
  refine va_putF (D := D) (ci := 6) (v := .ref q27) (ty := .array .int) (C := RX6) (T := TX6) (N := 8) hx hb hts i_X6_init_X6 tyX6 tyX6_ok nmX6 hown hE.1 hP hD hS 0 rfl rfl 6 (by decide) (hts (.fieldLink RX6 42 "NeedleHouse$Track" "kept" "[I") (by decide +kernel)) (fun _ h9 => h9) rfl hin rfl (by decide +kernel) rfl rfl (Nat.le_of_ble_eq_true rfl) dX6_init_72 (fun H locs hP hD hS => ?_)
  have hP : va_P D vwCl [(q_t, .inr (6, [.ref q1, .ref q5, .ref q9, .ref q15, .ref q25, .ref q26, .ref q27, .int 0])), (q1, .inr (2, [.ref q4, .int 0])), (q4, .inl (ct 0, 300, .inl f2)), (q5, .inr (2, [.ref q8, .int 0])), (q8, .inl (ct 0, 300, .inl f6)), (q9, .inr (0, [.ref q11, .ref q12, .ref q13, .ref q14, .int 0])), (q11, .inl (ct 0, 20, .inl ((fun _ => 0)))), (q12, .inl (ct 0, 20, .inl ((fun _ => 0)))), (q13, .inl (ct 0, 20, .inl ((fun _ => 0)))), (q14, .inl (ct 0, 20, .inl ((fun _ => 0)))), (q15, .inr (1, [.ref q17, .ref q18, .ref q19, .int 0, .ref q20, .ref q21, .ref q22, .ref q23, .ref q24, .int 0, .long 0, .long 0, .long 0, .long 0])), (q17, .inl (ct 0, 20, .inl ((fun _ => 0)))), (q18, .inl (ct 0, 20, .inl ((fun _ => 0)))), (q19, .inl (ct 0, 20, .inl ((fun _ => 0)))), (q20, .inl (ct 0, 20, .inl ((fun _ => 0)))), (q21, .inl (ct 0, 20, .inl ((fun _ => 0)))), (q22, .inl (ct 0, 20, .inl ((fun _ => 0)))), (q23, .inl (ct 0, 20, .inl ((fun _ => 0)))), (q24, .inl (ct 1, 20, .inr (.inl ((fun _ => 0))))), (q25, .inl (ct 0, 300, .inl ((fun _ => 0)))), (q26, .inl (ct 0, 300, .inl ((fun _ => 0)))), (q27, .inl (ct 0, 300, .inl ((fun _ => 0))))] H := hP
  have hD : va_D A [(q_t, .inr (6, [.ref q1, .ref q5, .ref q9, .ref q15, .ref q25, .ref q26, .ref q27, .int 0])), (q1, .inr (2, [.ref q4, .int 0])), (q4, .inl (ct 0, 300, .inl f2)), (q5, .inr (2, [.ref q8, .int 0])), (q8, .inl (ct 0, 300, .inl f6)), (q9, .inr (0, [.ref q11, .ref q12, .ref q13, .ref q14, .int 0])), (q11, .inl (ct 0, 20, .inl ((fun _ => 0)))), (q12, .inl (ct 0, 20, .inl ((fun _ => 0)))), (q13, .inl (ct 0, 20, .inl ((fun _ => 0)))), (q14, .inl (ct 0, 20, .inl ((fun _ => 0)))), (q15, .inr (1, [.ref q17, .ref q18, .ref q19, .int 0, .ref q20, .ref q21, .ref q22, .ref q23, .ref q24, .int 0, .long 0, .long 0, .long 0, .long 0])), (q17, .inl (ct 0, 20, .inl ((fun _ => 0)))), (q18, .inl (ct 0, 20, .inl ((fun _ => 0)))), (q19, .inl (ct 0, 20, .inl ((fun _ => 0)))), (q20, .inl (ct 0, 20, .inl ((fun _ => 0)))), (q21, .inl (ct 0, 20, .inl ((fun _ => 0)))), (q22, .inl (ct 0, 20, .inl ((fun _ => 0)))), (q23, .inl (ct 0, 20, .inl ((fun _ => 0)))), (q24, .inl (ct 1, 20, .inr (.inl ((fun _ => 0))))), (q25, .inl (ct 0, 300, .inl ((fun _ => 0)))), (q26, .inl (ct 0, 300, .inl ((fun _ => 0)))), (q27, .inl (ct 0, 300, .inl ((fun _ => 0))))] := hD
  refine lv_aload_n hx hb dX6_init_75 rfl (lv_at hl 0 rfl) ?_
  refine va_get (D := D) (ci := 6) (v := .ref q25) (C := RX6) (T := TX6) (N := 8) hx hb hts i_X6_init_X6 hown hE.1 hP 0 rfl rfl 4 (by decide) (hts (.fieldLink RX6 35 "NeedleHouse$Track" "joins" "[I") (by decide +kernel)) (fun _ h9 => h9) rfl dX6_init_76 ?_
  refine lv_ldc hx hb hown (hts (.constant RX6 45 (-2000000000)) (by decide +kernel)) dX6_init_79 ?_
  obtain ⟨f29, h28, hF⟩ := ob1_ex hF
  refine xvN (ws1 := [(q_t, .inr (6, [.ref q1, .ref q5, .ref q9, .ref q15, .ref q25, .ref q26, .ref q27, .int 0])), (q1, .inr (2, [.ref q4, .int 0])), (q4, .inl (ct 0, 300, .inl f2)), (q5, .inr (2, [.ref q8, .int 0])), (q8, .inl (ct 0, 300, .inl f6)), (q9, .inr (0, [.ref q11, .ref q12, .ref q13, .ref q14, .int 0])), (q11, .inl (ct 0, 20, .inl ((fun _ => 0)))), (q12, .inl (ct 0, 20, .inl ((fun _ => 0)))), (q13, .inl (ct 0, 20, .inl ((fun _ => 0)))), (q14, .inl (ct 0, 20, .inl ((fun _ => 0)))), (q15, .inr (1, [.ref q17, .ref q18, .ref q19, .int 0, .ref q20, .ref q21, .ref q22, .ref q23, .ref q24, .int 0, .long 0, .long 0, .long 0, .long 0])), (q17, .inl (ct 0, 20, .inl ((fun _ => 0)))), (q18, .inl (ct 0, 20, .inl ((fun _ => 0)))), (q19, .inl (ct 0, 20, .inl ((fun _ => 0)))), (q20, .inl (ct 0, 20, .inl ((fun _ => 0)))), (q21, .inl (ct 0, 20, .inl ((fun _ => 0)))), (q22, .inl (ct 0, 20, .inl ((fun _ => 0)))), (q23, .inl (ct 0, 20, .inl ((fun _ => 0)))), (q24, .inl (ct 1, 20, .inr (.inl ((fun _ => 0))))), (q25, .inl (ct 0, 300, .inl f29)), (q26, .inl (ct 0, 300, .inl ((fun _ => 0)))), (q27, .inl (ct 0, 300, .inl ((fun _ => 0))))]) (va_runS (As := [.ref q25, .int ((-2000000000))]) (rest := []) ⟨hx, hb, hml, hown, hts⟩ (met_J7_fill_53178 l D ct q25 300 H.size ((fun _ => 0)) ((-2000000000)) n f29 h28) (va_cwS 2 hts gX6_init_J7_fill_53178 rfl rfl rfl (by decide +kernel) ⟨Nat.le_of_ble_eq_true rfl, Nat.le_of_ble_eq_true rfl⟩) ⟨blind_, mkpre_ hE (hP.sub [19] rfl) (hD.sub [19] (by decide) rfl)⟩ rfl rfl hl.1 rfl (lv_room (Nat.le_of_ble_eq_true rfl)) dX6_init_81 ⟨Nat.le_of_ble_eq_true rfl, Nat.le_of_ble_eq_true rfl⟩) hP hD hS hA [19] [0, 1, 2, 3, 4, 5, 6, 7, 8, 9, 10, 11, 12, 13, 14, 15, 16, 17, 18, 20, 21] 22 rfl rfl rfl rfl (by decide) rfl (fun H locs hP hD hS => ?_)
  refine lv_aload_n hx hb dX6_init_84 rfl (lv_at hl 0 rfl) ?_
  refine va_get (D := D) (ci := 6) (v := .ref q26) (C := RX6) (T := TX6) (N := 8) hx hb hts i_X6_init_X6 hown hE.1 hP 0 rfl rfl 5 (by decide) (hts (.fieldLink RX6 39 "NeedleHouse$Track" "finals" "[I") (by decide +kernel)) (fun _ h9 => h9) rfl dX6_init_85 ?_
  refine lv_ldc hx hb hown (hts (.constant RX6 45 (-2000000000)) (by decide +kernel)) dX6_init_88 ?_
  obtain ⟨f31, h30, hF⟩ := ob1_ex hF
  refine xvN (ws1 := [(q_t, .inr (6, [.ref q1, .ref q5, .ref q9, .ref q15, .ref q25, .ref q26, .ref q27, .int 0])), (q1, .inr (2, [.ref q4, .int 0])), (q4, .inl (ct 0, 300, .inl f2)), (q5, .inr (2, [.ref q8, .int 0])), (q8, .inl (ct 0, 300, .inl f6)), (q9, .inr (0, [.ref q11, .ref q12, .ref q13, .ref q14, .int 0])), (q11, .inl (ct 0, 20, .inl ((fun _ => 0)))), (q12, .inl (ct 0, 20, .inl ((fun _ => 0)))), (q13, .inl (ct 0, 20, .inl ((fun _ => 0)))), (q14, .inl (ct 0, 20, .inl ((fun _ => 0)))), (q15, .inr (1, [.ref q17, .ref q18, .ref q19, .int 0, .ref q20, .ref q21, .ref q22, .ref q23, .ref q24, .int 0, .long 0, .long 0, .long 0, .long 0])), (q17, .inl (ct 0, 20, .inl ((fun _ => 0)))), (q18, .inl (ct 0, 20, .inl ((fun _ => 0)))), (q19, .inl (ct 0, 20, .inl ((fun _ => 0)))), (q20, .inl (ct 0, 20, .inl ((fun _ => 0)))), (q21, .inl (ct 0, 20, .inl ((fun _ => 0)))), (q22, .inl (ct 0, 20, .inl ((fun _ => 0)))), (q23, .inl (ct 0, 20, .inl ((fun _ => 0)))), (q24, .inl (ct 1, 20, .inr (.inl ((fun _ => 0))))), (q25, .inl (ct 0, 300, .inl f29)), (q26, .inl (ct 0, 300, .inl f31)), (q27, .inl (ct 0, 300, .inl ((fun _ => 0))))]) (va_runS (As := [.ref q26, .int ((-2000000000))]) (rest := []) ⟨hx, hb, hml, hown, hts⟩ (met_J7_fill_53178 l D ct q26 300 H.size ((fun _ => 0)) ((-2000000000)) n f31 h30) (va_cwS 2 hts gX6_init_J7_fill_53178 rfl rfl rfl (by decide +kernel) ⟨Nat.le_of_ble_eq_true rfl, Nat.le_of_ble_eq_true rfl⟩) ⟨blind_, mkpre_ hE (hP.sub [20] rfl) (hD.sub [20] (by decide) rfl)⟩ rfl rfl hl.1 rfl (lv_room (Nat.le_of_ble_eq_true rfl)) dX6_init_90 ⟨Nat.le_of_ble_eq_true rfl, Nat.le_of_ble_eq_true rfl⟩) hP hD hS hA [20] [0, 1, 2, 3, 4, 5, 6, 7, 8, 9, 10, 11, 12, 13, 14, 15, 16, 17, 18, 19, 21] 22 rfl rfl rfl rfl (by decide) rfl (fun H locs hP hD hS => ?_)
  refine lv_aload_n hx hb dX6_init_93 rfl (lv_at hl 0 rfl) ?_
  refine va_get (D := D) (ci := 6) (v := .ref q27) (C := RX6) (T := TX6) (N := 8) hx hb hts i_X6_init_X6 hown hE.1 hP 0 rfl rfl 6 (by decide) (hts (.fieldLink RX6 42 "NeedleHouse$Track" "kept" "[I") (by decide +kernel)) (fun _ h9 => h9) rfl dX6_init_94 ?_
  refine lv_ldc hx hb hown (hts (.constant RX6 45 (-2000000000)) (by decide +kernel)) dX6_init_97 ?_
  obtain ⟨f33, h32, hF⟩ := ob1_ex hF
  refine xvN (ws1 := [(q_t, .inr (6, [.ref q1, .ref q5, .ref q9, .ref q15, .ref q25, .ref q26, .ref q27, .int 0])), (q1, .inr (2, [.ref q4, .int 0])), (q4, .inl (ct 0, 300, .inl f2)), (q5, .inr (2, [.ref q8, .int 0])), (q8, .inl (ct 0, 300, .inl f6)), (q9, .inr (0, [.ref q11, .ref q12, .ref q13, .ref q14, .int 0])), (q11, .inl (ct 0, 20, .inl ((fun _ => 0)))), (q12, .inl (ct 0, 20, .inl ((fun _ => 0)))), (q13, .inl (ct 0, 20, .inl ((fun _ => 0)))), (q14, .inl (ct 0, 20, .inl ((fun _ => 0)))), (q15, .inr (1, [.ref q17, .ref q18, .ref q19, .int 0, .ref q20, .ref q21, .ref q22, .ref q23, .ref q24, .int 0, .long 0, .long 0, .long 0, .long 0])), (q17, .inl (ct 0, 20, .inl ((fun _ => 0)))), (q18, .inl (ct 0, 20, .inl ((fun _ => 0)))), (q19, .inl (ct 0, 20, .inl ((fun _ => 0)))), (q20, .inl (ct 0, 20, .inl ((fun _ => 0)))), (q21, .inl (ct 0, 20, .inl ((fun _ => 0)))), (q22, .inl (ct 0, 20, .inl ((fun _ => 0)))), (q23, .inl (ct 0, 20, .inl ((fun _ => 0)))), (q24, .inl (ct 1, 20, .inr (.inl ((fun _ => 0))))), (q25, .inl (ct 0, 300, .inl f29)), (q26, .inl (ct 0, 300, .inl f31)), (q27, .inl (ct 0, 300, .inl f33))]) (va_runS (As := [.ref q27, .int ((-2000000000))]) (rest := []) ⟨hx, hb, hml, hown, hts⟩ (met_J7_fill_53178 l D ct q27 300 H.size ((fun _ => 0)) ((-2000000000)) n f33 h32) (va_cwS 2 hts gX6_init_J7_fill_53178 rfl rfl rfl (by decide +kernel) ⟨Nat.le_of_ble_eq_true rfl, Nat.le_of_ble_eq_true rfl⟩) ⟨blind_, mkpre_ hE (hP.sub [21] rfl) (hD.sub [21] (by decide) rfl)⟩ rfl rfl hl.1 rfl (lv_room (Nat.le_of_ble_eq_true rfl)) dX6_init_99 ⟨Nat.le_of_ble_eq_true rfl, Nat.le_of_ble_eq_true rfl⟩) hP hD hS hA [21] [0, 1, 2, 3, 4, 5, 6, 7, 8, 9, 10, 11, 12, 13, 14, 15, 16, 17, 18, 19, 20] 22 rfl rfl rfl rfl (by decide) rfl (fun H locs hP hD hS => ?_)
  refine lv_aload_n hx hb dX6_init_102 rfl (lv_at hl 0 rfl) ?_
  refine lv_iconst (v := (-1)) hx hb dX6_init_103 (by decide) ?_
  refine va_put (D := D) (ci := 6) (v := .int ((-1))) (ty := .int) (C := RX6) (T := TX6) (N := 8) hx hb hts i_X6_init_X6 tyX6 tyX6_ok nmX6 hown hE.1 hP hD hS 0 rfl rfl 7 (by decide) (hts (.fieldLink RX6 52 "NeedleHouse$Track" "settledNear" "I") (by decide +kernel)) (fun _ h9 => h9) rfl (by decide +kernel) rfl rfl (Nat.le_of_ble_eq_true rfl) dX6_init_104 (fun H locs hP hD hS => ?_)
  have hP : va_P D vwCl [(q_t, .inr (6, [.ref q1, .ref q5, .ref q9, .ref q15, .ref q25, .ref q26, .ref q27, .int ((-1))])), (q1, .inr (2, [.ref q4, .int 0])), (q4, .inl (ct 0, 300, .inl f2)), (q5, .inr (2, [.ref q8, .int 0])), (q8, .inl (ct 0, 300, .inl f6)), (q9, .inr (0, [.ref q11, .ref q12, .ref q13, .ref q14, .int 0])), (q11, .inl (ct 0, 20, .inl ((fun _ => 0)))), (q12, .inl (ct 0, 20, .inl ((fun _ => 0)))), (q13, .inl (ct 0, 20, .inl ((fun _ => 0)))), (q14, .inl (ct 0, 20, .inl ((fun _ => 0)))), (q15, .inr (1, [.ref q17, .ref q18, .ref q19, .int 0, .ref q20, .ref q21, .ref q22, .ref q23, .ref q24, .int 0, .long 0, .long 0, .long 0, .long 0])), (q17, .inl (ct 0, 20, .inl ((fun _ => 0)))), (q18, .inl (ct 0, 20, .inl ((fun _ => 0)))), (q19, .inl (ct 0, 20, .inl ((fun _ => 0)))), (q20, .inl (ct 0, 20, .inl ((fun _ => 0)))), (q21, .inl (ct 0, 20, .inl ((fun _ => 0)))), (q22, .inl (ct 0, 20, .inl ((fun _ => 0)))), (q23, .inl (ct 0, 20, .inl ((fun _ => 0)))), (q24, .inl (ct 1, 20, .inr (.inl ((fun _ => 0))))), (q25, .inl (ct 0, 300, .inl f29)), (q26, .inl (ct 0, 300, .inl f31)), (q27, .inl (ct 0, 300, .inl f33))] H := hP
  have hD : va_D A [(q_t, .inr (6, [.ref q1, .ref q5, .ref q9, .ref q15, .ref q25, .ref q26, .ref q27, .int ((-1))])), (q1, .inr (2, [.ref q4, .int 0])), (q4, .inl (ct 0, 300, .inl f2)), (q5, .inr (2, [.ref q8, .int 0])), (q8, .inl (ct 0, 300, .inl f6)), (q9, .inr (0, [.ref q11, .ref q12, .ref q13, .ref q14, .int 0])), (q11, .inl (ct 0, 20, .inl ((fun _ => 0)))), (q12, .inl (ct 0, 20, .inl ((fun _ => 0)))), (q13, .inl (ct 0, 20, .inl ((fun _ => 0)))), (q14, .inl (ct 0, 20, .inl ((fun _ => 0)))), (q15, .inr (1, [.ref q17, .ref q18, .ref q19, .int 0, .ref q20, .ref q21, .ref q22, .ref q23, .ref q24, .int 0, .long 0, .long 0, .long 0, .long 0])), (q17, .inl (ct 0, 20, .inl ((fun _ => 0)))), (q18, .inl (ct 0, 20, .inl ((fun _ => 0)))), (q19, .inl (ct 0, 20, .inl ((fun _ => 0)))), (q20, .inl (ct 0, 20, .inl ((fun _ => 0)))), (q21, .inl (ct 0, 20, .inl ((fun _ => 0)))), (q22, .inl (ct 0, 20, .inl ((fun _ => 0)))), (q23, .inl (ct 0, 20, .inl ((fun _ => 0)))), (q24, .inl (ct 1, 20, .inr (.inl ((fun _ => 0))))), (q25, .inl (ct 0, 300, .inl f29)), (q26, .inl (ct 0, 300, .inl f31)), (q27, .inl (ct 0, 300, .inl f33))] := hD
  obtain ⟨rfl, rfl, rfl, rfl, rfl⟩ := in5 hF
  refine W.widen (k := 21) (n := 1763) (by omega) (by omega) ?_
  exact W.vret hx hb hr (fun t ht hW => ⟨⟨(), rfl, trivial, q1, q4, q5, q8, q9, q11, q12, q13, q14, q15, q17, q18, q19, q20, q21, q22, q23, q24, q25, q26, q27, vaP_at ht (hP.sub [0, 1, 2, 3, 4, 5, 6, 7, 8, 9, 10, 11, 12, 13, 14, 15, 16, 17, 18, 19, 20, 21] rfl), hD.sub [0, 1, 2, 3, 4, 5, 6, 7, 8, 9, 10, 11, 12, 13, 14, 15, 16, 17, 18, 19, 20, 21] (by decide) rfl⟩, hS.F ht⟩) hS.2.2 dX6_init_107
