def W_33 (ct : Nat → ClassId) (a0 a1 a2 a3 a4 a5 a6 a7 a8 a9 a10 a11 a12 a13 : Nat) (v0 : Int32) (v1 : Nat → Int32) (v2 : Int32) (v3 : Nat → Int32) (v4 : Int32) (v5 : Int32) (v6 : Int32) (v7 : Int32) (v8 : Int32) (v9 : Int32) (v10 : Int32) (v11 : Int32) (v12 : Int32) (v13 : Nat → Int32) : va_W := [(a0, .inr (8, [.ref a1, .int v0])), (a1, .inl (ct 0, 150, .inl v1)), (a2, .inr (6, [.ref a3, .ref a4, .ref a5, .ref a6, .ref a7, .ref a8, .ref a9, .int v2])), (a8, .inl (ct 0, 300, .inl v3)), (a10, .inr (3, [.int v4, .int v5, .int v6, .int v7, .int v8, .int v9, .ref a11, .int v10, .int v11])), (a12, .inr (7, [.ref a13, .int v12])), (a13, .inl (ct 2, 300, .inl v13))]
/-! NeedleHouse$Windows.takeRanges(LNeedleHouse$Track;LNeedleHouse$Rule;LNeedleHouse$Trains;)V -/
theorem i_X8_takeRanges_X8 : ∀ w ∈ wsX80, w ∈ wsX8_takeRanges := by decide +kernel
set_option maxHeartbeats 4000000 in
set_option maxRecDepth 100000 in
theorem jX8_takeRanges_3 {p : Program} {l : Launch} {e : Env} {s : State} {m : MethodId} {args : Array Value} {below : List Frame} {meth : Method} {c : Code} {D : va_G} {ct : Nat → ClassId} {A : Nat → Prop} {q_t q_t_indices q_p1 q_p1_row0 q_p1_row1 q_p1_measures q_p1_pieces q_p1_joins q_p1_finals q_p1_kept q_p2 q_p2_steps q_p3 q_p3_going : Nat} {t_size : Int32} {p1_settledNear : Int32} {p1_finals : Nat → Int32} {p2_limit : Int32} {p2_near : Int32} {p2_share : Int32} {p2_shareOf : Int32} {p2_window : Int32} {p2_storm : Int32} {p2_stepCount : Int32} {p2_clauses : Int32} {p3_size : Int32} {p3_going : Nat → Int32} {o_t_indices : Nat → Int32} (C0 : Cx RX8 cX8_takeRanges 5 none wsX8_takeRanges D ct A p s m args meth c) (k3 : Int32 → (Nat → Int32) → (Nat → Int32) → Int32 → Int32 → Int32 → (Nat → Int32) → Int32 → Option ((Nat → Int32))) (hk3 : ∀ (t_indices : Nat → Int32) (x_4 : Int32) (H : Heap) (locs : List Loc) (ls : Array Slot), k3 t_size t_indices p1_finals p2_share p2_shareOf p2_window p3_going x_4 = some (o_t_indices) → va_P D vwCl (W_33 ct q_t q_t_indices q_p1 q_p1_row0 q_p1_row1 q_p1_measures q_p1_pieces q_p1_joins q_p1_finals q_p1_kept q_p2 q_p2_steps q_p3 q_p3_going t_size t_indices p1_settledNear p1_finals p2_limit p2_near p2_share p2_shareOf p2_window p2_storm p2_stepCount p2_clauses p3_size p3_going) H → va_D A (W_33 ct q_t q_t_indices q_p1 q_p1_row0 q_p1_row1 q_p1_measures q_p1_pieces q_p1_joins q_p1_finals q_p1_kept q_p2 q_p2_steps q_p3 q_p3_going t_size t_indices p1_settledNear p1_finals p2_limit p2_near p2_share p2_shareOf p2_window p2_storm p2_stepCount p2_clauses p3_size p3_going) → va_S A s.heap H locs → lv_has ls 5 [(0, .ref q_t), (1, .ref q_p1), (2, .ref q_p2), (3, .ref q_p3), (4, .int x_4)] → W p l e ({ frames := 2, cells := 0, slots := 0, locals := 50 } : Room) s m args below meth c H locs 0 0 (MQ below (va_Qv (fun (_ : Unit) => True) (fun _ t => va_P D vwCl (W_33 ct q_t q_t_indices q_p1 q_p1_row0 q_p1_row1 q_p1_measures q_p1_pieces q_p1_joins q_p1_finals q_p1_kept q_p2 q_p2_steps q_p3 q_p3_going t_size o_t_indices p1_settledNear p1_finals p2_limit p2_near p2_share p2_shareOf p2_window p2_storm p2_stepCount p2_clauses p3_size p3_going) t.heap) A) args s 0 0 A) (F0 m 3 ls [])) (n : Nat) (t_indices : Nat → Int32) (x_4 : Int32) (H : Heap) (locs : List Loc) (ls : Array Slot) : JX8_takeRanges_3 k3 n t_size t_indices p1_finals p2_share p2_shareOf p2_window p3_going x_4 = some (o_t_indices) → va_P D vwCl (W_33 ct q_t q_t_indices q_p1 q_p1_row0 q_p1_row1 q_p1_measures q_p1_pieces q_p1_joins q_p1_finals q_p1_kept q_p2 q_p2_steps q_p3 q_p3_going t_size t_indices p1_settledNear p1_finals p2_limit p2_near p2_share p2_shareOf p2_window p2_storm p2_stepCount p2_clauses p3_size p3_going) H → va_D A (W_33 ct q_t q_t_indices q_p1 q_p1_row0 q_p1_row1 q_p1_measures q_p1_pieces q_p1_joins q_p1_finals q_p1_kept q_p2 q_p2_steps q_p3 q_p3_going t_size t_indices p1_settledNear p1_finals p2_limit p2_near p2_share p2_shareOf p2_window p2_storm p2_stepCount p2_clauses p3_size p3_going) → va_S A s.heap H locs → lv_has ls 5 [(0, .ref q_t), (1, .ref q_p1), (2, .ref q_p2), (3, .ref q_p3), (4, .int x_4)] → W p l e ({ frames := 2, cells := 0, slots := 0, locals := 50 } : Room) s m args below meth c H locs 0 0 (MQ below (va_Qv (fun (_ : Unit) => True) (fun _ t => va_P D vwCl (W_33 ct q_t q_t_indices q_p1 q_p1_row0 q_p1_row1 q_p1_measures q_p1_pieces q_p1_joins q_p1_finals q_p1_kept q_p2 q_p2_steps q_p3 q_p3_going t_size o_t_indices p1_settledNear p1_finals p2_limit p2_near p2_share p2_shareOf p2_window p2_storm p2_stepCount p2_clauses p3_size p3_going) t.heap) A) args s 0 0 A) (F0 m 3 ls []) := by
  intro hF hP hD hS hl
  obtain ⟨hx, hb, hml, hown, hts, hr, hlocks, hE, hA⟩ := id C0
  unfold JX8_takeRanges_3 at hF
  refine lv_iload hx hb dX8_takeRanges_3 (lv_at hl 4 rfl) ?_
  refine lv_aload_n hx hb dX8_takeRanges_5 rfl (lv_at hl 0 rfl) ?_
  refine va_get (D := D) (ci := 8) (v := .int t_size) (C := RX8) (T := TX8) (N := 2) hx hb hts i_X8_takeRanges_X8 hown hE.1 hP 0 rfl rfl 1 (by decide) (hts (.fieldLink RX8 15 "NeedleHouse$Windows" "size" "I") (by decide +kernel)) (fun _ h9 => h9) rfl dX8_takeRanges_6 ?_
  refine lv_icmp_ge (tgt := 43) hx hb dX8_takeRanges_9 (by decide) (fun c1 => ?_) (fun c1 => ?_)
  · have hF := ifT c1 hF
    obtain rfl := Option.some.inj hF
    exact W.vret hx hb hr (fun t ht hW => ⟨⟨(), rfl, trivial, vaP_at ht hP⟩, hS.F ht⟩) hS.2.2 dX8_takeRanges_43
  · have hF := ifF c1 hF
    refine lv_aload_n hx hb dX8_takeRanges_12 rfl (lv_at hl 0 rfl) ?_
    refine va_get (D := D) (ci := 8) (v := .ref q_t_indices) (C := RX8) (T := TX8) (N := 2) hx hb hts i_X8_takeRanges_X8 hown hE.1 hP 0 rfl rfl 0 (by decide) (hts (.fieldLink RX8 9 "NeedleHouse$Windows" "indices" "[I") (by decide +kernel)) (fun _ h9 => h9) rfl dX8_takeRanges_13 ?_
    refine lv_iload hx hb dX8_takeRanges_16 (lv_at hl 4 rfl) ?_
    refine lv_aload_n hx hb dX8_takeRanges_18 rfl (lv_at hl 0 rfl) ?_
    refine va_get (D := D) (ci := 8) (v := .ref q_t_indices) (C := RX8) (T := TX8) (N := 2) hx hb hts i_X8_takeRanges_X8 hown hE.1 hP 0 rfl rfl 0 (by decide) (hts (.fieldLink RX8 9 "NeedleHouse$Windows" "indices" "[I") (by decide +kernel)) (fun _ h9 => h9) rfl dX8_takeRanges_19 ?_
    refine lv_iload hx hb dX8_takeRanges_22 (lv_at hl 4 rfl) ?_
    obtain ⟨h2, hF⟩ := gd_ex hF
    refine va_iald hx hb hE.1 hP 1 0 rfl rfl h2 dX8_takeRanges_24 ?_
    refine lv_aload_n hx hb dX8_takeRanges_25 rfl (lv_at hl 1 rfl) ?_
    refine lv_iload hx hb dX8_takeRanges_26 (lv_at hl 4 rfl) ?_
    refine lv_aload_n hx hb dX8_takeRanges_28 rfl (lv_at hl 2 rfl) ?_
    refine lv_aload_n hx hb dX8_takeRanges_29 rfl (lv_at hl 3 rfl) ?_
    obtain ⟨r3, h4, hF⟩ := ob1_ex hF
    refine xiR (va_runV (As := [.int x_4, .ref q_p2, .ref q_p3]) (rest := [.int (t_indices (x_4).toNatClampNeg), .int x_4, .ref q_t_indices]) ⟨hx, hb, hml, hown, hts⟩ (met_X6_rangeIn l D ct q_p1 q_p1_row0 q_p1_row1 q_p1_measures q_p1_pieces q_p1_joins q_p1_finals q_p1_kept q_p2 q_p2_steps q_p3 q_p3_going H.size p1_settledNear p1_finals p2_limit p2_near p2_share p2_shareOf p2_window p2_storm p2_stepCount p2_clauses p3_size p3_going x_4 n r3 h4) (cwV 3 hts gX8_takeRanges_X6_rangeIn rfl rfl rfl (by decide +kernel) ⟨Nat.le_of_ble_eq_true rfl, Nat.le_of_ble_eq_true rfl⟩) ⟨blind_, va_recv hE.1 hP (ci := 6) (q0 := 2) rfl rfl, mkpre_ hE (hP.sub [2, 3, 4, 5, 6] rfl) (hD.sub [2, 3, 4, 5, 6] (by decide) rfl)⟩ rfl rfl hl.1 rfl (lv_room (Nat.le_of_ble_eq_true rfl)) dX8_takeRanges_30 ⟨Nat.le_of_ble_eq_true rfl, Nat.le_of_ble_eq_true rfl⟩) hP hD hS hA [2, 3, 4, 5, 6] rfl (fun H locs hP hD hS => ?_)
    refine va_mmax hx hb (hml.trans hl.1.symm) hown (hts (.methodLink RX8 25 Lib.Math.max.name) (by decide +kernel)) (hts (.static Lib.Math.max.name) (by decide +kernel)) (hts (.initialized "java/lang/Math") (by decide +kernel)) (hts (.code Lib.Math.max.name Lib.Math.max.code 2 (some .int)) (by decide +kernel)) (Nat.le_of_ble_eq_true rfl) (Nat.le_of_ble_eq_true rfl) (Nat.zero_le _) (Nat.zero_le _) dX8_takeRanges_33 ?_
    obtain ⟨h5, hF⟩ := gd_ex hF
    obtain ⟨f6, ef6, hF⟩ := bn_ex hF
    refine va_iast hx hb hE.1 hP hD hS 1 0 rfl rfl h5 dX8_takeRanges_36 (fun H locs hP hD hS => ?_)
    have hP : va_P D vwCl (W_33 ct q_t q_t_indices q_p1 q_p1_row0 q_p1_row1 q_p1_measures q_p1_pieces q_p1_joins q_p1_finals q_p1_kept q_p2 q_p2_steps q_p3 q_p3_going t_size f6 p1_settledNear p1_finals p2_limit p2_near p2_share p2_shareOf p2_window p2_storm p2_stepCount p2_clauses p3_size p3_going) H := by rw [ef6]; exact hP
    have hD : va_D A (W_33 ct q_t q_t_indices q_p1 q_p1_row0 q_p1_row1 q_p1_measures q_p1_pieces q_p1_joins q_p1_finals q_p1_kept q_p2 q_p2_steps q_p3 q_p3_going t_size f6 p1_settledNear p1_finals p2_limit p2_near p2_share p2_shareOf p2_window p2_storm p2_stepCount p2_clauses p3_size p3_going) := by rw [ef6]; exact hD
    obtain ⟨x7, ex7⟩ : ∃ y : Int32, y = x_4 + 1 := ⟨_, rfl⟩
    refine lv_iinc (v := x7) (lv' := [(4, .int x7), (0, .ref q_t), (1, .ref q_p1), (2, .ref q_p2), (3, .ref q_p3)]) hx hb dX8_takeRanges_37 hl (k := 4) rfl (by rw [ex7]; rfl) (by decide) rfl (fun ls hl => ?_)
    have hF := bn_as ex7 hF
    refine lv_goto (tgt := 3) hx hb dX8_takeRanges_40 (by decide) ?_
    exact hk3 f6 x7 _ _ _ hF hP hD hS (lv_sub hl [1, 2, 3, 4, 0] rfl)
theorem lX8_takeRanges_3 {p : Program} {l : Launch} {e : Env} {s : State} {m : MethodId} {args : Array Value} {below : List Frame} {meth : Method} {c : Code} {D : va_G} {ct : Nat → ClassId} {A : Nat → Prop} {q_t q_t_indices q_p1 q_p1_row0 q_p1_row1 q_p1_measures q_p1_pieces q_p1_joins q_p1_finals q_p1_kept q_p2 q_p2_steps q_p3 q_p3_going : Nat} {t_size : Int32} {p1_settledNear : Int32} {p1_finals : Nat → Int32} {p2_limit : Int32} {p2_near : Int32} {p2_share : Int32} {p2_shareOf : Int32} {p2_window : Int32} {p2_storm : Int32} {p2_stepCount : Int32} {p2_clauses : Int32} {p3_size : Int32} {p3_going : Nat → Int32} {o_t_indices : Nat → Int32} (C0 : Cx RX8 cX8_takeRanges 5 none wsX8_takeRanges D ct A p s m args meth c) : ∀ (n : Nat) (t_indices : Nat → Int32) (x_4 : Int32) (H : Heap) (locs : List Loc) (ls : Array Slot), LX8_takeRanges_3 n t_size t_indices p1_finals p2_share p2_shareOf p2_window p3_going x_4 = some (o_t_indices) → va_P D vwCl (W_33 ct q_t q_t_indices q_p1 q_p1_row0 q_p1_row1 q_p1_measures q_p1_pieces q_p1_joins q_p1_finals q_p1_kept q_p2 q_p2_steps q_p3 q_p3_going t_size t_indices p1_settledNear p1_finals p2_limit p2_near p2_share p2_shareOf p2_window p2_storm p2_stepCount p2_clauses p3_size p3_going) H → va_D A (W_33 ct q_t q_t_indices q_p1 q_p1_row0 q_p1_row1 q_p1_measures q_p1_pieces q_p1_joins q_p1_finals q_p1_kept q_p2 q_p2_steps q_p3 q_p3_going t_size t_indices p1_settledNear p1_finals p2_limit p2_near p2_share p2_shareOf p2_window p2_storm p2_stepCount p2_clauses p3_size p3_going) → va_S A s.heap H locs → lv_has ls 5 [(0, .ref q_t), (1, .ref q_p1), (2, .ref q_p2), (3, .ref q_p3), (4, .int x_4)] → W p l e ({ frames := 2, cells := 0, slots := 0, locals := 50 } : Room) s m args below meth c H locs 0 0 (MQ below (va_Qv (fun (_ : Unit) => True) (fun _ t => va_P D vwCl (W_33 ct q_t q_t_indices q_p1 q_p1_row0 q_p1_row1 q_p1_measures q_p1_pieces q_p1_joins q_p1_finals q_p1_kept q_p2 q_p2_steps q_p3 q_p3_going t_size o_t_indices p1_settledNear p1_finals p2_limit p2_near p2_share p2_shareOf p2_window p2_storm p2_stepCount p2_clauses p3_size p3_going) t.heap) A) args s 0 0 A) (F0 m 3 ls []) := by
  intro n
  induction n with
  | zero => intro t_indices x_4 H locs ls hF; exact nomatch (show (none : Option ((Nat → Int32))) = _ from hF)
  | succ n ih => intro t_indices x_4 H locs ls hF; exact jX8_takeRanges_3 C0 (LX8_takeRanges_3 n) ih n t_indices x_4 H locs ls hF
set_option maxHeartbeats 4000000 in
set_option maxRecDepth 100000 in
theorem met_X8_takeRanges (l : Launch) (D : va_G) (ct : Nat → ClassId) (q_t : Nat) (q_t_indices : Nat) (q_p1 : Nat) (q_p1_row0 : Nat) (q_p1_row1 : Nat) (q_p1_measures : Nat) (q_p1_pieces : Nat) (q_p1_joins : Nat) (q_p1_finals : Nat) (q_p1_kept : Nat) (q_p2 : Nat) (q_p2_steps : Nat) (q_p3 : Nat) (q_p3_going : Nat) (sz : Nat) (t_size : Int32) (t_indices : Nat → Int32) (p1_settledNear : Int32) (p1_finals : Nat → Int32) (p2_limit : Int32) (p2_near : Int32) (p2_share : Int32) (p2_shareOf : Int32) (p2_window : Int32) (p2_storm : Int32) (p2_stepCount : Int32) (p2_clauses : Int32) (p3_size : Int32) (p3_going : Nat → Int32) (n : Nat) (o_t_indices : Nat → Int32) (hF : FX8_takeRanges n t_size t_indices p1_finals p2_share p2_shareOf p2_window p3_going = some (o_t_indices)) : Met l yX8_takeRanges wsX8_takeRanges ({ frames := 2, cells := 0, slots := 0, locals := 50 } : Room) (va_Pc [.ref q_t, .ref q_p1, .ref q_p2, .ref q_p3] (pre_ D ct sz (W_33 ct q_t q_t_indices q_p1 q_p1_row0 q_p1_row1 q_p1_measures q_p1_pieces q_p1_joins q_p1_finals q_p1_kept q_p2 q_p2_steps q_p3 q_p3_going t_size t_indices p1_settledNear p1_finals p2_limit p2_near p2_share p2_shareOf p2_window p2_storm p2_stepCount p2_clauses p3_size p3_going))) (va_Qv (fun (_ : Unit) => True) (fun _ t => va_P D vwCl (W_33 ct q_t q_t_indices q_p1 q_p1_row0 q_p1_row1 q_p1_measures q_p1_pieces q_p1_joins q_p1_finals q_p1_kept q_p2 q_p2_steps q_p3 q_p3_going t_size o_t_indices p1_settledNear p1_finals p2_limit p2_near p2_share p2_shareOf p2_window p2_storm p2_stepCount p2_clauses p3_size p3_going) t.heap) (va_A (W_33 ct q_t q_t_indices q_p1 q_p1_row0 q_p1_row1 q_p1_measures q_p1_pieces q_p1_joins q_p1_finals q_p1_kept q_p2 q_p2_steps q_p3 q_p3_going t_size t_indices p1_settledNear p1_finals p2_limit p2_near p2_share p2_shareOf p2_window p2_storm p2_stepCount p2_clauses p3_size p3_going) sz)) 0 0 (va_A (W_33 ct q_t q_t_indices q_p1 q_p1_row0 q_p1_row1 q_p1_measures q_p1_pieces q_p1_joins q_p1_finals q_p1_kept q_p2 q_p2_steps q_p3 q_p3_going t_size t_indices p1_settledNear p1_finals p2_limit p2_near p2_share p2_shareOf p2_window p2_storm p2_stepCount p2_clauses p3_size p3_going) sz) := by
  refine Met.ofW (cc := cX8_takeRanges) (maxL := 5) (ret := none) (by decide) rfl ?_
  intro p e s m args below meth c s₁ B hml hv
  obtain ⟨rfl, hsz, hP, hE, hD0⟩ := hv
  have hx := B.exec
  have hb := B.bytes
  have hr := B.returns
  have hts := atoms_spec (ws := wsX8_takeRanges) B.pre
  have hown : s.vm.findClass RX8 = some m.cls := findClass_of_methodNamed B.named
  have hlocks := B.notSynchronized
  subst hsz
  have hD := hD0.self (sz := s.heap.size)
  generalize hAe : va_A (W_33 ct q_t q_t_indices q_p1 q_p1_row0 q_p1_row1 q_p1_measures q_p1_pieces q_p1_joins q_p1_finals q_p1_kept q_p2 q_p2_steps q_p3 q_p3_going t_size t_indices p1_settledNear p1_finals p2_limit p2_near p2_share p2_shareOf p2_window p2_storm p2_stepCount p2_clauses p3_size p3_going) s.heap.size = A at hD ⊢
  have hA : ∀ q : Nat, s.heap.size ≤ q → A q := fun q h => by rw [← hAe]; exact Or.inr h
  have hl := lv_entry ([.ref q_t, .ref q_p1, .ref q_p2, .ref q_p3]) (n := 5) (Nat.le_of_ble_eq_true rfl)
  rw [lg_entry_eq]
  generalize (lg_sl ([.ref q_t, .ref q_p1, .ref q_p2, .ref q_p3]) ++ List.replicate (5 - (lg_sl ([.ref q_t, .ref q_p1, .ref q_p2, .ref q_p3])).length) Slot.unset).toArray = ls at hl ⊢
  have hl : lv_has ls 5 [(0, .ref q_t), (1, .ref q_p1), (2, .ref q_p2), (3, .ref q_p3)] := hl
  have C0 : Cx RX8 cX8_takeRanges 5 none wsX8_takeRanges D ct A p s m ([.ref q_t, .ref q_p1, .ref q_p2, .ref q_p3]).toArray meth c := ⟨hx, hb, hml, hown, hts, hr, hlocks, hE, hA⟩
  have hS : ∀ H : Heap, s.heap = H → va_S A s.heap H [] := fun H h => h ▸ va_S.rf
  generalize hH : s.heap = H at hP ⊢
  have hS := hS H hH
  unfold FX8_takeRanges at hF
  refine lv_iconst (v := 0) hx hb dX8_takeRanges_0 (by decide) ?_
  refine lv_istore (lv' := [(4, .int 0), (0, .ref q_t), (1, .ref q_p1), (2, .ref q_p2), (3, .ref q_p3)]) hx hb dX8_takeRanges_1 hl (by decide) rfl (fun ls hl => ?_)
  exact lX8_takeRanges_3 C0 n t_indices 0 _ _ _ hF hP hD hS (lv_sub hl [1, 2, 3, 4, 0] rfl)
def W_34 (ct : Nat → ClassId) (a0 a1 a2 a3 : Nat) (v0 : Int32) (v1 : Nat → Int32) (v2 : Int32) (v3 : Int32) (v4 : Int32) (v5 : Int32) (v6 : Int32) (v7 : Int32) (v8 : Int32) (v9 : Int32) (v10 : Nat → Int32) : va_W := [(a0, .inr (8, [.ref a1, .int v0])), (a1, .inl (ct 0, 150, .inl v1)), (a2, .inr (3, [.int v2, .int v3, .int v4, .int v5, .int v6, .int v7, .ref a3, .int v8, .int v9])), (a3, .inl (ct 0, 9, .inl v10))]
/-! NeedleHouse$Windows.turnRangesToIndices(LNeedleHouse$Rule;)V -/
theorem i_X8_turnRangesToIndices_X8 : ∀ w ∈ wsX80, w ∈ wsX8_turnRangesToIndices := by decide +kernel
set_option maxHeartbeats 4000000 in
set_option maxRecDepth 100000 in
theorem jX8_turnRangesToIndices_2 {p : Program} {l : Launch} {e : Env} {s : State} {m : MethodId} {args : Array Value} {below : List Frame} {meth : Method} {c : Code} {D : va_G} {ct : Nat → ClassId} {A : Nat → Prop} {q_t q_t_indices q_p1 q_p1_steps : Nat} {t_size : Int32} {p1_limit : Int32} {p1_near : Int32} {p1_share : Int32} {p1_shareOf : Int32} {p1_window : Int32} {p1_storm : Int32} {p1_stepCount : Int32} {p1_clauses : Int32} {p1_steps : Nat → Int32} {o_t_indices : Nat → Int32} (C0 : Cx RX8 cX8_turnRangesToIndices 3 none wsX8_turnRangesToIndices D ct A p s m args meth c) (k2 : Int32 → (Nat → Int32) → Int32 → (Nat → Int32) → Int32 → Option ((Nat → Int32))) (hk2 : ∀ (t_indices : Nat → Int32) (x_2 : Int32) (H : Heap) (locs : List Loc) (ls : Array Slot), k2 t_size t_indices p1_stepCount p1_steps x_2 = some (o_t_indices) → va_P D vwCl (W_34 ct q_t q_t_indices q_p1 q_p1_steps t_size t_indices p1_limit p1_near p1_share p1_shareOf p1_window p1_storm p1_stepCount p1_clauses p1_steps) H → va_D A (W_34 ct q_t q_t_indices q_p1 q_p1_steps t_size t_indices p1_limit p1_near p1_share p1_shareOf p1_window p1_storm p1_stepCount p1_clauses p1_steps) → va_S A s.heap H locs → lv_has ls 3 [(0, .ref q_t), (1, .ref q_p1), (2, .int x_2)] → W p l e ({ frames := 1, cells := 0, slots := 0, locals := 23 } : Room) s m args below meth c H locs 0 0 (MQ below (va_Qv (fun (_ : Unit) => True) (fun _ t => va_P D vwCl (W_34 ct q_t q_t_indices q_p1 q_p1_steps t_size o_t_indices p1_limit p1_near p1_share p1_shareOf p1_window p1_storm p1_stepCount p1_clauses p1_steps) t.heap) A) args s 0 0 A) (F0 m 2 ls [])) (n : Nat) (t_indices : Nat → Int32) (x_2 : Int32) (H : Heap) (locs : List Loc) (ls : Array Slot) : JX8_turnRangesToIndices_2 k2 n t_size t_indices p1_stepCount p1_steps x_2 = some (o_t_indices) → va_P D vwCl (W_34 ct q_t q_t_indices q_p1 q_p1_steps t_size t_indices p1_limit p1_near p1_share p1_shareOf p1_window p1_storm p1_stepCount p1_clauses p1_steps) H → va_D A (W_34 ct q_t q_t_indices q_p1 q_p1_steps t_size t_indices p1_limit p1_near p1_share p1_shareOf p1_window p1_storm p1_stepCount p1_clauses p1_steps) → va_S A s.heap H locs → lv_has ls 3 [(0, .ref q_t), (1, .ref q_p1), (2, .int x_2)] → W p l e ({ frames := 1, cells := 0, slots := 0, locals := 23 } : Room) s m args below meth c H locs 0 0 (MQ below (va_Qv (fun (_ : Unit) => True) (fun _ t => va_P D vwCl (W_34 ct q_t q_t_indices q_p1 q_p1_steps t_size o_t_indices p1_limit p1_near p1_share p1_shareOf p1_window p1_storm p1_stepCount p1_clauses p1_steps) t.heap) A) args s 0 0 A) (F0 m 2 ls []) := by
  intro hF hP hD hS hl
  obtain ⟨hx, hb, hml, hown, hts, hr, hlocks, hE, hA⟩ := id C0
  unfold JX8_turnRangesToIndices_2 at hF
  refine lv_iload_n hx hb dX8_turnRangesToIndices_2 rfl (lv_at hl 2 rfl) ?_
  refine lv_aload_n hx hb dX8_turnRangesToIndices_3 rfl (lv_at hl 0 rfl) ?_
  refine va_get (D := D) (ci := 8) (v := .int t_size) (C := RX8) (T := TX8) (N := 2) hx hb hts i_X8_turnRangesToIndices_X8 hown hE.1 hP 0 rfl rfl 1 (by decide) (hts (.fieldLink RX8 15 "NeedleHouse$Windows" "size" "I") (by decide +kernel)) (fun _ h9 => h9) rfl dX8_turnRangesToIndices_4 ?_
  refine lv_icmp_ge (tgt := 42) hx hb dX8_turnRangesToIndices_7 (by decide) (fun c1 => ?_) (fun c1 => ?_)
  · have hF := ifT c1 hF
    obtain rfl := Option.some.inj hF
    exact W.vret hx hb hr (fun t ht hW => ⟨⟨(), rfl, trivial, vaP_at ht hP⟩, hS.F ht⟩) hS.2.2 dX8_turnRangesToIndices_42
  · have hF := ifF c1 hF
    refine lv_aload_n hx hb dX8_turnRangesToIndices_10 rfl (lv_at hl 0 rfl) ?_
    refine va_get (D := D) (ci := 8) (v := .ref q_t_indices) (C := RX8) (T := TX8) (N := 2) hx hb hts i_X8_turnRangesToIndices_X8 hown hE.1 hP 0 rfl rfl 0 (by decide) (hts (.fieldLink RX8 9 "NeedleHouse$Windows" "indices" "[I") (by decide +kernel)) (fun _ h9 => h9) rfl dX8_turnRangesToIndices_11 ?_
    refine lv_iload_n hx hb dX8_turnRangesToIndices_14 rfl (lv_at hl 2 rfl) ?_
    obtain ⟨h2, hF⟩ := gd_ex hF
    refine va_iald hx hb hE.1 hP 1 0 rfl rfl h2 dX8_turnRangesToIndices_15 ?_
    refine lv_iconst (v := (-1)) hx hb dX8_turnRangesToIndices_16 (by decide) ?_
    refine lv_icmp_eq (tgt := 36) hx hb dX8_turnRangesToIndices_17 (by decide) (fun c3 => ?_) (fun c3 => ?_)
    · have hF := ifT c3 hF
      obtain ⟨x4, ex4⟩ : ∃ y : Int32, y = x_2 + 1 := ⟨_, rfl⟩
      refine lv_iinc (v := x4) (lv' := [(2, .int x4), (0, .ref q_t), (1, .ref q_p1)]) hx hb dX8_turnRangesToIndices_36 hl (k := 2) rfl (by rw [ex4]; rfl) (by decide) rfl (fun ls hl => ?_)
      have hF := bn_as ex4 hF
      refine lv_goto (tgt := 2) hx hb dX8_turnRangesToIndices_39 (by decide) ?_
      exact hk2 t_indices x4 _ _ _ hF hP hD hS (lv_sub hl [1, 2, 0] rfl)
    · have hF := ifF c3 hF
      refine lv_aload_n hx hb dX8_turnRangesToIndices_20 rfl (lv_at hl 0 rfl) ?_
      refine va_get (D := D) (ci := 8) (v := .ref q_t_indices) (C := RX8) (T := TX8) (N := 2) hx hb hts i_X8_turnRangesToIndices_X8 hown hE.1 hP 0 rfl rfl 0 (by decide) (hts (.fieldLink RX8 9 "NeedleHouse$Windows" "indices" "[I") (by decide +kernel)) (fun _ h9 => h9) rfl dX8_turnRangesToIndices_21 ?_
      refine lv_iload_n hx hb dX8_turnRangesToIndices_24 rfl (lv_at hl 2 rfl) ?_
      refine lv_aload_n hx hb dX8_turnRangesToIndices_25 rfl (lv_at hl 1 rfl) ?_
      refine lv_aload_n hx hb dX8_turnRangesToIndices_26 rfl (lv_at hl 0 rfl) ?_
      refine va_get (D := D) (ci := 8) (v := .ref q_t_indices) (C := RX8) (T := TX8) (N := 2) hx hb hts i_X8_turnRangesToIndices_X8 hown hE.1 hP 0 rfl rfl 0 (by decide) (hts (.fieldLink RX8 9 "NeedleHouse$Windows" "indices" "[I") (by decide +kernel)) (fun _ h9 => h9) rfl dX8_turnRangesToIndices_27 ?_
      refine lv_iload_n hx hb dX8_turnRangesToIndices_30 rfl (lv_at hl 2 rfl) ?_
      obtain ⟨h5, hF⟩ := gd_ex hF
      refine va_iald hx hb hE.1 hP 1 0 rfl rfl h5 dX8_turnRangesToIndices_31 ?_
      obtain ⟨r6, h7, hF⟩ := ob1_ex hF
      refine xiR (va_runV (As := [.int (t_indices (x_2).toNatClampNeg)]) (rest := [.int x_2, .ref q_t_indices]) ⟨hx, hb, hml, hown, hts⟩ (met_X3_stepsUpTo l D ct q_p1 q_p1_steps H.size p1_limit p1_near p1_share p1_shareOf p1_window p1_storm p1_stepCount p1_clauses p1_steps (t_indices (x_2).toNatClampNeg) n r6 h7) (cwV 1 hts gX8_turnRangesToIndices_X3_stepsUpTo rfl rfl rfl (by decide +kernel) ⟨Nat.le_of_ble_eq_true rfl, Nat.le_of_ble_eq_true rfl⟩) ⟨blind_, va_recv hE.1 hP (ci := 3) (q0 := 2) rfl rfl, mkpre_ hE (hP.sub [2, 3] rfl) (hD.sub [2, 3] (by decide) rfl)⟩ rfl rfl hl.1 rfl (lv_room (Nat.le_of_ble_eq_true rfl)) dX8_turnRangesToIndices_32 ⟨Nat.le_of_ble_eq_true rfl, Nat.le_of_ble_eq_true rfl⟩) hP hD hS hA [2, 3] rfl (fun H locs hP hD hS => ?_)
      obtain ⟨h8, hF⟩ := gd_ex hF
      obtain ⟨f9, ef9, hF⟩ := bn_ex hF
      refine va_iast hx hb hE.1 hP hD hS 1 0 rfl rfl h8 dX8_turnRangesToIndices_35 (fun H locs hP hD hS => ?_)
      have hP : va_P D vwCl (W_34 ct q_t q_t_indices q_p1 q_p1_steps t_size f9 p1_limit p1_near p1_share p1_shareOf p1_window p1_storm p1_stepCount p1_clauses p1_steps) H := by rw [ef9]; exact hP
      have hD : va_D A (W_34 ct q_t q_t_indices q_p1 q_p1_steps t_size f9 p1_limit p1_near p1_share p1_shareOf p1_window p1_storm p1_stepCount p1_clauses p1_steps) := by rw [ef9]; exact hD
      obtain ⟨x10, ex10⟩ : ∃ y : Int32, y = x_2 + 1 := ⟨_, rfl⟩
      refine lv_iinc (v := x10) (lv' := [(2, .int x10), (0, .ref q_t), (1, .ref q_p1)]) hx hb dX8_turnRangesToIndices_36 hl (k := 2) rfl (by rw [ex10]; rfl) (by decide) rfl (fun ls hl => ?_)
      have hF := bn_as ex10 hF
      refine lv_goto (tgt := 2) hx hb dX8_turnRangesToIndices_39 (by decide) ?_
      exact hk2 f9 x10 _ _ _ hF hP hD hS (lv_sub hl [1, 2, 0] rfl)
theorem lX8_turnRangesToIndices_2 {p : Program} {l : Launch} {e : Env} {s : State} {m : MethodId} {args : Array Value} {below : List Frame} {meth : Method} {c : Code} {D : va_G} {ct : Nat → ClassId} {A : Nat → Prop} {q_t q_t_indices q_p1 q_p1_steps : Nat} {t_size : Int32} {p1_limit : Int32} {p1_near : Int32} {p1_share : Int32} {p1_shareOf : Int32} {p1_window : Int32} {p1_storm : Int32} {p1_stepCount : Int32} {p1_clauses : Int32} {p1_steps : Nat → Int32} {o_t_indices : Nat → Int32} (C0 : Cx RX8 cX8_turnRangesToIndices 3 none wsX8_turnRangesToIndices D ct A p s m args meth c) : ∀ (n : Nat) (t_indices : Nat → Int32) (x_2 : Int32) (H : Heap) (locs : List Loc) (ls : Array Slot), LX8_turnRangesToIndices_2 n t_size t_indices p1_stepCount p1_steps x_2 = some (o_t_indices) → va_P D vwCl (W_34 ct q_t q_t_indices q_p1 q_p1_steps t_size t_indices p1_limit p1_near p1_share p1_shareOf p1_window p1_storm p1_stepCount p1_clauses p1_steps) H → va_D A (W_34 ct q_t q_t_indices q_p1 q_p1_steps t_size t_indices p1_limit p1_near p1_share p1_shareOf p1_window p1_storm p1_stepCount p1_clauses p1_steps) → va_S A s.heap H locs → lv_has ls 3 [(0, .ref q_t), (1, .ref q_p1), (2, .int x_2)] → W p l e ({ frames := 1, cells := 0, slots := 0, locals := 23 } : Room) s m args below meth c H locs 0 0 (MQ below (va_Qv (fun (_ : Unit) => True) (fun _ t => va_P D vwCl (W_34 ct q_t q_t_indices q_p1 q_p1_steps t_size o_t_indices p1_limit p1_near p1_share p1_shareOf p1_window p1_storm p1_stepCount p1_clauses p1_steps) t.heap) A) args s 0 0 A) (F0 m 2 ls []) := by
  intro n
  induction n with
  | zero => intro t_indices x_2 H locs ls hF; exact nomatch (show (none : Option ((Nat → Int32))) = _ from hF)
  | succ n ih => intro t_indices x_2 H locs ls hF; exact jX8_turnRangesToIndices_2 C0 (LX8_turnRangesToIndices_2 n) ih n t_indices x_2 H locs ls hF
set_option maxHeartbeats 4000000 in
set_option maxRecDepth 100000 in
theorem met_X8_turnRangesToIndices (l : Launch) (D : va_G) (ct : Nat → ClassId) (q_t : Nat) (q_t_indices : Nat) (q_p1 : Nat) (q_p1_steps : Nat) (sz : Nat) (t_size : Int32) (t_indices : Nat → Int32) (p1_limit : Int32) (p1_near : Int32) (p1_share : Int32) (p1_shareOf : Int32) (p1_window : Int32) (p1_storm : Int32) (p1_stepCount : Int32) (p1_clauses : Int32) (p1_steps : Nat → Int32) (n : Nat) (o_t_indices : Nat → Int32) (hF : FX8_turnRangesToIndices n t_size t_indices p1_stepCount p1_steps = some (o_t_indices)) : Met l yX8_turnRangesToIndices wsX8_turnRangesToIndices ({ frames := 1, cells := 0, slots := 0, locals := 23 } : Room) (va_Pc [.ref q_t, .ref q_p1] (pre_ D ct sz (W_34 ct q_t q_t_indices q_p1 q_p1_steps t_size t_indices p1_limit p1_near p1_share p1_shareOf p1_window p1_storm p1_stepCount p1_clauses p1_steps))) (va_Qv (fun (_ : Unit) => True) (fun _ t => va_P D vwCl (W_34 ct q_t q_t_indices q_p1 q_p1_steps t_size o_t_indices p1_limit p1_near p1_share p1_shareOf p1_window p1_storm p1_stepCount p1_clauses p1_steps) t.heap) (va_A (W_34 ct q_t q_t_indices q_p1 q_p1_steps t_size t_indices p1_limit p1_near p1_share p1_shareOf p1_window p1_storm p1_stepCount p1_clauses p1_steps) sz)) 0 0 (va_A (W_34 ct q_t q_t_indices q_p1 q_p1_steps t_size t_indices p1_limit p1_near p1_share p1_shareOf p1_window p1_storm p1_stepCount p1_clauses p1_steps) sz) := by
  refine Met.ofW (cc := cX8_turnRangesToIndices) (maxL := 3) (ret := none) (by decide) rfl ?_
  intro p e s m args below meth c s₁ B hml hv
  obtain ⟨rfl, hsz, hP, hE, hD0⟩ := hv
  have hx := B.exec
  have hb := B.bytes
  have hr := B.returns
  have hts := atoms_spec (ws := wsX8_turnRangesToIndices) B.pre
  have hown : s.vm.findClass RX8 = some m.cls := findClass_of_methodNamed B.named
  have hlocks := B.notSynchronized
  subst hsz
  have hD := hD0.self (sz := s.heap.size)
  generalize hAe : va_A (W_34 ct q_t q_t_indices q_p1 q_p1_steps t_size t_indices p1_limit p1_near p1_share p1_shareOf p1_window p1_storm p1_stepCount p1_clauses p1_steps) s.heap.size = A at hD ⊢
  have hA : ∀ q : Nat, s.heap.size ≤ q → A q := fun q h => by rw [← hAe]; exact Or.inr h
  have hl := lv_entry ([.ref q_t, .ref q_p1]) (n := 3) (Nat.le_of_ble_eq_true rfl)
  rw [lg_entry_eq]
  generalize (lg_sl ([.ref q_t, .ref q_p1]) ++ List.replicate (3 - (lg_sl ([.ref q_t, .ref q_p1])).length) Slot.unset).toArray = ls at hl ⊢
  have hl : lv_has ls 3 [(0, .ref q_t), (1, .ref q_p1)] := hl
  have C0 : Cx RX8 cX8_turnRangesToIndices 3 none wsX8_turnRangesToIndices D ct A p s m ([.ref q_t, .ref q_p1]).toArray meth c := ⟨hx, hb, hml, hown, hts, hr, hlocks, hE, hA⟩
  have hS : ∀ H : Heap, s.heap = H → va_S A s.heap H [] := fun H h => h ▸ va_S.rf
  generalize hH : s.heap = H at hP ⊢
  have hS := hS H hH
  unfold FX8_turnRangesToIndices at hF
  refine lv_iconst (v := 0) hx hb dX8_turnRangesToIndices_0 (by decide) ?_
  refine lv_istore_n (lv' := [(2, .int 0), (0, .ref q_t), (1, .ref q_p1)]) hx hb dX8_turnRangesToIndices_1 rfl hl (by decide) rfl (fun ls hl => ?_)
  exact lX8_turnRangesToIndices_2 C0 n t_indices 0 _ _ _ hF hP hD hS (lv_sub hl [1, 2, 0] rfl)
def W_35 (ct : Nat → ClassId) (a0 a1 a2 a3 : Nat) (v0 : Int32) (v1 : Int32) (v2 : Int32) (v3 : Int32) (v4 : Int32) (v5 : Int32) (v6 : Int32) (v7 : Int32) (v8 : Nat → Int32) (v9 : Int32) (v10 : Int32) (v11 : Int32) (v12 : Int32) (v13 : Int32) (v14 : Int32) (v15 : Int32) (v16 : Int32) (v17 : Nat → Int32) : va_W := [(a0, .inr (3, [.int v0, .int v1, .int v2, .int v3, .int v4, .int v5, .ref a1, .int v6, .int v7])), (a1, .inl (ct 0, 9, .inl v8)), (a2, .inr (3, [.int v9, .int v10, .int v11, .int v12, .int v13, .int v14, .ref a3, .int v15, .int v16])), (a3, .inl (ct 0, 9, .inl v17))]
/-! NeedleHouse$Rule.become(LNeedleHouse$Rule;)V -/
theorem i_X3_become_X3 : ∀ w ∈ wsX30, w ∈ wsX3_become := by decide +kernel
set_option maxHeartbeats 4000000 in
set_option maxRecDepth 100000 in
theorem met_X3_become (l : Launch) (D : va_G) (ct : Nat → ClassId) (q_t : Nat) (q_t_steps : Nat) (q_p1 : Nat) (q_p1_steps : Nat) (sz : Nat) (t_limit : Int32) (t_near : Int32) (t_share : Int32) (t_shareOf : Int32) (t_window : Int32) (t_storm : Int32) (t_stepCount : Int32) (t_clauses : Int32) (t_steps : Nat → Int32) (p1_limit : Int32) (p1_near : Int32) (p1_share : Int32) (p1_shareOf : Int32) (p1_window : Int32) (p1_storm : Int32) (p1_stepCount : Int32) (p1_clauses : Int32) (p1_steps : Nat → Int32) (n : Nat) (o_t_limit : Int32) (o_t_near : Int32) (o_t_share : Int32) (o_t_shareOf : Int32) (o_t_window : Int32) (o_t_storm : Int32) (o_t_stepCount : Int32) (o_t_clauses : Int32) (o_t_steps : Nat → Int32) (hF : FX3_become n t_limit t_near t_share t_shareOf t_window t_storm t_stepCount t_clauses t_steps p1_limit p1_near p1_share p1_shareOf p1_window p1_storm p1_stepCount p1_clauses p1_steps = some (o_t_limit, o_t_near, o_t_share, o_t_shareOf, o_t_window, o_t_storm, o_t_stepCount, o_t_clauses, o_t_steps)) : Met l yX3_become wsX3_become ({ frames := 1, cells := 0, slots := 0, locals := 64 } : Room) (va_Pc [.ref q_t, .ref q_p1] (pre_ D ct sz (W_35 ct q_t q_t_steps q_p1 q_p1_steps t_limit t_near t_share t_shareOf t_window t_storm t_stepCount t_clauses t_steps p1_limit p1_near p1_share p1_shareOf p1_window p1_storm p1_stepCount p1_clauses p1_steps))) (va_Qv (fun (_ : Unit) => True) (fun _ t => va_P D vwCl (W_35 ct q_t q_t_steps q_p1 q_p1_steps o_t_limit o_t_near o_t_share o_t_shareOf o_t_window o_t_storm o_t_stepCount o_t_clauses o_t_steps p1_limit p1_near p1_share p1_shareOf p1_window p1_storm p1_stepCount p1_clauses p1_steps) t.heap) (va_A (W_35 ct q_t q_t_steps q_p1 q_p1_steps t_limit t_near t_share t_shareOf t_window t_storm t_stepCount t_clauses t_steps p1_limit p1_near p1_share p1_shareOf p1_window p1_storm p1_stepCount p1_clauses p1_steps) sz)) 0 0 (va_A (W_35 ct q_t q_t_steps q_p1 q_p1_steps t_limit t_near t_share t_shareOf t_window t_storm t_stepCount t_clauses t_steps p1_limit p1_near p1_share p1_shareOf p1_window p1_storm p1_stepCount p1_clauses p1_steps) sz) := by
  refine Met.ofW (cc := cX3_become) (maxL := 2) (ret := none) (by decide) rfl ?_
  intro p e s m args below meth c s₁ B hml hv
  obtain ⟨rfl, hsz, hP, hE, hD0⟩ := hv
  have hx := B.exec
  have hb := B.bytes
  have hr := B.returns
  have hts := atoms_spec (ws := wsX3_become) B.pre
  have hown : s.vm.findClass RX3 = some m.cls := findClass_of_methodNamed B.named
  have hlocks := B.notSynchronized
  subst hsz
  have hD := hD0.self (sz := s.heap.size)
  generalize hAe : va_A (W_35 ct q_t q_t_steps q_p1 q_p1_steps t_limit t_near t_share t_shareOf t_window t_storm t_stepCount t_clauses t_steps p1_limit p1_near p1_share p1_shareOf p1_window p1_storm p1_stepCount p1_clauses p1_steps) s.heap.size = A at hD ⊢
  have hA : ∀ q : Nat, s.heap.size ≤ q → A q := fun q h => by rw [← hAe]; exact Or.inr h
  have hl := lv_entry ([.ref q_t, .ref q_p1]) (n := 2) (Nat.le_of_ble_eq_true rfl)
  rw [lg_entry_eq]
  generalize (lg_sl ([.ref q_t, .ref q_p1]) ++ List.replicate (2 - (lg_sl ([.ref q_t, .ref q_p1])).length) Slot.unset).toArray = ls at hl ⊢
  have hl : lv_has ls 2 [(0, .ref q_t), (1, .ref q_p1)] := hl
  have C0 : Cx RX3 cX3_become 2 none wsX3_become D ct A p s m ([.ref q_t, .ref q_p1]).toArray meth c := ⟨hx, hb, hml, hown, hts, hr, hlocks, hE, hA⟩
  have hS : ∀ H : Heap, s.heap = H → va_S A s.heap H [] := fun H h => h ▸ va_S.rf
  generalize hH : s.heap = H at hP ⊢
  have hS := hS H hH
  unfold FX3_become at hF
  refine lv_aload_n hx hb dX3_become_0 rfl (lv_at hl 0 rfl) ?_
  refine lv_aload_n hx hb dX3_become_1 rfl (lv_at hl 1 rfl) ?_
  refine va_get (D := D) (ci := 3) (v := .int p1_limit) (C := RX3) (T := TX3) (N := 9) hx hb hts i_X3_become_X3 hown hE.1 hP 2 rfl rfl 0 (by decide) (hts (.fieldLink RX3 18 "NeedleHouse$Rule" "limit" "I") (by decide +kernel)) (fun _ h9 => h9) rfl dX3_become_2 ?_
  refine va_put (D := D) (ci := 3) (v := .int p1_limit) (ty := .int) (C := RX3) (T := TX3) (N := 9) hx hb hts i_X3_become_X3 tyX3 tyX3_ok nmX3 hown hE.1 hP hD hS 0 rfl rfl 0 (by decide) (hts (.fieldLink RX3 18 "NeedleHouse$Rule" "limit" "I") (by decide +kernel)) (fun _ h9 => h9) rfl (by decide +kernel) rfl rfl (Nat.le_of_ble_eq_true rfl) dX3_become_5 (fun H locs hP hD hS => ?_)
  have hP : va_P D vwCl (W_35 ct q_t q_t_steps q_p1 q_p1_steps p1_limit t_near t_share t_shareOf t_window t_storm t_stepCount t_clauses t_steps p1_limit p1_near p1_share p1_shareOf p1_window p1_storm p1_stepCount p1_clauses p1_steps) H := hP
  have hD : va_D A (W_35 ct q_t q_t_steps q_p1 q_p1_steps p1_limit t_near t_share t_shareOf t_window t_storm t_stepCount t_clauses t_steps p1_limit p1_near p1_share p1_shareOf p1_window p1_storm p1_stepCount p1_clauses p1_steps) := hD
  refine lv_aload_n hx hb dX3_become_8 rfl (lv_at hl 0 rfl) ?_
  refine lv_aload_n hx hb dX3_become_9 rfl (lv_at hl 1 rfl) ?_
  refine va_get (D := D) (ci := 3) (v := .int p1_near) (C := RX3) (T := TX3) (N := 9) hx hb hts i_X3_become_X3 hown hE.1 hP 2 rfl rfl 1 (by decide) (hts (.fieldLink RX3 22 "NeedleHouse$Rule" "near" "I") (by decide +kernel)) (fun _ h9 => h9) rfl dX3_become_10 ?_
  refine va_put (D := D) (ci := 3) (v := .int p1_near) (ty := .int) (C := RX3) (T := TX3) (N := 9) hx hb hts i_X3_become_X3 tyX3 tyX3_ok nmX3 hown hE.1 hP hD hS 0 rfl rfl 1 (by decide) (hts (.fieldLink RX3 22 "NeedleHouse$Rule" "near" "I") (by decide +kernel)) (fun _ h9 => h9) rfl (by decide +kernel) rfl rfl (Nat.le_of_ble_eq_true rfl) dX3_become_13 (fun H locs hP hD hS => ?_)
  have hP : va_P D vwCl (W_35 ct q_t q_t_steps q_p1 q_p1_steps p1_limit p1_near t_share t_shareOf t_window t_storm t_stepCount t_clauses t_steps p1_limit p1_near p1_share p1_shareOf p1_window p1_storm p1_stepCount p1_clauses p1_steps) H := hP
  have hD : va_D A (W_35 ct q_t q_t_steps q_p1 q_p1_steps p1_limit p1_near t_share t_shareOf t_window t_storm t_stepCount t_clauses t_steps p1_limit p1_near p1_share p1_shareOf p1_window p1_storm p1_stepCount p1_clauses p1_steps) := hD
  refine lv_aload_n hx hb dX3_become_16 rfl (lv_at hl 0 rfl) ?_
  refine lv_aload_n hx hb dX3_become_17 rfl (lv_at hl 1 rfl) ?_
  refine va_get (D := D) (ci := 3) (v := .int p1_share) (C := RX3) (T := TX3) (N := 9) hx hb hts i_X3_become_X3 hown hE.1 hP 2 rfl rfl 2 (by decide) (hts (.fieldLink RX3 25 "NeedleHouse$Rule" "share" "I") (by decide +kernel)) (fun _ h9 => h9) rfl dX3_become_18 ?_
  refine va_put (D := D) (ci := 3) (v := .int p1_share) (ty := .int) (C := RX3) (T := TX3) (N := 9) hx hb hts i_X3_become_X3 tyX3 tyX3_ok nmX3 hown hE.1 hP hD hS 0 rfl rfl 2 (by decide) (hts (.fieldLink RX3 25 "NeedleHouse$Rule" "share" "I") (by decide +kernel)) (fun _ h9 => h9) rfl (by decide +kernel) rfl rfl (Nat.le_of_ble_eq_true rfl) dX3_become_21 (fun H locs hP hD hS => ?_)
  have hP : va_P D vwCl (W_35 ct q_t q_t_steps q_p1 q_p1_steps p1_limit p1_near p1_share t_shareOf t_window t_storm t_stepCount t_clauses t_steps p1_limit p1_near p1_share p1_shareOf p1_window p1_storm p1_stepCount p1_clauses p1_steps) H := hP
  have hD : va_D A (W_35 ct q_t q_t_steps q_p1 q_p1_steps p1_limit p1_near p1_share t_shareOf t_window t_storm t_stepCount t_clauses t_steps p1_limit p1_near p1_share p1_shareOf p1_window p1_storm p1_stepCount p1_clauses p1_steps) := hD
  refine lv_aload_n hx hb dX3_become_24 rfl (lv_at hl 0 rfl) ?_
  refine lv_aload_n hx hb dX3_become_25 rfl (lv_at hl 1 rfl) ?_
  refine va_get (D := D) (ci := 3) (v := .int p1_shareOf) (C := RX3) (T := TX3) (N := 9) hx hb hts i_X3_become_X3 hown hE.1 hP 2 rfl rfl 3 (by decide) (hts (.fieldLink RX3 28 "NeedleHouse$Rule" "shareOf" "I") (by decide +kernel)) (fun _ h9 => h9) rfl dX3_become_26 ?_
  refine va_put (D := D) (ci := 3) (v := .int p1_shareOf) (ty := .int) (C := RX3) (T := TX3) (N := 9) hx hb hts i_X3_become_X3 tyX3 tyX3_ok nmX3 hown hE.1 hP hD hS 0 rfl rfl 3 (by decide) (hts (.fieldLink RX3 28 "NeedleHouse$Rule" "shareOf" "I") (by decide +kernel)) (fun _ h9 => h9) rfl (by decide +kernel) rfl rfl (Nat.le_of_ble_eq_true rfl) dX3_become_29 (fun H locs hP hD hS => ?_)
  have hP : va_P D vwCl (W_35 ct q_t q_t_steps q_p1 q_p1_steps p1_limit p1_near p1_share p1_shareOf t_window t_storm t_stepCount t_clauses t_steps p1_limit p1_near p1_share p1_shareOf p1_window p1_storm p1_stepCount p1_clauses p1_steps) H := hP
  have hD : va_D A (W_35 ct q_t q_t_steps q_p1 q_p1_steps p1_limit p1_near p1_share p1_shareOf t_window t_storm t_stepCount t_clauses t_steps p1_limit p1_near p1_share p1_shareOf p1_window p1_storm p1_stepCount p1_clauses p1_steps) := hD
  refine lv_aload_n hx hb dX3_become_32 rfl (lv_at hl 0 rfl) ?_
  refine lv_aload_n hx hb dX3_become_33 rfl (lv_at hl 1 rfl) ?_
  refine va_get (D := D) (ci := 3) (v := .int p1_window) (C := RX3) (T := TX3) (N := 9) hx hb hts i_X3_become_X3 hown hE.1 hP 2 rfl rfl 4 (by decide) (hts (.fieldLink RX3 31 "NeedleHouse$Rule" "window" "I") (by decide +kernel)) (fun _ h9 => h9) rfl dX3_become_34 ?_
  refine va_put (D := D) (ci := 3) (v := .int p1_window) (ty := .int) (C := RX3) (T := TX3) (N := 9) hx hb hts i_X3_become_X3 tyX3 tyX3_ok nmX3 hown hE.1 hP hD hS 0 rfl rfl 4 (by decide) (hts (.fieldLink RX3 31 "NeedleHouse$Rule" "window" "I") (by decide +kernel)) (fun _ h9 => h9) rfl (by decide +kernel) rfl rfl (Nat.le_of_ble_eq_true rfl) dX3_become_37 (fun H locs hP hD hS => ?_)
  have hP : va_P D vwCl (W_35 ct q_t q_t_steps q_p1 q_p1_steps p1_limit p1_near p1_share p1_shareOf p1_window t_storm t_stepCount t_clauses t_steps p1_limit p1_near p1_share p1_shareOf p1_window p1_storm p1_stepCount p1_clauses p1_steps) H := hP
  have hD : va_D A (W_35 ct q_t q_t_steps q_p1 q_p1_steps p1_limit p1_near p1_share p1_shareOf p1_window t_storm t_stepCount t_clauses t_steps p1_limit p1_near p1_share p1_shareOf p1_window p1_storm p1_stepCount p1_clauses p1_steps) := hD
  refine lv_aload_n hx hb dX3_become_40 rfl (lv_at hl 0 rfl) ?_
  refine lv_aload_n hx hb dX3_become_41 rfl (lv_at hl 1 rfl) ?_
  refine va_get (D := D) (ci := 3) (v := .int p1_storm) (C := RX3) (T := TX3) (N := 9) hx hb hts i_X3_become_X3 hown hE.1 hP 2 rfl rfl 5 (by decide) (hts (.fieldLink RX3 34 "NeedleHouse$Rule" "storm" "I") (by decide +kernel)) (fun _ h9 => h9) rfl dX3_become_42 ?_
  refine va_put (D := D) (ci := 3) (v := .int p1_storm) (ty := .int) (C := RX3) (T := TX3) (N := 9) hx hb hts i_X3_become_X3 tyX3 tyX3_ok nmX3 hown hE.1 hP hD hS 0 rfl rfl 5 (by decide) (hts (.fieldLink RX3 34 "NeedleHouse$Rule" "storm" "I") (by decide +kernel)) (fun _ h9 => h9) rfl (by decide +kernel) rfl rfl (Nat.le_of_ble_eq_true rfl) dX3_become_45 (fun H locs hP hD hS => ?_)
  have hP : va_P D vwCl (W_35 ct q_t q_t_steps q_p1 q_p1_steps p1_limit p1_near p1_share p1_shareOf p1_window p1_storm t_stepCount t_clauses t_steps p1_limit p1_near p1_share p1_shareOf p1_window p1_storm p1_stepCount p1_clauses p1_steps) H := hP
  have hD : va_D A (W_35 ct q_t q_t_steps q_p1 q_p1_steps p1_limit p1_near p1_share p1_shareOf p1_window p1_storm t_stepCount t_clauses t_steps p1_limit p1_near p1_share p1_shareOf p1_window p1_storm p1_stepCount p1_clauses p1_steps) := hD
  refine lv_aload_n hx hb dX3_become_48 rfl (lv_at hl 0 rfl) ?_
  refine lv_aload_n hx hb dX3_become_49 rfl (lv_at hl 1 rfl) ?_
  refine va_get (D := D) (ci := 3) (v := .int p1_clauses) (C := RX3) (T := TX3) (N := 9) hx hb hts i_X3_become_X3 hown hE.1 hP 2 rfl rfl 8 (by decide) (hts (.fieldLink RX3 37 "NeedleHouse$Rule" "clauses" "I") (by decide +kernel)) (fun _ h9 => h9) rfl dX3_become_50 ?_
  refine va_put (D := D) (ci := 3) (v := .int p1_clauses) (ty := .int) (C := RX3) (T := TX3) (N := 9) hx hb hts i_X3_become_X3 tyX3 tyX3_ok nmX3 hown hE.1 hP hD hS 0 rfl rfl 8 (by decide) (hts (.fieldLink RX3 37 "NeedleHouse$Rule" "clauses" "I") (by decide +kernel)) (fun _ h9 => h9) rfl (by decide +kernel) rfl rfl (Nat.le_of_ble_eq_true rfl) dX3_become_53 (fun H locs hP hD hS => ?_)
  have hP : va_P D vwCl (W_35 ct q_t q_t_steps q_p1 q_p1_steps p1_limit p1_near p1_share p1_shareOf p1_window p1_storm t_stepCount p1_clauses t_steps p1_limit p1_near p1_share p1_shareOf p1_window p1_storm p1_stepCount p1_clauses p1_steps) H := hP
  have hD : va_D A (W_35 ct q_t q_t_steps q_p1 q_p1_steps p1_limit p1_near p1_share p1_shareOf p1_window p1_storm t_stepCount p1_clauses t_steps p1_limit p1_near p1_share p1_shareOf p1_window p1_storm p1_stepCount p1_clauses p1_steps) := hD
  refine lv_aload_n hx hb dX3_become_56 rfl (lv_at hl 0 rfl) ?_
  refine lv_aload_n hx hb dX3_become_57 rfl (lv_at hl 1 rfl) ?_
  refine va_get (D := D) (ci := 3) (v := .int p1_stepCount) (C := RX3) (T := TX3) (N := 9) hx hb hts i_X3_become_X3 hown hE.1 hP 2 rfl rfl 7 (by decide) (hts (.fieldLink RX3 47 "NeedleHouse$Rule" "stepCount" "I") (by decide +kernel)) (fun _ h9 => h9) rfl dX3_become_58 ?_
  refine va_put (D := D) (ci := 3) (v := .int p1_stepCount) (ty := .int) (C := RX3) (T := TX3) (N := 9) hx hb hts i_X3_become_X3 tyX3 tyX3_ok nmX3 hown hE.1 hP hD hS 0 rfl rfl 7 (by decide) (hts (.fieldLink RX3 47 "NeedleHouse$Rule" "stepCount" "I") (by decide +kernel)) (fun _ h9 => h9) rfl (by decide +kernel) rfl rfl (Nat.le_of_ble_eq_true rfl) dX3_become_61 (fun H locs hP hD hS => ?_)
  have hP : va_P D vwCl (W_35 ct q_t q_t_steps q_p1 q_p1_steps p1_limit p1_near p1_share p1_shareOf p1_window p1_storm p1_stepCount p1_clauses t_steps p1_limit p1_near p1_share p1_shareOf p1_window p1_storm p1_stepCount p1_clauses p1_steps) H := hP
  have hD : va_D A (W_35 ct q_t q_t_steps q_p1 q_p1_steps p1_limit p1_near p1_share p1_shareOf p1_window p1_storm p1_stepCount p1_clauses t_steps p1_limit p1_near p1_share p1_shareOf p1_window p1_storm p1_stepCount p1_clauses p1_steps) := hD
  refine lv_aload_n hx hb dX3_become_64 rfl (lv_at hl 1 rfl) ?_
  refine va_get (D := D) (ci := 3) (v := .ref q_p1_steps) (C := RX3) (T := TX3) (N := 9) hx hb hts i_X3_become_X3 hown hE.1 hP 2 rfl rfl 6 (by decide) (hts (.fieldLink RX3 9 "NeedleHouse$Rule" "steps" "[I") (by decide +kernel)) (fun _ h9 => h9) rfl dX3_become_65 ?_
  refine lv_iconst (v := 0) hx hb dX3_become_68 (by decide) ?_
  refine lv_aload_n hx hb dX3_become_69 rfl (lv_at hl 0 rfl) ?_
  refine va_get (D := D) (ci := 3) (v := .ref q_t_steps) (C := RX3) (T := TX3) (N := 9) hx hb hts i_X3_become_X3 hown hE.1 hP 0 rfl rfl 6 (by decide) (hts (.fieldLink RX3 9 "NeedleHouse$Rule" "steps" "[I") (by decide +kernel)) (fun _ h9 => h9) rfl dX3_become_70 ?_
  refine lv_iconst (v := 0) hx hb dX3_become_73 (by decide) ?_
  refine lv_bipush (v := 9) hx hb dX3_become_74 (by decide) ?_
  obtain ⟨f1, ef1, hF⟩ := bn_ex hF
  refine va_copyi (ty := .int) hx hb (hml.trans hl.1.symm) hown (hts (.methodLink RX3 50 arraycopyName) (by decide +kernel)) (hts (.native arraycopyName) (by decide +kernel)) (hts (.static arraycopyName) (by decide +kernel)) (hts (.initialized "java/lang/System") (by decide +kernel)) hE.1 hP hD hS 3 1 0 0 rfl rfl rfl rfl rfl (by decide) (by decide) (by decide) (by decide) (by decide) (fun _ _ => rfl) (Nat.le_of_ble_eq_true rfl) (Nat.le_of_ble_eq_true rfl) dX3_become_76 (fun H locs hP hD hS => ?_)
  have hP : va_P D vwCl (W_35 ct q_t q_t_steps q_p1 q_p1_steps p1_limit p1_near p1_share p1_shareOf p1_window p1_storm p1_stepCount p1_clauses f1 p1_limit p1_near p1_share p1_shareOf p1_window p1_storm p1_stepCount p1_clauses p1_steps) H := by rw [ef1]; exact hP
  have hD : va_D A (W_35 ct q_t q_t_steps q_p1 q_p1_steps p1_limit p1_near p1_share p1_shareOf p1_window p1_storm p1_stepCount p1_clauses f1 p1_limit p1_near p1_share p1_shareOf p1_window p1_storm p1_stepCount p1_clauses p1_steps) := by rw [ef1]; exact hD
  obtain ⟨rfl, rfl, rfl, rfl, rfl, rfl, rfl, rfl, rfl⟩ := in9 hF
  exact W.vret hx hb hr (fun t ht hW => ⟨⟨(), rfl, trivial, vaP_at ht hP⟩, hS.F ht⟩) hS.2.2 dX3_become_79
