/-! java/lang/Math.J9_floorDiv_7cf53(II)I -/
set_option maxHeartbeats 4000000 in
set_option maxRecDepth 100000 in
theorem met_J9_floorDiv_7cf53 (l : Launch) (D : va_G) (ct : Nat → ClassId) (sz : Nat) (p1 : Int32) (p2 : Int32) (n : Nat) (o_r : Int32) (hF : FJ9_floorDiv_7cf53 n p1 p2 = some (o_r)) : Met l yJ9_floorDiv_7cf53 wsJ9_floorDiv_7cf53 ({ frames := 0, cells := 0, slots := 0, locals := 0 } : Room) (va_Pc [.int p1, .int p2] (pre_ D ct sz [])) (va_Qi (fun r (_ : Unit) => r = o_r) (fun _ t => va_P D vwCl [] t.heap) (va_A [] sz)) 0 0 (va_A [] sz) := by
  refine va_MetF (cc := cJ9_floorDiv_7cf53) (maxL := 3) (ret := (some .int)) (by decide +kernel) rfl ?_
  intro p e s m args below meth c s₁ B hml hv
  obtain ⟨rfl, hsz, hP, hE, hD0⟩ := hv
  have hx := B.exec
  have hb := B.bytes
  have hr := B.returns
  have hts := atoms_spec (ws := wsJ9_floorDiv_7cf53) B.pre
  have hown : s.vm.findClass RJ9 = some m.cls := findClass_of_methodNamed B.named
  have hlocks := B.notSynchronized
  subst hsz
  have hD := hD0.self (sz := s.heap.size)
  generalize hAe : va_A [] s.heap.size = A at hD ⊢
  have hA : ∀ q : Nat, s.heap.size ≤ q → A q := fun q h => by rw [← hAe]; exact Or.inr h
  have hl := lv_entry ([.int p1, .int p2]) (n := 3) (Nat.le_of_ble_eq_true rfl)
  rw [lg_entry_eq]
  generalize (lg_sl ([.int p1, .int p2]) ++ List.replicate (3 - (lg_sl ([.int p1, .int p2])).length) Slot.unset).toArray = ls at hl ⊢
  have hl : lv_has ls 3 [(0, .int p1), (1, .int p2)] := hl
  have C0 : Cx RJ9 cJ9_floorDiv_7cf53 3 (some .int) wsJ9_floorDiv_7cf53 D ct A p s m ([.int p1, .int p2]).toArray meth c := ⟨hx, hb, hml, hown, hts, hr, hlocks, hE, hA⟩
  have hS : ∀ H : Heap, s.heap = H → va_S A s.heap H [] := fun H h => h ▸ va_S.rf
  generalize hH : s.heap = H at hP ⊢
  have hS := hS H hH
  unfold FJ9_floorDiv_7cf53 at hF
  refine lv_iload_n hx hb dJ9_floorDiv_7cf53_0 rfl (lv_at hl 0 rfl) ?_
  refine lv_iload_n hx hb dJ9_floorDiv_7cf53_1 rfl (lv_at hl 1 rfl) ?_
  obtain ⟨h1, hF⟩ := gd_ex hF
  refine lv_idiv hx hb dJ9_floorDiv_7cf53_2 h1 ?_
  refine lv_topi (fun x2 ex2 => ?_)
  have hF := bn_as ex2 hF
  refine lv_istore_n (lv' := [(2, .int x2), (0, .int p1), (1, .int p2)]) hx hb dJ9_floorDiv_7cf53_3 rfl hl (by decide) rfl (fun ls hl => ?_)
  refine lv_iload_n hx hb dJ9_floorDiv_7cf53_4 rfl (lv_at hl 1 rfl) ?_
  refine lv_iload_n hx hb dJ9_floorDiv_7cf53_5 rfl (lv_at hl 2 rfl) ?_
  refine lv_ixor hx hb dJ9_floorDiv_7cf53_6 ?_
  refine lv_if_ge (tgt := 21) hx hb dJ9_floorDiv_7cf53_7 (by decide) (fun c3 => ?_) (fun c3 => ?_)
  · have hF := ifT c3 hF
    refine lv_iload_n hx hb dJ9_floorDiv_7cf53_21 rfl (lv_at hl 0 rfl) ?_
    obtain rfl := Option.some.inj hF
    exact W.iret hx hb hr (fun t ht hW => ⟨⟨_, (), rfl, rfl, vaP_at ht hP⟩, hS.F ht⟩) hS.2.2 dJ9_floorDiv_7cf53_22
  · have hF := ifF c3 hF
    refine lv_iload_n hx hb dJ9_floorDiv_7cf53_10 rfl (lv_at hl 0 rfl) ?_
    refine lv_iload_n hx hb dJ9_floorDiv_7cf53_11 rfl (lv_at hl 2 rfl) ?_
    refine lv_imul hx hb dJ9_floorDiv_7cf53_12 ?_
    refine lv_iload_n hx hb dJ9_floorDiv_7cf53_13 rfl (lv_at hl 1 rfl) ?_
    refine lv_icmp_eq (tgt := 21) hx hb dJ9_floorDiv_7cf53_14 (by decide) (fun c4 => ?_) (fun c4 => ?_)
    · have hF := ifT c4 hF
      refine lv_iload_n hx hb dJ9_floorDiv_7cf53_21 rfl (lv_at hl 0 rfl) ?_
      obtain rfl := Option.some.inj hF
      exact W.iret hx hb hr (fun t ht hW => ⟨⟨_, (), rfl, rfl, vaP_at ht hP⟩, hS.F ht⟩) hS.2.2 dJ9_floorDiv_7cf53_22
    · have hF := ifF c4 hF
      refine lv_iload_n hx hb dJ9_floorDiv_7cf53_17 rfl (lv_at hl 0 rfl) ?_
      refine lv_iconst (v := 1) hx hb dJ9_floorDiv_7cf53_18 (by decide) ?_
      refine lv_isub hx hb dJ9_floorDiv_7cf53_19 ?_
      obtain rfl := Option.some.inj hF
      exact W.iret hx hb hr (fun t ht hW => ⟨⟨_, (), rfl, rfl, vaP_at ht hP⟩, hS.F ht⟩) hS.2.2 dJ9_floorDiv_7cf53_20
/-! java/lang/Math.J9_floorDiv_f86c9(JJ)J -/
set_option maxHeartbeats 4000000 in
set_option maxRecDepth 100000 in
theorem met_J9_floorDiv_f86c9 (l : Launch) (D : va_G) (ct : Nat → ClassId) (sz : Nat) (p1 : Int64) (p2 : Int64) (n : Nat) (o_r : Int64) (hF : FJ9_floorDiv_f86c9 n p1 p2 = some (o_r)) : Met l yJ9_floorDiv_f86c9 wsJ9_floorDiv_f86c9 ({ frames := 0, cells := 0, slots := 0, locals := 0 } : Room) (va_Pc [.long p1, .long p2] (pre_ D ct sz [])) (va_Ql (fun r (_ : Unit) => r = o_r) (fun _ t => va_P D vwCl [] t.heap) (va_A [] sz)) 0 0 (va_A [] sz) := by
  refine va_MetF (cc := cJ9_floorDiv_f86c9) (maxL := 6) (ret := (some .long)) (by decide +kernel) rfl ?_
  intro p e s m args below meth c s₁ B hml hv
  obtain ⟨rfl, hsz, hP, hE, hD0⟩ := hv
  have hx := B.exec
  have hb := B.bytes
  have hr := B.returns
  have hts := atoms_spec (ws := wsJ9_floorDiv_f86c9) B.pre
  have hown : s.vm.findClass RJ9 = some m.cls := findClass_of_methodNamed B.named
  have hlocks := B.notSynchronized
  subst hsz
  have hD := hD0.self (sz := s.heap.size)
  generalize hAe : va_A [] s.heap.size = A at hD ⊢
  have hA : ∀ q : Nat, s.heap.size ≤ q → A q := fun q h => by rw [← hAe]; exact Or.inr h
  have hl := lv_entry ([.long p1, .long p2]) (n := 6) (Nat.le_of_ble_eq_true rfl)
  rw [lg_entry_eq]
  generalize (lg_sl ([.long p1, .long p2]) ++ List.replicate (6 - (lg_sl ([.long p1, .long p2])).length) Slot.unset).toArray = ls at hl ⊢
  have hl : lv_has ls 6 [(0, .long p1), (2, .long p2)] := hl
  have C0 : Cx RJ9 cJ9_floorDiv_f86c9 6 (some .long) wsJ9_floorDiv_f86c9 D ct A p s m ([.long p1, .long p2]).toArray meth c := ⟨hx, hb, hml, hown, hts, hr, hlocks, hE, hA⟩
  have hS : ∀ H : Heap, s.heap = H → va_S A s.heap H [] := fun H h => h ▸ va_S.rf
  generalize hH : s.heap = H at hP ⊢
  have hS := hS H hH
  unfold FJ9_floorDiv_f86c9 at hF
  refine lv_lload_n hx hb dJ9_floorDiv_f86c9_0 rfl (lv_at hl 0 rfl) ?_
  refine lv_lload_n hx hb dJ9_floorDiv_f86c9_1 rfl (lv_at hl 1 rfl) ?_
  obtain ⟨h1, hF⟩ := gd_ex hF
  refine lv_ldiv hx hb dJ9_floorDiv_f86c9_2 h1 ?_
  refine lv_topl (fun x2 ex2 => ?_)
  have hF := bn_as ex2 hF
  refine lv_lstore (lv' := [(4, .long x2), (0, .long p1), (2, .long p2)]) hx hb dJ9_floorDiv_f86c9_3 hl (by decide) rfl (fun ls hl => ?_)
  refine lv_lload_n hx hb dJ9_floorDiv_f86c9_5 rfl (lv_at hl 1 rfl) ?_
  refine lv_lload_n hx hb dJ9_floorDiv_f86c9_6 rfl (lv_at hl 2 rfl) ?_
  refine lv_lxor hx hb dJ9_floorDiv_f86c9_7 ?_
  refine lv_lconst (v := 0) hx hb dJ9_floorDiv_f86c9_8 (by decide) ?_
  refine W.lcmp hx hb dJ9_floorDiv_f86c9_9 ?_
  refine lv_if_ge (tgt := 27) hx hb dJ9_floorDiv_f86c9_10 (by decide) (fun c3 => ?_) (fun c3 => ?_)
  · have hF := ifT c3 hF
    refine lv_lload hx hb dJ9_floorDiv_f86c9_27 (lv_at hl 0 rfl) ?_
    obtain rfl := Option.some.inj hF
    exact W.lret hx hb hr (fun t ht hW => ⟨⟨_, (), rfl, rfl, vaP_at ht hP⟩, hS.F ht⟩) hS.2.2 dJ9_floorDiv_f86c9_29
  · have hF := ifF c3 hF
    refine lv_lload hx hb dJ9_floorDiv_f86c9_13 (lv_at hl 0 rfl) ?_
    refine lv_lload_n hx hb dJ9_floorDiv_f86c9_15 rfl (lv_at hl 2 rfl) ?_
    refine lv_lmul hx hb dJ9_floorDiv_f86c9_16 ?_
    refine lv_lload_n hx hb dJ9_floorDiv_f86c9_17 rfl (lv_at hl 1 rfl) ?_
    refine W.lcmp hx hb dJ9_floorDiv_f86c9_18 ?_
    refine lv_if_eq (tgt := 27) hx hb dJ9_floorDiv_f86c9_19 (by decide) (fun c4 => ?_) (fun c4 => ?_)
    · have hF := ifT c4 hF
      refine lv_lload hx hb dJ9_floorDiv_f86c9_27 (lv_at hl 0 rfl) ?_
      obtain rfl := Option.some.inj hF
      exact W.lret hx hb hr (fun t ht hW => ⟨⟨_, (), rfl, rfl, vaP_at ht hP⟩, hS.F ht⟩) hS.2.2 dJ9_floorDiv_f86c9_29
    · have hF := ifF c4 hF
      refine lv_lload hx hb dJ9_floorDiv_f86c9_22 (lv_at hl 0 rfl) ?_
      refine lv_lconst (v := 1) hx hb dJ9_floorDiv_f86c9_24 (by decide) ?_
      refine lv_lsub hx hb dJ9_floorDiv_f86c9_25 ?_
      obtain rfl := Option.some.inj hF
      exact W.lret hx hb hr (fun t ht hW => ⟨⟨_, (), rfl, rfl, vaP_at ht hP⟩, hS.F ht⟩) hS.2.2 dJ9_floorDiv_f86c9_26
def W_0 (ct : Nat → ClassId) (a0 N1 : Nat) (v0 : Nat → Int32) : va_W := [(a0, .inl (ct 0, N1, .inl v0))]
/-! java/util/Arrays.J7_fill_53178([II)V -/
set_option maxHeartbeats 4000000 in
set_option maxRecDepth 100000 in
theorem jJ7_fill_53178_5 {p : Program} {l : Launch} {e : Env} {s : State} {m : MethodId} {args : Array Value} {below : List Frame} {meth : Method} {c : Code} {D : va_G} {ct : Nat → ClassId} {A : Nat → Prop} {q_p1 N1 : Nat} {o_p1 : Nat → Int32} (C0 : Cx RJ7 cJ7_fill_53178 4 none wsJ7_fill_53178 D ct A p s m args meth c) (k5 : Nat → (Nat → Int32) → Int32 → Int32 → Int32 → Option ((Nat → Int32))) (hk5 : ∀ (p1 : Nat → Int32) (x_1 : Int32) (x_2 : Int32) (x_3 : Int32) (H : Heap) (locs : List Loc) (ls : Array Slot), k5 N1 p1 x_1 x_2 x_3 = some (o_p1) → va_P D vwCl (W_0 ct q_p1 N1 p1) H → va_D A (W_0 ct q_p1 N1 p1) → va_S A s.heap H locs → lv_has ls 4 [(0, .ref q_p1), (1, .int x_1), (2, .int x_2), (3, .int x_3)] → W p l e ({ frames := 0, cells := 0, slots := 0, locals := 0 } : Room) s m args below meth c H locs 0 0 (MQ below (va_Qv (fun (_ : Unit) => True) (fun _ t => va_P D vwCl (W_0 ct q_p1 N1 o_p1) t.heap) A) args s 0 0 A) (F0 m 5 ls [])) (n : Nat) (p1 : Nat → Int32) (x_1 : Int32) (x_2 : Int32) (x_3 : Int32) (H : Heap) (locs : List Loc) (ls : Array Slot) : JJ7_fill_53178_5 k5 n N1 p1 x_1 x_2 x_3 = some (o_p1) → va_P D vwCl (W_0 ct q_p1 N1 p1) H → va_D A (W_0 ct q_p1 N1 p1) → va_S A s.heap H locs → lv_has ls 4 [(0, .ref q_p1), (1, .int x_1), (2, .int x_2), (3, .int x_3)] → W p l e ({ frames := 0, cells := 0, slots := 0, locals := 0 } : Room) s m args below meth c H locs 0 0 (MQ below (va_Qv (fun (_ : Unit) => True) (fun _ t => va_P D vwCl (W_0 ct q_p1 N1 o_p1) t.heap) A) args s 0 0 A) (F0 m 5 ls []) := by
  intro hF hP hD hS hl
  obtain ⟨hx, hb, hml, hown, hts, hr, hlocks, hE, hA⟩ := id C0
  unfold JJ7_fill_53178_5 at hF
  refine lv_iload_n hx hb dJ7_fill_53178_5 rfl (lv_at hl 2 rfl) ?_
  refine lv_iload_n hx hb dJ7_fill_53178_6 rfl (lv_at hl 3 rfl) ?_
  refine lv_icmp_ge (tgt := 20) hx hb dJ7_fill_53178_7 (by decide) (fun c2 => ?_) (fun c2 => ?_)
  · have hF := ifT c2 hF
    obtain rfl := Option.some.inj hF
    exact W.vret hx hb hr (fun t ht hW => ⟨⟨(), rfl, trivial, vaP_at ht hP⟩, hS.F ht⟩) hS.2.2 dJ7_fill_53178_20
  · have hF := ifF c2 hF
    refine lv_aload_n hx hb dJ7_fill_53178_10 rfl (lv_at hl 0 rfl) ?_
    refine lv_iload_n hx hb dJ7_fill_53178_11 rfl (lv_at hl 2 rfl) ?_
    refine lv_iload_n hx hb dJ7_fill_53178_12 rfl (lv_at hl 1 rfl) ?_
    obtain ⟨h3, hF⟩ := gd_ex hF
    obtain ⟨f4, ef4, hF⟩ := bn_ex hF
    refine va_iast hx hb hE.1 hP hD hS 0 0 rfl rfl h3 dJ7_fill_53178_13 (fun H locs hP hD hS => ?_)
    have hP : va_P D vwCl (W_0 ct q_p1 N1 f4) H := by rw [ef4]; exact hP
    have hD : va_D A (W_0 ct q_p1 N1 f4) := by rw [ef4]; exact hD
    obtain ⟨x5, ex5⟩ : ∃ y : Int32, y = x_2 + 1 := ⟨_, rfl⟩
    refine lv_iinc (v := x5) (lv' := [(2, .int x5), (0, .ref q_p1), (1, .int x_1), (3, .int x_3)]) hx hb dJ7_fill_53178_14 hl (k := 2) rfl (by rw [ex5]; rfl) (by decide) rfl (fun ls hl => ?_)
    have hF := bn_as ex5 hF
    refine lv_goto (tgt := 5) hx hb dJ7_fill_53178_17 (by decide) ?_
    exact hk5 f4 x_1 x5 x_3 _ _ _ hF hP hD hS (lv_sub hl [1, 2, 0, 3] rfl)
theorem lJ7_fill_53178_5 {p : Program} {l : Launch} {e : Env} {s : State} {m : MethodId} {args : Array Value} {below : List Frame} {meth : Method} {c : Code} {D : va_G} {ct : Nat → ClassId} {A : Nat → Prop} {q_p1 N1 : Nat} {o_p1 : Nat → Int32} (C0 : Cx RJ7 cJ7_fill_53178 4 none wsJ7_fill_53178 D ct A p s m args meth c) : ∀ (n : Nat) (p1 : Nat → Int32) (x_1 : Int32) (x_2 : Int32) (x_3 : Int32) (H : Heap) (locs : List Loc) (ls : Array Slot), LJ7_fill_53178_5 n N1 p1 x_1 x_2 x_3 = some (o_p1) → va_P D vwCl (W_0 ct q_p1 N1 p1) H → va_D A (W_0 ct q_p1 N1 p1) → va_S A s.heap H locs → lv_has ls 4 [(0, .ref q_p1), (1, .int x_1), (2, .int x_2), (3, .int x_3)] → W p l e ({ frames := 0, cells := 0, slots := 0, locals := 0 } : Room) s m args below meth c H locs 0 0 (MQ below (va_Qv (fun (_ : Unit) => True) (fun _ t => va_P D vwCl (W_0 ct q_p1 N1 o_p1) t.heap) A) args s 0 0 A) (F0 m 5 ls []) := by
  intro n
  induction n with
  | zero => intro p1 x_1 x_2 x_3 H locs ls hF; exact nomatch (show (none : Option ((Nat → Int32))) = _ from hF)
  | succ n ih => intro p1 x_1 x_2 x_3 H locs ls hF; exact jJ7_fill_53178_5 C0 (LJ7_fill_53178_5 n) ih n p1 x_1 x_2 x_3 H locs ls hF
set_option maxHeartbeats 4000000 in
set_option maxRecDepth 100000 in
theorem met_J7_fill_53178 (l : Launch) (D : va_G) (ct : Nat → ClassId) (q_p1 : Nat) (N1 : Nat) (sz : Nat) (p1 : Nat → Int32) (p2 : Int32) (n : Nat) (o_p1 : Nat → Int32) (hF : FJ7_fill_53178 n N1 p1 p2 = some (o_p1)) : Met l yJ7_fill_53178 wsJ7_fill_53178 ({ frames := 0, cells := 0, slots := 0, locals := 0 } : Room) (va_Pc [.ref q_p1, .int p2] (pre_ D ct sz (W_0 ct q_p1 N1 p1))) (va_Qv (fun (_ : Unit) => True) (fun _ t => va_P D vwCl (W_0 ct q_p1 N1 o_p1) t.heap) (va_A (W_0 ct q_p1 N1 p1) sz)) 0 0 (va_A (W_0 ct q_p1 N1 p1) sz) := by
  refine va_MetF (cc := cJ7_fill_53178) (maxL := 4) (ret := none) (by decide +kernel) rfl ?_
  intro p e s m args below meth c s₁ B hml hv
  obtain ⟨rfl, hsz, hP, hE, hD0⟩ := hv
  have hx := B.exec
  have hb := B.bytes
  have hr := B.returns
  have hts := atoms_spec (ws := wsJ7_fill_53178) B.pre
  have hown : s.vm.findClass RJ7 = some m.cls := findClass_of_methodNamed B.named
  have hlocks := B.notSynchronized
  subst hsz
  have hD := hD0.self (sz := s.heap.size)
  generalize hAe : va_A (W_0 ct q_p1 N1 p1) s.heap.size = A at hD ⊢
  have hA : ∀ q : Nat, s.heap.size ≤ q → A q := fun q h => by rw [← hAe]; exact Or.inr h
  have hl := lv_entry ([.ref q_p1, .int p2]) (n := 4) (Nat.le_of_ble_eq_true rfl)
  rw [lg_entry_eq]
  generalize (lg_sl ([.ref q_p1, .int p2]) ++ List.replicate (4 - (lg_sl ([.ref q_p1, .int p2])).length) Slot.unset).toArray = ls at hl ⊢
  have hl : lv_has ls 4 [(0, .ref q_p1), (1, .int p2)] := hl
  have C0 : Cx RJ7 cJ7_fill_53178 4 none wsJ7_fill_53178 D ct A p s m ([.ref q_p1, .int p2]).toArray meth c := ⟨hx, hb, hml, hown, hts, hr, hlocks, hE, hA⟩
  have hS : ∀ H : Heap, s.heap = H → va_S A s.heap H [] := fun H h => h ▸ va_S.rf
  generalize hH : s.heap = H at hP ⊢
  have hS := hS H hH
  unfold FJ7_fill_53178 at hF
  refine lv_iconst (v := 0) hx hb dJ7_fill_53178_0 (by decide) ?_
  refine lv_istore_n (lv' := [(2, .int 0), (0, .ref q_p1), (1, .int p2)]) hx hb dJ7_fill_53178_1 rfl hl (by decide) rfl (fun ls hl => ?_)
  refine lv_aload_n hx hb dJ7_fill_53178_2 rfl (lv_at hl 1 rfl) ?_
  refine va_alen (v := Int32.ofNat N1) hx hb hE.1 hP 0 0 rfl rfl rfl dJ7_fill_53178_3 ?_
  refine lv_topi (fun x1 ex1 => ?_)
  have hF := bn_as ex1 hF
  refine lv_istore_n (lv' := [(3, .int x1), (2, .int 0), (0, .ref q_p1), (1, .int p2)]) hx hb dJ7_fill_53178_4 rfl hl (by decide) rfl (fun ls hl => ?_)
  exact lJ7_fill_53178_5 C0 n p1 p2 0 x1 _ _ _ hF hP hD hS (lv_sub hl [2, 3, 1, 0] rfl)
