theorem gcw9_X9_within : GoodIn CW9 wsX9_within := goodIn_sub (by decide +kernel) (by decide +kernel)
theorem gcw9_X6_settle : GoodIn CW9 wsX6_settle := goodIn_sub (by decide +kernel) (by decide +kernel)
theorem gcw9_X6_times : GoodIn CW9 wsX6_times := goodIn_sub (by decide +kernel) (by decide +kernel)
theorem gcw9_X3_windowsBelow : GoodIn CW9 wsX3_windowsBelow := goodIn_sub (by decide +kernel) (by decide +kernel)
/-- the cells at these places -/
def pick (ws : va_W) : List Nat → List (Option (Nat × va_E))
  | [] => []
  | i :: t => ws[i]? :: pick ws t
theorem pick_map {ws : va_W} : ∀ is : List Nat, pick ws is = is.map (fun i => ws[i]?)
  | [] => rfl
  | i :: t => by unfold pick; rw [pick_map t]; rfl
section XN
variable {p : Program} {l : Launch} {e : Env} {R : Room} {s : State} {m : MethodId} {args : Array Value} {below : List Frame} {meth : Method} {c : Code} {H : Heap} {locs : List Loc} {cells slots : Nat} {Q : State → Prop}
variable {D : va_G} {ws ws1 wc wc' : va_W} {A : Nat → Prop} {H0 : Heap} {a : Array Value} {pc : Nat} {ls : Array Slot} {st0 rest : List Value}
theorem xiN {r1 : Int32} (hr : va_Run p l e R s m args below meth c H locs cells slots 0 0 (F0 m pc ls st0) rest (va_Qi (fun r (_ : Unit) => r = r1) (fun _ t => va_P D vwCl wc' t.heap) (va_A wc H.size) a) (va_A wc H.size)) (hP : va_P D vwCl ws H) (hD : va_D A ws) (hS : va_S A H0 H locs) (hA : ∀ q, H0.size ≤ q → A q) (isC isR : List Nat) (n : Nat) (hC : isC.map (fun i => ws[i]?) = wc.map some) (h1 : isC.map (fun i => ws1[i]?) = wc'.map some) (h2 : isR.map (fun i => ws1[i]?) = pick ws isR) (hn : ws1.length = n) (h3 : ∀ k, k < n → k ∈ isC ∨ (k ∈ isR ∧ k ∉ isC)) (h4 : ws1.map Prod.fst = ws.map Prod.fst)
    (kk : ∀ (H1 : Heap) (locs1 : List Loc), va_P D vwCl ws1 H1 → va_D A ws1 → va_S A H0 H1 locs1 → W p l e R s m args below meth c H1 locs1 cells slots Q (F0 m (pc + 3) ls (.int r1 :: rest))) : W p l e R s m args below meth c H locs cells slots Q (F0 m pc ls st0) := by
  exact xiM hr hP hD hS hA isC isR n hC h1 (h2.trans (pick_map isR)) hn h3 h4 kk
theorem xlN {r1 : Int64} (hr : va_Run p l e R s m args below meth c H locs cells slots 0 0 (F0 m pc ls st0) rest (va_Ql (fun r (_ : Unit) => r = r1) (fun _ t => va_P D vwCl wc' t.heap) (va_A wc H.size) a) (va_A wc H.size)) (hP : va_P D vwCl ws H) (hD : va_D A ws) (hS : va_S A H0 H locs) (hA : ∀ q, H0.size ≤ q → A q) (isC isR : List Nat) (n : Nat) (hC : isC.map (fun i => ws[i]?) = wc.map some) (h1 : isC.map (fun i => ws1[i]?) = wc'.map some) (h2 : isR.map (fun i => ws1[i]?) = pick ws isR) (hn : ws1.length = n) (h3 : ∀ k, k < n → k ∈ isC ∨ (k ∈ isR ∧ k ∉ isC)) (h4 : ws1.map Prod.fst = ws.map Prod.fst)
    (kk : ∀ (H1 : Heap) (locs1 : List Loc), va_P D vwCl ws1 H1 → va_D A ws1 → va_S A H0 H1 locs1 → W p l e R s m args below meth c H1 locs1 cells slots Q (F0 m (pc + 3) ls (.long r1 :: rest))) : W p l e R s m args below meth c H locs cells slots Q (F0 m pc ls st0) := by
  exact xlM hr hP hD hS hA isC isR n hC h1 (h2.trans (pick_map isR)) hn h3 h4 kk
theorem xvN (hr : va_Run p l e R s m args below meth c H locs cells slots 0 0 (F0 m pc ls st0) rest (va_Qv (fun (_ : Unit) => True) (fun _ t => va_P D vwCl wc' t.heap) (va_A wc H.size) a) (va_A wc H.size)) (hP : va_P D vwCl ws H) (hD : va_D A ws) (hS : va_S A H0 H locs) (hA : ∀ q, H0.size ≤ q → A q) (isC isR : List Nat) (n : Nat) (hC : isC.map (fun i => ws[i]?) = wc.map some) (h1 : isC.map (fun i => ws1[i]?) = wc'.map some) (h2 : isR.map (fun i => ws1[i]?) = pick ws isR) (hn : ws1.length = n) (h3 : ∀ k, k < n → k ∈ isC ∨ (k ∈ isR ∧ k ∉ isC)) (h4 : ws1.map Prod.fst = ws.map Prod.fst)
    (kk : ∀ (H1 : Heap) (locs1 : List Loc), va_P D vwCl ws1 H1 → va_D A ws1 → va_S A H0 H1 locs1 → W p l e R s m args below meth c H1 locs1 cells slots Q (F0 m (pc + 3) ls rest)) : W p l e R s m args below meth c H locs cells slots Q (F0 m pc ls st0) := by
  exact xvM hr hP hD hS hA isC isR n hC h1 (h2.trans (pick_map isR)) hn h3 h4 kk
theorem xrN {ra : Nat} (hr : va_Run p l e R s m args below meth c H locs cells slots 0 0 (F0 m pc ls st0) rest (va_Qr (fun (_ : Unit) => True) (fun _ a0 t => a0 = ra ∧ va_P D vwCl wc' t.heap) (va_A wc H.size) a) (va_A wc H.size)) (hP : va_P D vwCl ws H) (hD : va_D A ws) (hS : va_S A H0 H locs) (hA : ∀ q, H0.size ≤ q → A q) (isC isR : List Nat) (n : Nat) (hC : isC.map (fun i => ws[i]?) = wc.map some) (h1 : isC.map (fun i => ws1[i]?) = wc'.map some) (h2 : isR.map (fun i => ws1[i]?) = pick ws isR) (hn : ws1.length = n) (h3 : ∀ k, k < n → k ∈ isC ∨ (k ∈ isR ∧ k ∉ isC)) (h4 : ws1.map Prod.fst = ws.map Prod.fst)
    (kk : ∀ (H1 : Heap) (locs1 : List Loc), va_P D vwCl ws1 H1 → va_D A ws1 → va_S A H0 H1 locs1 → W p l e R s m args below meth c H1 locs1 cells slots Q (F0 m (pc + 3) ls (.ref ra :: rest))) : W p l e R s m args below meth c H locs cells slots Q (F0 m pc ls st0) := by
  exact xrM hr hP hD hS hA isC isR n hC h1 (h2.trans (pick_map isR)) hn h3 h4 kk
end XN
set_option maxHeartbeats 4000000 in
set_option maxRecDepth 100000 in
theorem met_X9_demand_t (l : Launch) (D : va_G) (ct : Nat → ClassId) (adK adV : Nat → Nat) (hst : l.stackTraces = false) (q_t q_t_tracks q_t_reader q_t_reader_tape q_t_reader_tape_bytes q_t_ruling q_t_ruling_steps q_t_draft q_t_draft_steps q_t_trains q_t_trains_going q_t_windows q_t_windows_indices : Nat) (a0 a1 a2 : Nat → Nat) (sz : Nat) (t_endNow : Int32) (t_timesPublished : Int32) (t_reader_tape_bytes : Nat → Int32) (t_reader_tape_size : Int32) (t_reader_length : Int32) (t_reader_place : Int32) (t_reader_numberPlace : Int32) (t_reader_faultKind : Int32) (t_reader_faultPlace : Int32) (t_ruling_limit : Int32) (t_ruling_near : Int32) (t_ruling_share : Int32) (t_ruling_shareOf : Int32) (t_ruling_window : Int32) (t_ruling_storm : Int32) (t_ruling_steps : Nat → Int32) (t_ruling_stepCount : Int32) (t_ruling_clauses : Int32) (t_draft_limit : Int32) (t_draft_near : Int32) (t_draft_share : Int32) (t_draft_shareOf : Int32) (t_draft_window : Int32) (t_draft_storm : Int32) (t_draft_steps : Nat → Int32) (t_draft_stepCount : Int32) (t_draft_clauses : Int32) (t_trains_going : Nat → Int32) (t_trains_size : Int32) (t_windows_indices : Nat → Int32) (t_windows_size : Int32) (x0 x1 x2 : TS) (p1 : Int32) (n : Nat) (hF : FX9_demand_t n p1 = some ()) : Met l yX9_demand wvX9_demand ({ frames := 0, cells := 0, slots := 0, locals := 0 } : Room) (va_Pc [.int p1] (pre_ D ct sz [])) (va_Qv (fun (_ : Unit) => True) (fun _ t => va_P D vwCl [] t.heap) (va_A [] sz)) 0 0 (va_A [] sz) := by
  refine Met.ofW (cc := cX9_demand) (maxL := 1) (ret := none) (by decide) rfl ?_
  intro p e s m args below meth c s₁ B hml hv
  obtain ⟨rfl, hsz, hP, hE, hD0⟩ := hv
  have hx := B.exec
  have hb := B.bytes
  have hr := B.returns
  have hts := atoms_spec (ws := wvX9_demand) B.pre
  have hown : s.vm.findClass RX9 = some m.cls := findClass_of_methodNamed B.named
  have hlocks := B.notSynchronized
  subst hsz
  have hD := hD0.self (sz := s.heap.size)
  generalize hAe : va_A [] s.heap.size = A at hD ⊢
  have hA : ∀ q : Nat, s.heap.size ≤ q → A q := fun q h => by rw [← hAe]; exact Or.inr h
  have hl := lv_entry ([.int p1]) (n := 1) (Nat.le_of_ble_eq_true rfl)
  rw [lg_entry_eq]
  generalize (lg_sl ([.int p1]) ++ List.replicate (1 - (lg_sl ([.int p1])).length) Slot.unset).toArray = ls at hl ⊢
  have hl : lv_has ls 1 [(0, .int p1)] := hl
  have hS : ∀ H : Heap, s.heap = H → va_S A s.heap H [] := fun H h => h ▸ va_S.rf
  generalize hH : s.heap = H at hP ⊢
  have hS := hS H hH
  unfold FX9_demand_t at hF
  refine lv_iload_n hx hb dX9_demand_0 rfl (lv_at hl 0 rfl) ?_
  refine lv_if_ne (tgt := 15) hx hb dX9_demand_1 (by decide) (fun c1 => ?_) (fun c1 => ?_)
  · have hF := ifF c1 hF
    exact W.vret hx hb hr (fun t ht hW => ⟨⟨(), rfl, trivial, vaP_at ht hP⟩, hS.F ht⟩) hS.2.2 dX9_demand_15
  · have hF := ifT c1 hF
    exact nomatch hF
theorem m_X9_demand : ∀ w ∈ (vx_atS RX9 265 "java/lang/IllegalArgumentException" ["java/lang/RuntimeException", "java/lang/Exception"]).filter goodWord, w ∈ wvX9_demand := fun w h => List.mem_cons_of_mem _ (iCW9_xA w h)
set_option maxHeartbeats 4000000 in
set_option maxRecDepth 100000 in
theorem thr_X9_demand_x (l : Launch) (D : va_G) (ct : Nat → ClassId) (adK adV : Nat → Nat) (hst : l.stackTraces = false) (q_t q_t_tracks q_t_reader q_t_reader_tape q_t_reader_tape_bytes q_t_ruling q_t_ruling_steps q_t_draft q_t_draft_steps q_t_trains q_t_trains_going q_t_windows q_t_windows_indices : Nat) (a0 a1 a2 : Nat → Nat) (sz : Nat) (t_endNow : Int32) (t_timesPublished : Int32) (t_reader_tape_bytes : Nat → Int32) (t_reader_tape_size : Int32) (t_reader_length : Int32) (t_reader_place : Int32) (t_reader_numberPlace : Int32) (t_reader_faultKind : Int32) (t_reader_faultPlace : Int32) (t_ruling_limit : Int32) (t_ruling_near : Int32) (t_ruling_share : Int32) (t_ruling_shareOf : Int32) (t_ruling_window : Int32) (t_ruling_storm : Int32) (t_ruling_steps : Nat → Int32) (t_ruling_stepCount : Int32) (t_ruling_clauses : Int32) (t_draft_limit : Int32) (t_draft_near : Int32) (t_draft_share : Int32) (t_draft_shareOf : Int32) (t_draft_window : Int32) (t_draft_storm : Int32) (t_draft_steps : Nat → Int32) (t_draft_stepCount : Int32) (t_draft_clauses : Int32) (t_trains_going : Nat → Int32) (t_trains_size : Int32) (t_windows_indices : Nat → Int32) (t_windows_size : Int32) (x0 x1 x2 : TS) (n : Nat) (hF : TX9_demand_x n = some ()) : vx_Met l yX9_demand wvX9_demand ({ frames := 6, cells := 1, slots := 6, locals := 100 } : Room) (va_Pc [.int 0] (preX D ct sz [] adK adV)) (fun _ _ _ _ => False) (vx_X (fun (_ : Unit) => True) (fun E _ t => E = exA ∧ va_P D vwCl [] t.heap) (va_A [] sz)) 1 6 (va_A [] sz) := by
  refine vx_ofW (cc := cX9_demand) (maxL := 1) (ret := none) (by decide) rfl ?_
  intro p e s m args below meth c s₁ B hml hno hv
  obtain ⟨rfl, ⟨⟨hsz, hP, hE, hD0⟩, hSE⟩, hXE⟩ := hv
  have hx := B.exec
  have hb := B.bytes
  have hr := B.returns
  have hts := atoms_spec (ws := wvX9_demand) B.pre
  have hown : s.vm.findClass RX9 = some m.cls := findClass_of_methodNamed B.named
  have hlocks := B.notSynchronized
  subst hsz
  have hD := hD0.self (sz := s.heap.size)
  generalize hAe : va_A [] s.heap.size = A at hD hSE hXE ⊢
  have hA : ∀ q : Nat, s.heap.size ≤ q → A q := fun q h => by rw [← hAe]; exact Or.inr h
  have hl := lv_entry ([.int 0]) (n := 1) (Nat.le_of_ble_eq_true rfl)
  rw [lg_entry_eq]
  generalize (lg_sl ([.int 0]) ++ List.replicate (1 - (lg_sl ([.int 0])).length) Slot.unset).toArray = ls at hl ⊢
  have hl : lv_has ls 1 [(0, .int 0)] := hl
  have hS : ∀ H : Heap, s.heap = H → va_S A s.heap H [] := fun H h => h ▸ va_S.rf
  generalize hH : s.heap = H at hP ⊢
  have hS := hS H hH
  unfold TX9_demand_x at hF
  refine lv_iload_n hx hb dX9_demand_0 rfl (lv_at hl 0 rfl) ?_
  refine lv_if_ne (tgt := 15) hx hb dX9_demand_1 (by decide) (fun c1 => ?_) (fun c1 => ?_)
  · exact absurd c1 (by decide)
  · obtain ⟨qs, hqs⟩ := hXE.2.2.2.2.1
    refine vx_throwSW (cls := "java/lang/IllegalArgumentException") (names := ["java/lang/RuntimeException", "java/lang/Exception"]) hx hb hst hown (by decide +kernel) (by decide +kernel) (hts (.classLink RX9 261 "java/lang/IllegalArgumentException") (List.mem_cons_of_mem _ (List.mem_of_getElem? (i := 156) rfl))) (hts (.initialized "java/lang/IllegalArgumentException") (List.mem_cons_of_mem _ (List.mem_of_getElem? (i := 157) rfl))) hqs (vx_hat (B := [.declares (Bundle.initS "java/lang/RuntimeException"), .declares (Bundle.initS "java/lang/Exception"), .declares (Bundle.initS "java/lang/Throwable"), .castable "java/lang/IllegalArgumentException" "java/lang/IllegalArgumentException"]) (fun w hw => hts w (m_X9_demand w hw)) (by decide +kernel) (vx_c (va_Nw.use rfl hXE.2.2.2.2.2.1) (vx_c (va_Nw.use rfl hXE.2.2.2.2.2.2.1) (vx_c (va_Nw.use rfl hXE.2.2.2.2.2.2.2.1) (vx_c (va_Nw.use rfl hXE.2.2.2.2.2.2.2.2.2) vx_n))))) (by decide +kernel) hXE.1 hXE.2.1 hS (hl.1.trans hml.symm) dX9_demand_4 dX9_demand_7 dX9_demand_8 dX9_demand_11 dX9_demand_14 (fun x hx => (hno x hx).elim) (Nat.le_of_ble_eq_true rfl) (Nat.le_of_ble_eq_true rfl) (Nat.le_of_ble_eq_true rfl) (Nat.le_of_ble_eq_true rfl) hlocks (thr_x hP hS rfl) hS.2.2 (Nat.le_of_ble_eq_true rfl) (Nat.le_of_ble_eq_true rfl)
def W_58 (ct : Nat → ClassId) (a0 a1 a2 a3 a4 a5 a6 a7 a8 a9 a10 : Nat) (v0 : Int32) (v1 : Int32) : va_W := [(a0, .inr (9, [.ref a1, .ref a2, .ref a3, .ref a4, .ref a5, .ref a6, .ref a7, .int v0, .int v1])), (a1, .inl (ct 4, 3, .inr (.inr (.inr (.inr (trk a8 a9 a10))))))]
theorem i_X9_trackOf_X9 : ∀ w ∈ wsX90, w ∈ wvX9_trackOf := fun w h => List.mem_cons_of_mem _ (iCW9_X9 w h)
set_option maxHeartbeats 4000000 in
set_option maxRecDepth 100000 in
theorem met_X9_trackOf_0 (l : Launch) (D : va_G) (ct : Nat → ClassId) (adK adV : Nat → Nat) (hst : l.stackTraces = false) (q_t q_t_tracks q_t_reader q_t_reader_tape q_t_reader_tape_bytes q_t_ruling q_t_ruling_steps q_t_draft q_t_draft_steps q_t_trains q_t_trains_going q_t_windows q_t_windows_indices : Nat) (a0 a1 a2 : Nat → Nat) (sz : Nat) (t_endNow : Int32) (t_timesPublished : Int32) (t_reader_tape_bytes : Nat → Int32) (t_reader_tape_size : Int32) (t_reader_length : Int32) (t_reader_place : Int32) (t_reader_numberPlace : Int32) (t_reader_faultKind : Int32) (t_reader_faultPlace : Int32) (t_ruling_limit : Int32) (t_ruling_near : Int32) (t_ruling_share : Int32) (t_ruling_shareOf : Int32) (t_ruling_window : Int32) (t_ruling_storm : Int32) (t_ruling_steps : Nat → Int32) (t_ruling_stepCount : Int32) (t_ruling_clauses : Int32) (t_draft_limit : Int32) (t_draft_near : Int32) (t_draft_share : Int32) (t_draft_shareOf : Int32) (t_draft_window : Int32) (t_draft_storm : Int32) (t_draft_steps : Nat → Int32) (t_draft_stepCount : Int32) (t_draft_clauses : Int32) (t_trains_going : Nat → Int32) (t_trains_size : Int32) (t_windows_indices : Nat → Int32) (t_windows_size : Int32) (x0 x1 x2 : TS) (n : Nat) (hF : FX9_trackOf_0 n = some ()) : Met l yX9_trackOf wvX9_trackOf ({ frames := 0, cells := 0, slots := 0, locals := 0 } : Room) (va_Pc [.ref q_t, .int 0] (pre_ D ct sz (W_58 ct q_t q_t_tracks q_t_reader q_t_reader_tape q_t_ruling q_t_draft q_t_trains q_t_windows (a0 0) (a1 0) (a2 0) t_endNow t_timesPublished))) (va_Qr (fun (_ : Unit) => True) (fun _ aR t => aR = (a0 0) ∧ va_P D vwCl (W_58 ct q_t q_t_tracks q_t_reader q_t_reader_tape q_t_ruling q_t_draft q_t_trains q_t_windows (a0 0) (a1 0) (a2 0) t_endNow t_timesPublished) t.heap) (va_A (W_58 ct q_t q_t_tracks q_t_reader q_t_reader_tape q_t_ruling q_t_draft q_t_trains q_t_windows (a0 0) (a1 0) (a2 0) t_endNow t_timesPublished) sz)) 0 0 (va_A (W_58 ct q_t q_t_tracks q_t_reader q_t_reader_tape q_t_ruling q_t_draft q_t_trains q_t_windows (a0 0) (a1 0) (a2 0) t_endNow t_timesPublished) sz) := by
  refine Met.ofW (cc := cX9_trackOf) (maxL := 2) (ret := (some (.object "NeedleHouse$Track"))) (by decide) rfl ?_
  intro p e s m args below meth c s₁ B hml hv
  obtain ⟨rfl, hsz, hP, hE, hD0⟩ := hv
  have hx := B.exec
  have hb := B.bytes
  have hr := B.returns
  have hts := atoms_spec (ws := wvX9_trackOf) B.pre
  have hown : s.vm.findClass RX9 = some m.cls := findClass_of_methodNamed B.named
  have hlocks := B.notSynchronized
  subst hsz
  have hD := hD0.self (sz := s.heap.size)
  generalize hAe : va_A (W_58 ct q_t q_t_tracks q_t_reader q_t_reader_tape q_t_ruling q_t_draft q_t_trains q_t_windows (a0 0) (a1 0) (a2 0) t_endNow t_timesPublished) s.heap.size = A at hD ⊢
  have hA : ∀ q : Nat, s.heap.size ≤ q → A q := fun q h => by rw [← hAe]; exact Or.inr h
  have hl := lv_entry ([.ref q_t, .int 0]) (n := 2) (Nat.le_of_ble_eq_true rfl)
  rw [lg_entry_eq]
  generalize (lg_sl ([.ref q_t, .int 0]) ++ List.replicate (2 - (lg_sl ([.ref q_t, .int 0])).length) Slot.unset).toArray = ls at hl ⊢
  have hl : lv_has ls 2 [(0, .ref q_t), (1, .int 0)] := hl
  have hS : ∀ H : Heap, s.heap = H → va_S A s.heap H [] := fun H h => h ▸ va_S.rf
  generalize hH : s.heap = H at hP ⊢
  have hS := hS H hH
  unfold FX9_trackOf_0 at hF
  refine lv_iload_n hx hb dX9_trackOf_0 rfl (lv_at hl 1 rfl) ?_
  refine lv_if_lt (tgt := 13) hx hb dX9_trackOf_1 (by decide) (fun c1 => ?_) (fun c1 => ?_)
  · exact absurd c1 (by decide)
  · refine lv_iload_n hx hb dX9_trackOf_4 rfl (lv_at hl 1 rfl) ?_
    refine lv_aload_n hx hb dX9_trackOf_5 rfl (lv_at hl 0 rfl) ?_
    refine va_get (D := D) (ci := 9) (v := .ref q_t_tracks) (C := RX9) (T := TX9) (N := 9) hx hb hts i_X9_trackOf_X9 hown hE.1 hP 0 rfl rfl 0 (by decide) (hts (.fieldLink RX9 11 "NeedleHouse" "tracks" "[LNeedleHouse$Track;") (List.mem_cons_of_mem _ (List.mem_of_getElem? (i := 5) rfl))) (fun _ h9 => h9) rfl dX9_trackOf_6 ?_
    refine va_alen (v := 3) hx hb hE.1 hP 1 4 rfl rfl rfl dX9_trackOf_9 ?_
    refine lv_icmp_lt (tgt := 23) hx hb dX9_trackOf_10 (by decide) (fun c2 => ?_) (fun c2 => ?_)
    · refine lv_aload_n hx hb dX9_trackOf_23 rfl (lv_at hl 0 rfl) ?_
      refine va_get (D := D) (ci := 9) (v := .ref q_t_tracks) (C := RX9) (T := TX9) (N := 9) hx hb hts i_X9_trackOf_X9 hown hE.1 hP 0 rfl rfl 0 (by decide) (hts (.fieldLink RX9 11 "NeedleHouse" "tracks" "[LNeedleHouse$Track;") (List.mem_cons_of_mem _ (List.mem_of_getElem? (i := 5) rfl))) (fun _ h9 => h9) rfl dX9_trackOf_24 ?_
      refine lv_iload_n hx hb dX9_trackOf_27 rfl (lv_at hl 1 rfl) ?_
      refine va_aldq hx hb hE.1 hP 1 4 rfl rfl vp3_0 dX9_trackOf_28 ?_
      refine W.eq (g2 := F0 m 29 ls [.ref ((a0 0))]) rfl ?_
      exact W.aret hx hb hr (Or.inl ⟨_, rfl⟩) (Or.inr ⟨_, rfl⟩) (fun t ht hW => ⟨⟨(), _, rfl, trivial, rfl, vaP_at ht hP⟩, hS.F ht⟩) hS.2.2 dX9_trackOf_29
    · exact absurd c2 (by decide)
set_option maxHeartbeats 4000000 in
set_option maxRecDepth 100000 in
theorem met_X9_trackOf_1 (l : Launch) (D : va_G) (ct : Nat → ClassId) (adK adV : Nat → Nat) (hst : l.stackTraces = false) (q_t q_t_tracks q_t_reader q_t_reader_tape q_t_reader_tape_bytes q_t_ruling q_t_ruling_steps q_t_draft q_t_draft_steps q_t_trains q_t_trains_going q_t_windows q_t_windows_indices : Nat) (a0 a1 a2 : Nat → Nat) (sz : Nat) (t_endNow : Int32) (t_timesPublished : Int32) (t_reader_tape_bytes : Nat → Int32) (t_reader_tape_size : Int32) (t_reader_length : Int32) (t_reader_place : Int32) (t_reader_numberPlace : Int32) (t_reader_faultKind : Int32) (t_reader_faultPlace : Int32) (t_ruling_limit : Int32) (t_ruling_near : Int32) (t_ruling_share : Int32) (t_ruling_shareOf : Int32) (t_ruling_window : Int32) (t_ruling_storm : Int32) (t_ruling_steps : Nat → Int32) (t_ruling_stepCount : Int32) (t_ruling_clauses : Int32) (t_draft_limit : Int32) (t_draft_near : Int32) (t_draft_share : Int32) (t_draft_shareOf : Int32) (t_draft_window : Int32) (t_draft_storm : Int32) (t_draft_steps : Nat → Int32) (t_draft_stepCount : Int32) (t_draft_clauses : Int32) (t_trains_going : Nat → Int32) (t_trains_size : Int32) (t_windows_indices : Nat → Int32) (t_windows_size : Int32) (x0 x1 x2 : TS) (n : Nat) (hF : FX9_trackOf_1 n = some ()) : Met l yX9_trackOf wvX9_trackOf ({ frames := 0, cells := 0, slots := 0, locals := 0 } : Room) (va_Pc [.ref q_t, .int 1] (pre_ D ct sz (W_58 ct q_t q_t_tracks q_t_reader q_t_reader_tape q_t_ruling q_t_draft q_t_trains q_t_windows (a0 0) (a1 0) (a2 0) t_endNow t_timesPublished))) (va_Qr (fun (_ : Unit) => True) (fun _ aR t => aR = (a1 0) ∧ va_P D vwCl (W_58 ct q_t q_t_tracks q_t_reader q_t_reader_tape q_t_ruling q_t_draft q_t_trains q_t_windows (a0 0) (a1 0) (a2 0) t_endNow t_timesPublished) t.heap) (va_A (W_58 ct q_t q_t_tracks q_t_reader q_t_reader_tape q_t_ruling q_t_draft q_t_trains q_t_windows (a0 0) (a1 0) (a2 0) t_endNow t_timesPublished) sz)) 0 0 (va_A (W_58 ct q_t q_t_tracks q_t_reader q_t_reader_tape q_t_ruling q_t_draft q_t_trains q_t_windows (a0 0) (a1 0) (a2 0) t_endNow t_timesPublished) sz) := by
  refine Met.ofW (cc := cX9_trackOf) (maxL := 2) (ret := (some (.object "NeedleHouse$Track"))) (by decide) rfl ?_
  intro p e s m args below meth c s₁ B hml hv
  obtain ⟨rfl, hsz, hP, hE, hD0⟩ := hv
  have hx := B.exec
  have hb := B.bytes
  have hr := B.returns
  have hts := atoms_spec (ws := wvX9_trackOf) B.pre
  have hown : s.vm.findClass RX9 = some m.cls := findClass_of_methodNamed B.named
  have hlocks := B.notSynchronized
  subst hsz
  have hD := hD0.self (sz := s.heap.size)
  generalize hAe : va_A (W_58 ct q_t q_t_tracks q_t_reader q_t_reader_tape q_t_ruling q_t_draft q_t_trains q_t_windows (a0 0) (a1 0) (a2 0) t_endNow t_timesPublished) s.heap.size = A at hD ⊢
  have hA : ∀ q : Nat, s.heap.size ≤ q → A q := fun q h => by rw [← hAe]; exact Or.inr h
  have hl := lv_entry ([.ref q_t, .int 1]) (n := 2) (Nat.le_of_ble_eq_true rfl)
  rw [lg_entry_eq]
  generalize (lg_sl ([.ref q_t, .int 1]) ++ List.replicate (2 - (lg_sl ([.ref q_t, .int 1])).length) Slot.unset).toArray = ls at hl ⊢
  have hl : lv_has ls 2 [(0, .ref q_t), (1, .int 1)] := hl
  have hS : ∀ H : Heap, s.heap = H → va_S A s.heap H [] := fun H h => h ▸ va_S.rf
  generalize hH : s.heap = H at hP ⊢
  have hS := hS H hH
  unfold FX9_trackOf_1 at hF
  refine lv_iload_n hx hb dX9_trackOf_0 rfl (lv_at hl 1 rfl) ?_
  refine lv_if_lt (tgt := 13) hx hb dX9_trackOf_1 (by decide) (fun c1 => ?_) (fun c1 => ?_)
  · exact absurd c1 (by decide)
  · refine lv_iload_n hx hb dX9_trackOf_4 rfl (lv_at hl 1 rfl) ?_
    refine lv_aload_n hx hb dX9_trackOf_5 rfl (lv_at hl 0 rfl) ?_
    refine va_get (D := D) (ci := 9) (v := .ref q_t_tracks) (C := RX9) (T := TX9) (N := 9) hx hb hts i_X9_trackOf_X9 hown hE.1 hP 0 rfl rfl 0 (by decide) (hts (.fieldLink RX9 11 "NeedleHouse" "tracks" "[LNeedleHouse$Track;") (List.mem_cons_of_mem _ (List.mem_of_getElem? (i := 5) rfl))) (fun _ h9 => h9) rfl dX9_trackOf_6 ?_
    refine va_alen (v := 3) hx hb hE.1 hP 1 4 rfl rfl rfl dX9_trackOf_9 ?_
    refine lv_icmp_lt (tgt := 23) hx hb dX9_trackOf_10 (by decide) (fun c2 => ?_) (fun c2 => ?_)
    · refine lv_aload_n hx hb dX9_trackOf_23 rfl (lv_at hl 0 rfl) ?_
      refine va_get (D := D) (ci := 9) (v := .ref q_t_tracks) (C := RX9) (T := TX9) (N := 9) hx hb hts i_X9_trackOf_X9 hown hE.1 hP 0 rfl rfl 0 (by decide) (hts (.fieldLink RX9 11 "NeedleHouse" "tracks" "[LNeedleHouse$Track;") (List.mem_cons_of_mem _ (List.mem_of_getElem? (i := 5) rfl))) (fun _ h9 => h9) rfl dX9_trackOf_24 ?_
      refine lv_iload_n hx hb dX9_trackOf_27 rfl (lv_at hl 1 rfl) ?_
      refine va_aldq hx hb hE.1 hP 1 4 rfl rfl vp3_1 dX9_trackOf_28 ?_
      refine W.eq (g2 := F0 m 29 ls [.ref ((a1 0))]) rfl ?_
      exact W.aret hx hb hr (Or.inl ⟨_, rfl⟩) (Or.inr ⟨_, rfl⟩) (fun t ht hW => ⟨⟨(), _, rfl, trivial, rfl, vaP_at ht hP⟩, hS.F ht⟩) hS.2.2 dX9_trackOf_29
    · exact absurd c2 (by decide)
set_option maxHeartbeats 4000000 in
set_option maxRecDepth 100000 in
theorem met_X9_trackOf_2 (l : Launch) (D : va_G) (ct : Nat → ClassId) (adK adV : Nat → Nat) (hst : l.stackTraces = false) (q_t q_t_tracks q_t_reader q_t_reader_tape q_t_reader_tape_bytes q_t_ruling q_t_ruling_steps q_t_draft q_t_draft_steps q_t_trains q_t_trains_going q_t_windows q_t_windows_indices : Nat) (a0 a1 a2 : Nat → Nat) (sz : Nat) (t_endNow : Int32) (t_timesPublished : Int32) (t_reader_tape_bytes : Nat → Int32) (t_reader_tape_size : Int32) (t_reader_length : Int32) (t_reader_place : Int32) (t_reader_numberPlace : Int32) (t_reader_faultKind : Int32) (t_reader_faultPlace : Int32) (t_ruling_limit : Int32) (t_ruling_near : Int32) (t_ruling_share : Int32) (t_ruling_shareOf : Int32) (t_ruling_window : Int32) (t_ruling_storm : Int32) (t_ruling_steps : Nat → Int32) (t_ruling_stepCount : Int32) (t_ruling_clauses : Int32) (t_draft_limit : Int32) (t_draft_near : Int32) (t_draft_share : Int32) (t_draft_shareOf : Int32) (t_draft_window : Int32) (t_draft_storm : Int32) (t_draft_steps : Nat → Int32) (t_draft_stepCount : Int32) (t_draft_clauses : Int32) (t_trains_going : Nat → Int32) (t_trains_size : Int32) (t_windows_indices : Nat → Int32) (t_windows_size : Int32) (x0 x1 x2 : TS) (n : Nat) (hF : FX9_trackOf_2 n = some ()) : Met l yX9_trackOf wvX9_trackOf ({ frames := 0, cells := 0, slots := 0, locals := 0 } : Room) (va_Pc [.ref q_t, .int 2] (pre_ D ct sz (W_58 ct q_t q_t_tracks q_t_reader q_t_reader_tape q_t_ruling q_t_draft q_t_trains q_t_windows (a0 0) (a1 0) (a2 0) t_endNow t_timesPublished))) (va_Qr (fun (_ : Unit) => True) (fun _ aR t => aR = (a2 0) ∧ va_P D vwCl (W_58 ct q_t q_t_tracks q_t_reader q_t_reader_tape q_t_ruling q_t_draft q_t_trains q_t_windows (a0 0) (a1 0) (a2 0) t_endNow t_timesPublished) t.heap) (va_A (W_58 ct q_t q_t_tracks q_t_reader q_t_reader_tape q_t_ruling q_t_draft q_t_trains q_t_windows (a0 0) (a1 0) (a2 0) t_endNow t_timesPublished) sz)) 0 0 (va_A (W_58 ct q_t q_t_tracks q_t_reader q_t_reader_tape q_t_ruling q_t_draft q_t_trains q_t_windows (a0 0) (a1 0) (a2 0) t_endNow t_timesPublished) sz) := by
  refine Met.ofW (cc := cX9_trackOf) (maxL := 2) (ret := (some (.object "NeedleHouse$Track"))) (by decide) rfl ?_
  intro p e s m args below meth c s₁ B hml hv
  obtain ⟨rfl, hsz, hP, hE, hD0⟩ := hv
  have hx := B.exec
  have hb := B.bytes
  have hr := B.returns
  have hts := atoms_spec (ws := wvX9_trackOf) B.pre
  have hown : s.vm.findClass RX9 = some m.cls := findClass_of_methodNamed B.named
  have hlocks := B.notSynchronized
  subst hsz
  have hD := hD0.self (sz := s.heap.size)
  generalize hAe : va_A (W_58 ct q_t q_t_tracks q_t_reader q_t_reader_tape q_t_ruling q_t_draft q_t_trains q_t_windows (a0 0) (a1 0) (a2 0) t_endNow t_timesPublished) s.heap.size = A at hD ⊢
  have hA : ∀ q : Nat, s.heap.size ≤ q → A q := fun q h => by rw [← hAe]; exact Or.inr h
  have hl := lv_entry ([.ref q_t, .int 2]) (n := 2) (Nat.le_of_ble_eq_true rfl)
  rw [lg_entry_eq]
  generalize (lg_sl ([.ref q_t, .int 2]) ++ List.replicate (2 - (lg_sl ([.ref q_t, .int 2])).length) Slot.unset).toArray = ls at hl ⊢
  have hl : lv_has ls 2 [(0, .ref q_t), (1, .int 2)] := hl
  have hS : ∀ H : Heap, s.heap = H → va_S A s.heap H [] := fun H h => h ▸ va_S.rf
  generalize hH : s.heap = H at hP ⊢
  have hS := hS H hH
  unfold FX9_trackOf_2 at hF
  refine lv_iload_n hx hb dX9_trackOf_0 rfl (lv_at hl 1 rfl) ?_
  refine lv_if_lt (tgt := 13) hx hb dX9_trackOf_1 (by decide) (fun c1 => ?_) (fun c1 => ?_)
  · exact absurd c1 (by decide)
  · refine lv_iload_n hx hb dX9_trackOf_4 rfl (lv_at hl 1 rfl) ?_
    refine lv_aload_n hx hb dX9_trackOf_5 rfl (lv_at hl 0 rfl) ?_
    refine va_get (D := D) (ci := 9) (v := .ref q_t_tracks) (C := RX9) (T := TX9) (N := 9) hx hb hts i_X9_trackOf_X9 hown hE.1 hP 0 rfl rfl 0 (by decide) (hts (.fieldLink RX9 11 "NeedleHouse" "tracks" "[LNeedleHouse$Track;") (List.mem_cons_of_mem _ (List.mem_of_getElem? (i := 5) rfl))) (fun _ h9 => h9) rfl dX9_trackOf_6 ?_
    refine va_alen (v := 3) hx hb hE.1 hP 1 4 rfl rfl rfl dX9_trackOf_9 ?_
    refine lv_icmp_lt (tgt := 23) hx hb dX9_trackOf_10 (by decide) (fun c2 => ?_) (fun c2 => ?_)
    · refine lv_aload_n hx hb dX9_trackOf_23 rfl (lv_at hl 0 rfl) ?_
      refine va_get (D := D) (ci := 9) (v := .ref q_t_tracks) (C := RX9) (T := TX9) (N := 9) hx hb hts i_X9_trackOf_X9 hown hE.1 hP 0 rfl rfl 0 (by decide) (hts (.fieldLink RX9 11 "NeedleHouse" "tracks" "[LNeedleHouse$Track;") (List.mem_cons_of_mem _ (List.mem_of_getElem? (i := 5) rfl))) (fun _ h9 => h9) rfl dX9_trackOf_24 ?_
      refine lv_iload_n hx hb dX9_trackOf_27 rfl (lv_at hl 1 rfl) ?_
      refine va_aldq hx hb hE.1 hP 1 4 rfl rfl vp3_2 dX9_trackOf_28 ?_
      refine W.eq (g2 := F0 m 29 ls [.ref ((a2 0))]) rfl ?_
      exact W.aret hx hb hr (Or.inl ⟨_, rfl⟩) (Or.inr ⟨_, rfl⟩) (fun t ht hW => ⟨⟨(), _, rfl, trivial, rfl, vaP_at ht hP⟩, hS.F ht⟩) hS.2.2 dX9_trackOf_29
    · exact absurd c2 (by decide)
theorem m_X9_trackOf : ∀ w ∈ (vx_atS RX9 231 "java/lang/IndexOutOfBoundsException" ["java/lang/RuntimeException", "java/lang/Exception"]).filter goodWord, w ∈ wvX9_trackOf := fun w h => List.mem_cons_of_mem _ (iCW9_xI w h)
set_option maxHeartbeats 4000000 in
set_option maxRecDepth 100000 in
theorem thr_X9_trackOf_x (l : Launch) (D : va_G) (ct : Nat → ClassId) (adK adV : Nat → Nat) (hst : l.stackTraces = false) (q_t q_t_tracks q_t_reader q_t_reader_tape q_t_reader_tape_bytes q_t_ruling q_t_ruling_steps q_t_draft q_t_draft_steps q_t_trains q_t_trains_going q_t_windows q_t_windows_indices : Nat) (a0 a1 a2 : Nat → Nat) (sz : Nat) (t_endNow : Int32) (t_timesPublished : Int32) (t_reader_tape_bytes : Nat → Int32) (t_reader_tape_size : Int32) (t_reader_length : Int32) (t_reader_place : Int32) (t_reader_numberPlace : Int32) (t_reader_faultKind : Int32) (t_reader_faultPlace : Int32) (t_ruling_limit : Int32) (t_ruling_near : Int32) (t_ruling_share : Int32) (t_ruling_shareOf : Int32) (t_ruling_window : Int32) (t_ruling_storm : Int32) (t_ruling_steps : Nat → Int32) (t_ruling_stepCount : Int32) (t_ruling_clauses : Int32) (t_draft_limit : Int32) (t_draft_near : Int32) (t_draft_share : Int32) (t_draft_shareOf : Int32) (t_draft_window : Int32) (t_draft_storm : Int32) (t_draft_steps : Nat → Int32) (t_draft_stepCount : Int32) (t_draft_clauses : Int32) (t_trains_going : Nat → Int32) (t_trains_size : Int32) (t_windows_indices : Nat → Int32) (t_windows_size : Int32) (x0 x1 x2 : TS) (p1 : Int32) (n : Nat) (hF : TX9_trackOf_x n p1 = some ()) : vx_Met l yX9_trackOf wvX9_trackOf ({ frames := 6, cells := 1, slots := 6, locals := 100 } : Room) (va_Pc [.ref q_t, .int p1] (preX D ct sz (W_58 ct q_t q_t_tracks q_t_reader q_t_reader_tape q_t_ruling q_t_draft q_t_trains q_t_windows (a0 0) (a1 0) (a2 0) t_endNow t_timesPublished) adK adV)) (fun _ _ _ _ => False) (vx_X (fun (_ : Unit) => True) (fun E _ t => E = exI ∧ va_P D vwCl (W_58 ct q_t q_t_tracks q_t_reader q_t_reader_tape q_t_ruling q_t_draft q_t_trains q_t_windows (a0 0) (a1 0) (a2 0) t_endNow t_timesPublished) t.heap) (va_A (W_58 ct q_t q_t_tracks q_t_reader q_t_reader_tape q_t_ruling q_t_draft q_t_trains q_t_windows (a0 0) (a1 0) (a2 0) t_endNow t_timesPublished) sz)) 1 6 (va_A (W_58 ct q_t q_t_tracks q_t_reader q_t_reader_tape q_t_ruling q_t_draft q_t_trains q_t_windows (a0 0) (a1 0) (a2 0) t_endNow t_timesPublished) sz) := by
  refine vx_ofW (cc := cX9_trackOf) (maxL := 2) (ret := (some (.object "NeedleHouse$Track"))) (by decide) rfl ?_
  intro p e s m args below meth c s₁ B hml hno hv
  obtain ⟨rfl, ⟨⟨hsz, hP, hE, hD0⟩, hSE⟩, hXE⟩ := hv
  have hx := B.exec
  have hb := B.bytes
  have hr := B.returns
  have hts := atoms_spec (ws := wvX9_trackOf) B.pre
  have hown : s.vm.findClass RX9 = some m.cls := findClass_of_methodNamed B.named
  have hlocks := B.notSynchronized
  subst hsz
  have hD := hD0.self (sz := s.heap.size)
  generalize hAe : va_A (W_58 ct q_t q_t_tracks q_t_reader q_t_reader_tape q_t_ruling q_t_draft q_t_trains q_t_windows (a0 0) (a1 0) (a2 0) t_endNow t_timesPublished) s.heap.size = A at hD hSE hXE ⊢
  have hA : ∀ q : Nat, s.heap.size ≤ q → A q := fun q h => by rw [← hAe]; exact Or.inr h
  have hl := lv_entry ([.ref q_t, .int p1]) (n := 2) (Nat.le_of_ble_eq_true rfl)
  rw [lg_entry_eq]
  generalize (lg_sl ([.ref q_t, .int p1]) ++ List.replicate (2 - (lg_sl ([.ref q_t, .int p1])).length) Slot.unset).toArray = ls at hl ⊢
  have hl : lv_has ls 2 [(0, .ref q_t), (1, .int p1)] := hl
  have hS : ∀ H : Heap, s.heap = H → va_S A s.heap H [] := fun H h => h ▸ va_S.rf
  generalize hH : s.heap = H at hP ⊢
  have hS := hS H hH
  unfold TX9_trackOf_x at hF
  refine lv_iload_n hx hb dX9_trackOf_0 rfl (lv_at hl 1 rfl) ?_
  refine lv_if_lt (tgt := 13) hx hb dX9_trackOf_1 (by decide) (fun c1 => ?_) (fun c1 => ?_)
  · have hF := ifT c1 hF
    obtain ⟨qs, hqs⟩ := hXE.2.2.2.1
    refine vx_throwS (cls := "java/lang/IndexOutOfBoundsException") (names := ["java/lang/RuntimeException", "java/lang/Exception"]) hx hb hst hown (by decide +kernel) (by decide +kernel) (hts (.classLink RX9 227 "java/lang/IndexOutOfBoundsException") (List.mem_cons_of_mem _ (List.mem_of_getElem? (i := 146) rfl))) (hts (.initialized "java/lang/IndexOutOfBoundsException") (List.mem_cons_of_mem _ (List.mem_of_getElem? (i := 147) rfl))) hqs (vx_hat (B := [.declares (Bundle.initS "java/lang/RuntimeException"), .declares (Bundle.initS "java/lang/Exception"), .declares (Bundle.initS "java/lang/Throwable"), .castable "java/lang/IndexOutOfBoundsException" "java/lang/IndexOutOfBoundsException"]) (fun w hw => hts w (m_X9_trackOf w hw)) (by decide +kernel) (vx_c (va_Nw.use rfl hXE.2.2.2.2.2.1) (vx_c (va_Nw.use rfl hXE.2.2.2.2.2.2.1) (vx_c (va_Nw.use rfl hXE.2.2.2.2.2.2.2.1) (vx_c (va_Nw.use rfl hXE.2.2.2.2.2.2.2.2.1) vx_n))))) (by decide +kernel) hXE.1 hXE.2.1 hS (hl.1.trans hml.symm) dX9_trackOf_13 dX9_trackOf_16 dX9_trackOf_17 dX9_trackOf_19 dX9_trackOf_22 (fun x hx => (hno x hx).elim) (Nat.le_of_ble_eq_true rfl) (Nat.le_of_ble_eq_true rfl) (Nat.le_of_ble_eq_true rfl) (Nat.le_of_ble_eq_true rfl) hlocks (thr_x hP hS rfl) hS.2.2 (Nat.le_of_ble_eq_true rfl) (Nat.le_of_ble_eq_true rfl)
  · have hF := ifF c1 hF
    refine lv_iload_n hx hb dX9_trackOf_4 rfl (lv_at hl 1 rfl) ?_
    refine lv_aload_n hx hb dX9_trackOf_5 rfl (lv_at hl 0 rfl) ?_
    refine va_get (D := D) (ci := 9) (v := .ref q_t_tracks) (C := RX9) (T := TX9) (N := 9) hx hb hts i_X9_trackOf_X9 hown hE.1 hP 0 rfl rfl 0 (by decide) (hts (.fieldLink RX9 11 "NeedleHouse" "tracks" "[LNeedleHouse$Track;") (List.mem_cons_of_mem _ (List.mem_of_getElem? (i := 5) rfl))) (fun _ h9 => h9) rfl dX9_trackOf_6 ?_
    refine va_alen (v := 3) hx hb hE.1 hP 1 4 rfl rfl rfl dX9_trackOf_9 ?_
    refine lv_icmp_lt (tgt := 23) hx hb dX9_trackOf_10 (by decide) (fun c2 => ?_) (fun c2 => ?_)
    · have hF := ifT c2 hF
      refine lv_aload_n hx hb dX9_trackOf_23 rfl (lv_at hl 0 rfl) ?_
      refine va_get (D := D) (ci := 9) (v := .ref q_t_tracks) (C := RX9) (T := TX9) (N := 9) hx hb hts i_X9_trackOf_X9 hown hE.1 hP 0 rfl rfl 0 (by decide) (hts (.fieldLink RX9 11 "NeedleHouse" "tracks" "[LNeedleHouse$Track;") (List.mem_cons_of_mem _ (List.mem_of_getElem? (i := 5) rfl))) (fun _ h9 => h9) rfl dX9_trackOf_24 ?_
      refine lv_iload_n hx hb dX9_trackOf_27 rfl (lv_at hl 1 rfl) ?_
      exact nomatch hF
    · have hF := ifF c2 hF
      obtain ⟨qs, hqs⟩ := hXE.2.2.2.1
      refine vx_throwS (cls := "java/lang/IndexOutOfBoundsException") (names := ["java/lang/RuntimeException", "java/lang/Exception"]) hx hb hst hown (by decide +kernel) (by decide +kernel) (hts (.classLink RX9 227 "java/lang/IndexOutOfBoundsException") (List.mem_cons_of_mem _ (List.mem_of_getElem? (i := 146) rfl))) (hts (.initialized "java/lang/IndexOutOfBoundsException") (List.mem_cons_of_mem _ (List.mem_of_getElem? (i := 147) rfl))) hqs (vx_hat (B := [.declares (Bundle.initS "java/lang/RuntimeException"), .declares (Bundle.initS "java/lang/Exception"), .declares (Bundle.initS "java/lang/Throwable"), .castable "java/lang/IndexOutOfBoundsException" "java/lang/IndexOutOfBoundsException"]) (fun w hw => hts w (m_X9_trackOf w hw)) (by decide +kernel) (vx_c (va_Nw.use rfl hXE.2.2.2.2.2.1) (vx_c (va_Nw.use rfl hXE.2.2.2.2.2.2.1) (vx_c (va_Nw.use rfl hXE.2.2.2.2.2.2.2.1) (vx_c (va_Nw.use rfl hXE.2.2.2.2.2.2.2.2.1) vx_n))))) (by decide +kernel) hXE.1 hXE.2.1 hS (hl.1.trans hml.symm) dX9_trackOf_13 dX9_trackOf_16 dX9_trackOf_17 dX9_trackOf_19 dX9_trackOf_22 (fun x hx => (hno x hx).elim) (Nat.le_of_ble_eq_true rfl) (Nat.le_of_ble_eq_true rfl) (Nat.le_of_ble_eq_true rfl) (Nat.le_of_ble_eq_true rfl) hlocks (thr_x hP hS rfl) hS.2.2 (Nat.le_of_ble_eq_true rfl) (Nat.le_of_ble_eq_true rfl)
set_option maxHeartbeats 4000000 in
set_option maxRecDepth 100000 in
theorem met_X9_trackIn_0 (l : Launch) (D : va_G) (ct : Nat → ClassId) (adK adV : Nat → Nat) (hst : l.stackTraces = false) (q_t q_t_tracks q_t_reader q_t_reader_tape q_t_reader_tape_bytes q_t_ruling q_t_ruling_steps q_t_draft q_t_draft_steps q_t_trains q_t_trains_going q_t_windows q_t_windows_indices : Nat) (a0 a1 a2 : Nat → Nat) (sz : Nat) (t_endNow : Int32) (t_timesPublished : Int32) (t_reader_tape_bytes : Nat → Int32) (t_reader_tape_size : Int32) (t_reader_length : Int32) (t_reader_place : Int32) (t_reader_numberPlace : Int32) (t_reader_faultKind : Int32) (t_reader_faultPlace : Int32) (t_ruling_limit : Int32) (t_ruling_near : Int32) (t_ruling_share : Int32) (t_ruling_shareOf : Int32) (t_ruling_window : Int32) (t_ruling_storm : Int32) (t_ruling_steps : Nat → Int32) (t_ruling_stepCount : Int32) (t_ruling_clauses : Int32) (t_draft_limit : Int32) (t_draft_near : Int32) (t_draft_share : Int32) (t_draft_shareOf : Int32) (t_draft_window : Int32) (t_draft_storm : Int32) (t_draft_steps : Nat → Int32) (t_draft_stepCount : Int32) (t_draft_clauses : Int32) (t_trains_going : Nat → Int32) (t_trains_size : Int32) (t_windows_indices : Nat → Int32) (t_windows_size : Int32) (x0 x1 x2 : TS) (p1 : Int32) (n : Nat) (hF : FX9_trackIn_0 n p1 = some ()) : Met l yX9_trackIn wvX9_trackIn ({ frames := 1, cells := 0, slots := 0, locals := 22 } : Room) (va_Pc [.ref q_t, .int p1, .int 0] (pre_ D ct sz (W_58 ct q_t q_t_tracks q_t_reader q_t_reader_tape q_t_ruling q_t_draft q_t_trains q_t_windows (a0 0) (a1 0) (a2 0) t_endNow t_timesPublished))) (va_Qr (fun (_ : Unit) => True) (fun _ aR t => aR = (a0 0) ∧ va_P D vwCl (W_58 ct q_t q_t_tracks q_t_reader q_t_reader_tape q_t_ruling q_t_draft q_t_trains q_t_windows (a0 0) (a1 0) (a2 0) t_endNow t_timesPublished) t.heap) (va_A (W_58 ct q_t q_t_tracks q_t_reader q_t_reader_tape q_t_ruling q_t_draft q_t_trains q_t_windows (a0 0) (a1 0) (a2 0) t_endNow t_timesPublished) sz)) 0 0 (va_A (W_58 ct q_t q_t_tracks q_t_reader q_t_reader_tape q_t_ruling q_t_draft q_t_trains q_t_windows (a0 0) (a1 0) (a2 0) t_endNow t_timesPublished) sz) := by
  refine Met.ofW (cc := cX9_trackIn) (maxL := 3) (ret := (some (.object "NeedleHouse$Track"))) (by decide) rfl ?_
  intro p e s m args below meth c s₁ B hml hv
  obtain ⟨rfl, hsz, hP, hE, hD0⟩ := hv
  have hx := B.exec
  have hb := B.bytes
  have hr := B.returns
  have hts := atoms_spec (ws := wvX9_trackIn) B.pre
  have hown : s.vm.findClass RX9 = some m.cls := findClass_of_methodNamed B.named
  have hlocks := B.notSynchronized
  subst hsz
  have hD := hD0.self (sz := s.heap.size)
  generalize hAe : va_A (W_58 ct q_t q_t_tracks q_t_reader q_t_reader_tape q_t_ruling q_t_draft q_t_trains q_t_windows (a0 0) (a1 0) (a2 0) t_endNow t_timesPublished) s.heap.size = A at hD ⊢
  have hA : ∀ q : Nat, s.heap.size ≤ q → A q := fun q h => by rw [← hAe]; exact Or.inr h
  have hl := lv_entry ([.ref q_t, .int p1, .int 0]) (n := 3) (Nat.le_of_ble_eq_true rfl)
  rw [lg_entry_eq]
  generalize (lg_sl ([.ref q_t, .int p1, .int 0]) ++ List.replicate (3 - (lg_sl ([.ref q_t, .int p1, .int 0])).length) Slot.unset).toArray = ls at hl ⊢
  have hl : lv_has ls 3 [(0, .ref q_t), (1, .int p1), (2, .int 0)] := hl
  have hS : ∀ H : Heap, s.heap = H → va_S A s.heap H [] := fun H h => h ▸ va_S.rf
  generalize hH : s.heap = H at hP ⊢
  have hS := hS H hH
  unfold FX9_trackIn_0 at hF
  refine lv_iload_n hx hb dX9_trackIn_0 rfl (lv_at hl 1 rfl) ?_
  refine lv_iconst (v := 0) hx hb dX9_trackIn_1 (by decide) ?_
  refine lv_iconst (v := 1) hx hb dX9_trackIn_2 (by decide) ?_
  obtain ⟨r1, h2, hF⟩ := ob1_ex hF
  refine xiR (va_runS (As := [.int p1, .int 0, .int 1]) (rest := []) ⟨hx, hb, hml, hown, hts⟩ (met_X9_within l D ct H.size p1 0 1 n r1 h2) (va_cwS 3 hts (gqS CW9_good (List.mem_of_getElem? (i := 149) rfl) (List.mem_of_getElem? (i := 150) rfl) (List.mem_of_getElem? (i := 151) rfl) gcw9_X9_within) rfl rfl rfl (by decide +kernel) ⟨Nat.le_of_ble_eq_true rfl, Nat.le_of_ble_eq_true rfl⟩) ⟨blind_, mkpre_ hE (hP.sub [] rfl) (hD.sub [] (by decide) rfl)⟩ rfl rfl hl.1 rfl (lv_room (Nat.le_of_ble_eq_true rfl)) dX9_trackIn_3 ⟨Nat.le_of_ble_eq_true rfl, Nat.le_of_ble_eq_true rfl⟩) hP hD hS hA [] rfl (fun H locs hP hD hS => ?_)
  refine lv_if_ne (tgt := 19) hx hb dX9_trackIn_6 (by decide) (fun c3 => ?_) (fun c3 => ?_)
  · have hF := ifF c3 hF
    refine lv_aload_n hx hb dX9_trackIn_19 rfl (lv_at hl 0 rfl) ?_
    refine lv_iload_n hx hb dX9_trackIn_20 rfl (lv_at hl 2 rfl) ?_
    obtain ⟨u0, h4, hF⟩ := ob1_ex hF
    refine xrR (va_runV (As := [.int 0]) (rest := []) ⟨hx, hb, hml, hown, hts⟩ (met_X9_trackOf_0 l D ct adK adV hst q_t q_t_tracks q_t_reader q_t_reader_tape q_t_reader_tape_bytes q_t_ruling q_t_ruling_steps q_t_draft q_t_draft_steps q_t_trains q_t_trains_going q_t_windows q_t_windows_indices a0 a1 a2 H.size t_endNow t_timesPublished t_reader_tape_bytes t_reader_tape_size t_reader_length t_reader_place t_reader_numberPlace t_reader_faultKind t_reader_faultPlace t_ruling_limit t_ruling_near t_ruling_share t_ruling_shareOf t_ruling_window t_ruling_storm t_ruling_steps t_ruling_stepCount t_ruling_clauses t_draft_limit t_draft_near t_draft_share t_draft_shareOf t_draft_window t_draft_storm t_draft_steps t_draft_stepCount t_draft_clauses t_trains_going t_trains_size t_windows_indices t_windows_size x0 x1 x2 n h4) (cwV 1 hts (gqV CW9_good (List.mem_of_getElem? (i := 152) rfl) (List.mem_of_getElem? (i := 153) rfl) (List.mem_of_getElem? (i := 154) rfl) (List.mem_of_getElem? (i := 151) rfl) (gself CW9_good (List.mem_of_getElem? (i := 145) rfl))) rfl rfl rfl (by decide +kernel) ⟨Nat.le_of_ble_eq_true rfl, Nat.le_of_ble_eq_true rfl⟩) ⟨blind_, va_recv hE.1 hP (ci := 9) (q0 := 0) rfl rfl, mkpre_ hE hP hD⟩ rfl rfl hl.1 rfl (lv_room (Nat.le_of_ble_eq_true rfl)) dX9_trackIn_21 ⟨Nat.le_of_ble_eq_true rfl, Nat.le_of_ble_eq_true rfl⟩) hP hD hS hA [0, 1] rfl (fun H locs hP hD hS => ?_)
    exact W.aret hx hb hr (Or.inl ⟨_, rfl⟩) (Or.inr ⟨_, rfl⟩) (fun t ht hW => ⟨⟨(), _, rfl, trivial, rfl, vaP_at ht hP⟩, hS.F ht⟩) hS.2.2 dX9_trackIn_24
  · have hF := ifT c3 hF
    exact nomatch hF
set_option maxHeartbeats 4000000 in
set_option maxRecDepth 100000 in
theorem met_X9_trackIn_1 (l : Launch) (D : va_G) (ct : Nat → ClassId) (adK adV : Nat → Nat) (hst : l.stackTraces = false) (q_t q_t_tracks q_t_reader q_t_reader_tape q_t_reader_tape_bytes q_t_ruling q_t_ruling_steps q_t_draft q_t_draft_steps q_t_trains q_t_trains_going q_t_windows q_t_windows_indices : Nat) (a0 a1 a2 : Nat → Nat) (sz : Nat) (t_endNow : Int32) (t_timesPublished : Int32) (t_reader_tape_bytes : Nat → Int32) (t_reader_tape_size : Int32) (t_reader_length : Int32) (t_reader_place : Int32) (t_reader_numberPlace : Int32) (t_reader_faultKind : Int32) (t_reader_faultPlace : Int32) (t_ruling_limit : Int32) (t_ruling_near : Int32) (t_ruling_share : Int32) (t_ruling_shareOf : Int32) (t_ruling_window : Int32) (t_ruling_storm : Int32) (t_ruling_steps : Nat → Int32) (t_ruling_stepCount : Int32) (t_ruling_clauses : Int32) (t_draft_limit : Int32) (t_draft_near : Int32) (t_draft_share : Int32) (t_draft_shareOf : Int32) (t_draft_window : Int32) (t_draft_storm : Int32) (t_draft_steps : Nat → Int32) (t_draft_stepCount : Int32) (t_draft_clauses : Int32) (t_trains_going : Nat → Int32) (t_trains_size : Int32) (t_windows_indices : Nat → Int32) (t_windows_size : Int32) (x0 x1 x2 : TS) (p1 : Int32) (n : Nat) (hF : FX9_trackIn_1 n p1 = some ()) : Met l yX9_trackIn wvX9_trackIn ({ frames := 1, cells := 0, slots := 0, locals := 22 } : Room) (va_Pc [.ref q_t, .int p1, .int 1] (pre_ D ct sz (W_58 ct q_t q_t_tracks q_t_reader q_t_reader_tape q_t_ruling q_t_draft q_t_trains q_t_windows (a0 0) (a1 0) (a2 0) t_endNow t_timesPublished))) (va_Qr (fun (_ : Unit) => True) (fun _ aR t => aR = (a1 0) ∧ va_P D vwCl (W_58 ct q_t q_t_tracks q_t_reader q_t_reader_tape q_t_ruling q_t_draft q_t_trains q_t_windows (a0 0) (a1 0) (a2 0) t_endNow t_timesPublished) t.heap) (va_A (W_58 ct q_t q_t_tracks q_t_reader q_t_reader_tape q_t_ruling q_t_draft q_t_trains q_t_windows (a0 0) (a1 0) (a2 0) t_endNow t_timesPublished) sz)) 0 0 (va_A (W_58 ct q_t q_t_tracks q_t_reader q_t_reader_tape q_t_ruling q_t_draft q_t_trains q_t_windows (a0 0) (a1 0) (a2 0) t_endNow t_timesPublished) sz) := by
  refine Met.ofW (cc := cX9_trackIn) (maxL := 3) (ret := (some (.object "NeedleHouse$Track"))) (by decide) rfl ?_
  intro p e s m args below meth c s₁ B hml hv
  obtain ⟨rfl, hsz, hP, hE, hD0⟩ := hv
  have hx := B.exec
  have hb := B.bytes
  have hr := B.returns
  have hts := atoms_spec (ws := wvX9_trackIn) B.pre
  have hown : s.vm.findClass RX9 = some m.cls := findClass_of_methodNamed B.named
  have hlocks := B.notSynchronized
  subst hsz
  have hD := hD0.self (sz := s.heap.size)
  generalize hAe : va_A (W_58 ct q_t q_t_tracks q_t_reader q_t_reader_tape q_t_ruling q_t_draft q_t_trains q_t_windows (a0 0) (a1 0) (a2 0) t_endNow t_timesPublished) s.heap.size = A at hD ⊢
  have hA : ∀ q : Nat, s.heap.size ≤ q → A q := fun q h => by rw [← hAe]; exact Or.inr h
  have hl := lv_entry ([.ref q_t, .int p1, .int 1]) (n := 3) (Nat.le_of_ble_eq_true rfl)
  rw [lg_entry_eq]
  generalize (lg_sl ([.ref q_t, .int p1, .int 1]) ++ List.replicate (3 - (lg_sl ([.ref q_t, .int p1, .int 1])).length) Slot.unset).toArray = ls at hl ⊢
  have hl : lv_has ls 3 [(0, .ref q_t), (1, .int p1), (2, .int 1)] := hl
  have hS : ∀ H : Heap, s.heap = H → va_S A s.heap H [] := fun H h => h ▸ va_S.rf
  generalize hH : s.heap = H at hP ⊢
  have hS := hS H hH
  unfold FX9_trackIn_1 at hF
  refine lv_iload_n hx hb dX9_trackIn_0 rfl (lv_at hl 1 rfl) ?_
  refine lv_iconst (v := 0) hx hb dX9_trackIn_1 (by decide) ?_
  refine lv_iconst (v := 1) hx hb dX9_trackIn_2 (by decide) ?_
  obtain ⟨r1, h2, hF⟩ := ob1_ex hF
  refine xiR (va_runS (As := [.int p1, .int 0, .int 1]) (rest := []) ⟨hx, hb, hml, hown, hts⟩ (met_X9_within l D ct H.size p1 0 1 n r1 h2) (va_cwS 3 hts (gqS CW9_good (List.mem_of_getElem? (i := 149) rfl) (List.mem_of_getElem? (i := 150) rfl) (List.mem_of_getElem? (i := 151) rfl) gcw9_X9_within) rfl rfl rfl (by decide +kernel) ⟨Nat.le_of_ble_eq_true rfl, Nat.le_of_ble_eq_true rfl⟩) ⟨blind_, mkpre_ hE (hP.sub [] rfl) (hD.sub [] (by decide) rfl)⟩ rfl rfl hl.1 rfl (lv_room (Nat.le_of_ble_eq_true rfl)) dX9_trackIn_3 ⟨Nat.le_of_ble_eq_true rfl, Nat.le_of_ble_eq_true rfl⟩) hP hD hS hA [] rfl (fun H locs hP hD hS => ?_)
  refine lv_if_ne (tgt := 19) hx hb dX9_trackIn_6 (by decide) (fun c3 => ?_) (fun c3 => ?_)
  · have hF := ifF c3 hF
    refine lv_aload_n hx hb dX9_trackIn_19 rfl (lv_at hl 0 rfl) ?_
    refine lv_iload_n hx hb dX9_trackIn_20 rfl (lv_at hl 2 rfl) ?_
    obtain ⟨u0, h4, hF⟩ := ob1_ex hF
    refine xrR (va_runV (As := [.int 1]) (rest := []) ⟨hx, hb, hml, hown, hts⟩ (met_X9_trackOf_1 l D ct adK adV hst q_t q_t_tracks q_t_reader q_t_reader_tape q_t_reader_tape_bytes q_t_ruling q_t_ruling_steps q_t_draft q_t_draft_steps q_t_trains q_t_trains_going q_t_windows q_t_windows_indices a0 a1 a2 H.size t_endNow t_timesPublished t_reader_tape_bytes t_reader_tape_size t_reader_length t_reader_place t_reader_numberPlace t_reader_faultKind t_reader_faultPlace t_ruling_limit t_ruling_near t_ruling_share t_ruling_shareOf t_ruling_window t_ruling_storm t_ruling_steps t_ruling_stepCount t_ruling_clauses t_draft_limit t_draft_near t_draft_share t_draft_shareOf t_draft_window t_draft_storm t_draft_steps t_draft_stepCount t_draft_clauses t_trains_going t_trains_size t_windows_indices t_windows_size x0 x1 x2 n h4) (cwV 1 hts (gqV CW9_good (List.mem_of_getElem? (i := 152) rfl) (List.mem_of_getElem? (i := 153) rfl) (List.mem_of_getElem? (i := 154) rfl) (List.mem_of_getElem? (i := 151) rfl) (gself CW9_good (List.mem_of_getElem? (i := 145) rfl))) rfl rfl rfl (by decide +kernel) ⟨Nat.le_of_ble_eq_true rfl, Nat.le_of_ble_eq_true rfl⟩) ⟨blind_, va_recv hE.1 hP (ci := 9) (q0 := 0) rfl rfl, mkpre_ hE hP hD⟩ rfl rfl hl.1 rfl (lv_room (Nat.le_of_ble_eq_true rfl)) dX9_trackIn_21 ⟨Nat.le_of_ble_eq_true rfl, Nat.le_of_ble_eq_true rfl⟩) hP hD hS hA [0, 1] rfl (fun H locs hP hD hS => ?_)
    exact W.aret hx hb hr (Or.inl ⟨_, rfl⟩) (Or.inr ⟨_, rfl⟩) (fun t ht hW => ⟨⟨(), _, rfl, trivial, rfl, vaP_at ht hP⟩, hS.F ht⟩) hS.2.2 dX9_trackIn_24
  · have hF := ifT c3 hF
    exact nomatch hF
set_option maxHeartbeats 4000000 in
set_option maxRecDepth 100000 in
theorem met_X9_trackIn_2 (l : Launch) (D : va_G) (ct : Nat → ClassId) (adK adV : Nat → Nat) (hst : l.stackTraces = false) (q_t q_t_tracks q_t_reader q_t_reader_tape q_t_reader_tape_bytes q_t_ruling q_t_ruling_steps q_t_draft q_t_draft_steps q_t_trains q_t_trains_going q_t_windows q_t_windows_indices : Nat) (a0 a1 a2 : Nat → Nat) (sz : Nat) (t_endNow : Int32) (t_timesPublished : Int32) (t_reader_tape_bytes : Nat → Int32) (t_reader_tape_size : Int32) (t_reader_length : Int32) (t_reader_place : Int32) (t_reader_numberPlace : Int32) (t_reader_faultKind : Int32) (t_reader_faultPlace : Int32) (t_ruling_limit : Int32) (t_ruling_near : Int32) (t_ruling_share : Int32) (t_ruling_shareOf : Int32) (t_ruling_window : Int32) (t_ruling_storm : Int32) (t_ruling_steps : Nat → Int32) (t_ruling_stepCount : Int32) (t_ruling_clauses : Int32) (t_draft_limit : Int32) (t_draft_near : Int32) (t_draft_share : Int32) (t_draft_shareOf : Int32) (t_draft_window : Int32) (t_draft_storm : Int32) (t_draft_steps : Nat → Int32) (t_draft_stepCount : Int32) (t_draft_clauses : Int32) (t_trains_going : Nat → Int32) (t_trains_size : Int32) (t_windows_indices : Nat → Int32) (t_windows_size : Int32) (x0 x1 x2 : TS) (p1 : Int32) (n : Nat) (hF : FX9_trackIn_2 n p1 = some ()) : Met l yX9_trackIn wvX9_trackIn ({ frames := 1, cells := 0, slots := 0, locals := 22 } : Room) (va_Pc [.ref q_t, .int p1, .int 2] (pre_ D ct sz (W_58 ct q_t q_t_tracks q_t_reader q_t_reader_tape q_t_ruling q_t_draft q_t_trains q_t_windows (a0 0) (a1 0) (a2 0) t_endNow t_timesPublished))) (va_Qr (fun (_ : Unit) => True) (fun _ aR t => aR = (a2 0) ∧ va_P D vwCl (W_58 ct q_t q_t_tracks q_t_reader q_t_reader_tape q_t_ruling q_t_draft q_t_trains q_t_windows (a0 0) (a1 0) (a2 0) t_endNow t_timesPublished) t.heap) (va_A (W_58 ct q_t q_t_tracks q_t_reader q_t_reader_tape q_t_ruling q_t_draft q_t_trains q_t_windows (a0 0) (a1 0) (a2 0) t_endNow t_timesPublished) sz)) 0 0 (va_A (W_58 ct q_t q_t_tracks q_t_reader q_t_reader_tape q_t_ruling q_t_draft q_t_trains q_t_windows (a0 0) (a1 0) (a2 0) t_endNow t_timesPublished) sz) := by
  refine Met.ofW (cc := cX9_trackIn) (maxL := 3) (ret := (some (.object "NeedleHouse$Track"))) (by decide) rfl ?_
  intro p e s m args below meth c s₁ B hml hv
  obtain ⟨rfl, hsz, hP, hE, hD0⟩ := hv
  have hx := B.exec
  have hb := B.bytes
  have hr := B.returns
  have hts := atoms_spec (ws := wvX9_trackIn) B.pre
  have hown : s.vm.findClass RX9 = some m.cls := findClass_of_methodNamed B.named
  have hlocks := B.notSynchronized
  subst hsz
  have hD := hD0.self (sz := s.heap.size)
  generalize hAe : va_A (W_58 ct q_t q_t_tracks q_t_reader q_t_reader_tape q_t_ruling q_t_draft q_t_trains q_t_windows (a0 0) (a1 0) (a2 0) t_endNow t_timesPublished) s.heap.size = A at hD ⊢
  have hA : ∀ q : Nat, s.heap.size ≤ q → A q := fun q h => by rw [← hAe]; exact Or.inr h
  have hl := lv_entry ([.ref q_t, .int p1, .int 2]) (n := 3) (Nat.le_of_ble_eq_true rfl)
  rw [lg_entry_eq]
  generalize (lg_sl ([.ref q_t, .int p1, .int 2]) ++ List.replicate (3 - (lg_sl ([.ref q_t, .int p1, .int 2])).length) Slot.unset).toArray = ls at hl ⊢
  have hl : lv_has ls 3 [(0, .ref q_t), (1, .int p1), (2, .int 2)] := hl
  have hS : ∀ H : Heap, s.heap = H → va_S A s.heap H [] := fun H h => h ▸ va_S.rf
  generalize hH : s.heap = H at hP ⊢
  have hS := hS H hH
  unfold FX9_trackIn_2 at hF
  refine lv_iload_n hx hb dX9_trackIn_0 rfl (lv_at hl 1 rfl) ?_
  refine lv_iconst (v := 0) hx hb dX9_trackIn_1 (by decide) ?_
  refine lv_iconst (v := 1) hx hb dX9_trackIn_2 (by decide) ?_
  obtain ⟨r1, h2, hF⟩ := ob1_ex hF
  refine xiR (va_runS (As := [.int p1, .int 0, .int 1]) (rest := []) ⟨hx, hb, hml, hown, hts⟩ (met_X9_within l D ct H.size p1 0 1 n r1 h2) (va_cwS 3 hts (gqS CW9_good (List.mem_of_getElem? (i := 149) rfl) (List.mem_of_getElem? (i := 150) rfl) (List.mem_of_getElem? (i := 151) rfl) gcw9_X9_within) rfl rfl rfl (by decide +kernel) ⟨Nat.le_of_ble_eq_true rfl, Nat.le_of_ble_eq_true rfl⟩) ⟨blind_, mkpre_ hE (hP.sub [] rfl) (hD.sub [] (by decide) rfl)⟩ rfl rfl hl.1 rfl (lv_room (Nat.le_of_ble_eq_true rfl)) dX9_trackIn_3 ⟨Nat.le_of_ble_eq_true rfl, Nat.le_of_ble_eq_true rfl⟩) hP hD hS hA [] rfl (fun H locs hP hD hS => ?_)
  refine lv_if_ne (tgt := 19) hx hb dX9_trackIn_6 (by decide) (fun c3 => ?_) (fun c3 => ?_)
  · have hF := ifF c3 hF
    refine lv_aload_n hx hb dX9_trackIn_19 rfl (lv_at hl 0 rfl) ?_
    refine lv_iload_n hx hb dX9_trackIn_20 rfl (lv_at hl 2 rfl) ?_
    obtain ⟨u0, h4, hF⟩ := ob1_ex hF
    refine xrR (va_runV (As := [.int 2]) (rest := []) ⟨hx, hb, hml, hown, hts⟩ (met_X9_trackOf_2 l D ct adK adV hst q_t q_t_tracks q_t_reader q_t_reader_tape q_t_reader_tape_bytes q_t_ruling q_t_ruling_steps q_t_draft q_t_draft_steps q_t_trains q_t_trains_going q_t_windows q_t_windows_indices a0 a1 a2 H.size t_endNow t_timesPublished t_reader_tape_bytes t_reader_tape_size t_reader_length t_reader_place t_reader_numberPlace t_reader_faultKind t_reader_faultPlace t_ruling_limit t_ruling_near t_ruling_share t_ruling_shareOf t_ruling_window t_ruling_storm t_ruling_steps t_ruling_stepCount t_ruling_clauses t_draft_limit t_draft_near t_draft_share t_draft_shareOf t_draft_window t_draft_storm t_draft_steps t_draft_stepCount t_draft_clauses t_trains_going t_trains_size t_windows_indices t_windows_size x0 x1 x2 n h4) (cwV 1 hts (gqV CW9_good (List.mem_of_getElem? (i := 152) rfl) (List.mem_of_getElem? (i := 153) rfl) (List.mem_of_getElem? (i := 154) rfl) (List.mem_of_getElem? (i := 151) rfl) (gself CW9_good (List.mem_of_getElem? (i := 145) rfl))) rfl rfl rfl (by decide +kernel) ⟨Nat.le_of_ble_eq_true rfl, Nat.le_of_ble_eq_true rfl⟩) ⟨blind_, va_recv hE.1 hP (ci := 9) (q0 := 0) rfl rfl, mkpre_ hE hP hD⟩ rfl rfl hl.1 rfl (lv_room (Nat.le_of_ble_eq_true rfl)) dX9_trackIn_21 ⟨Nat.le_of_ble_eq_true rfl, Nat.le_of_ble_eq_true rfl⟩) hP hD hS hA [0, 1] rfl (fun H locs hP hD hS => ?_)
    exact W.aret hx hb hr (Or.inl ⟨_, rfl⟩) (Or.inr ⟨_, rfl⟩) (fun t ht hW => ⟨⟨(), _, rfl, trivial, rfl, vaP_at ht hP⟩, hS.F ht⟩) hS.2.2 dX9_trackIn_24
  · have hF := ifT c3 hF
    exact nomatch hF
theorem m_X9_trackIn : ∀ w ∈ (vx_atS RX9 231 "java/lang/IndexOutOfBoundsException" ["java/lang/RuntimeException", "java/lang/Exception"]).filter goodWord, w ∈ wvX9_trackIn := fun w h => List.mem_cons_of_mem _ (iCW9_xI w h)
set_option maxHeartbeats 4000000 in
set_option maxRecDepth 100000 in
theorem thr_X9_trackIn_x (l : Launch) (D : va_G) (ct : Nat → ClassId) (adK adV : Nat → Nat) (hst : l.stackTraces = false) (q_t q_t_tracks q_t_reader q_t_reader_tape q_t_reader_tape_bytes q_t_ruling q_t_ruling_steps q_t_draft q_t_draft_steps q_t_trains q_t_trains_going q_t_windows q_t_windows_indices : Nat) (a0 a1 a2 : Nat → Nat) (sz : Nat) (t_endNow : Int32) (t_timesPublished : Int32) (t_reader_tape_bytes : Nat → Int32) (t_reader_tape_size : Int32) (t_reader_length : Int32) (t_reader_place : Int32) (t_reader_numberPlace : Int32) (t_reader_faultKind : Int32) (t_reader_faultPlace : Int32) (t_ruling_limit : Int32) (t_ruling_near : Int32) (t_ruling_share : Int32) (t_ruling_shareOf : Int32) (t_ruling_window : Int32) (t_ruling_storm : Int32) (t_ruling_steps : Nat → Int32) (t_ruling_stepCount : Int32) (t_ruling_clauses : Int32) (t_draft_limit : Int32) (t_draft_near : Int32) (t_draft_share : Int32) (t_draft_shareOf : Int32) (t_draft_window : Int32) (t_draft_storm : Int32) (t_draft_steps : Nat → Int32) (t_draft_stepCount : Int32) (t_draft_clauses : Int32) (t_trains_going : Nat → Int32) (t_trains_size : Int32) (t_windows_indices : Nat → Int32) (t_windows_size : Int32) (x0 x1 x2 : TS) (p1 : Int32) (p2 : Int32) (n : Nat) (hF : TX9_trackIn_x n p1 p2 = some ()) : vx_Met l yX9_trackIn wvX9_trackIn ({ frames := 7, cells := 1, slots := 6, locals := 121 } : Room) (va_Pc [.ref q_t, .int p1, .int p2] (preX D ct sz (W_58 ct q_t q_t_tracks q_t_reader q_t_reader_tape q_t_ruling q_t_draft q_t_trains q_t_windows (a0 0) (a1 0) (a2 0) t_endNow t_timesPublished) adK adV)) (fun _ _ _ _ => False) (vx_X (fun (_ : Unit) => True) (fun E _ t => E = exI ∧ va_P D vwCl (W_58 ct q_t q_t_tracks q_t_reader q_t_reader_tape q_t_ruling q_t_draft q_t_trains q_t_windows (a0 0) (a1 0) (a2 0) t_endNow t_timesPublished) t.heap) (va_A (W_58 ct q_t q_t_tracks q_t_reader q_t_reader_tape q_t_ruling q_t_draft q_t_trains q_t_windows (a0 0) (a1 0) (a2 0) t_endNow t_timesPublished) sz)) 1 6 (va_A (W_58 ct q_t q_t_tracks q_t_reader q_t_reader_tape q_t_ruling q_t_draft q_t_trains q_t_windows (a0 0) (a1 0) (a2 0) t_endNow t_timesPublished) sz) := by
  refine vx_ofW (cc := cX9_trackIn) (maxL := 3) (ret := (some (.object "NeedleHouse$Track"))) (by decide) rfl ?_
  intro p e s m args below meth c s₁ B hml hno hv
  obtain ⟨rfl, ⟨⟨hsz, hP, hE, hD0⟩, hSE⟩, hXE⟩ := hv
  have hx := B.exec
  have hb := B.bytes
  have hr := B.returns
  have hts := atoms_spec (ws := wvX9_trackIn) B.pre
  have hown : s.vm.findClass RX9 = some m.cls := findClass_of_methodNamed B.named
  have hlocks := B.notSynchronized
  subst hsz
  have hD := hD0.self (sz := s.heap.size)
  generalize hAe : va_A (W_58 ct q_t q_t_tracks q_t_reader q_t_reader_tape q_t_ruling q_t_draft q_t_trains q_t_windows (a0 0) (a1 0) (a2 0) t_endNow t_timesPublished) s.heap.size = A at hD hSE hXE ⊢
  have hA : ∀ q : Nat, s.heap.size ≤ q → A q := fun q h => by rw [← hAe]; exact Or.inr h
  have hl := lv_entry ([.ref q_t, .int p1, .int p2]) (n := 3) (Nat.le_of_ble_eq_true rfl)
  rw [lg_entry_eq]
  generalize (lg_sl ([.ref q_t, .int p1, .int p2]) ++ List.replicate (3 - (lg_sl ([.ref q_t, .int p1, .int p2])).length) Slot.unset).toArray = ls at hl ⊢
  have hl : lv_has ls 3 [(0, .ref q_t), (1, .int p1), (2, .int p2)] := hl
  have hS : ∀ H : Heap, s.heap = H → va_S A s.heap H [] := fun H h => h ▸ va_S.rf
  generalize hH : s.heap = H at hP ⊢
  have hS := hS H hH
  unfold TX9_trackIn_x at hF
  refine lv_iload_n hx hb dX9_trackIn_0 rfl (lv_at hl 1 rfl) ?_
  refine lv_iconst (v := 0) hx hb dX9_trackIn_1 (by decide) ?_
  refine lv_iconst (v := 1) hx hb dX9_trackIn_2 (by decide) ?_
  obtain ⟨r1, h2, hF⟩ := ob1_ex hF
  refine xiR (va_runS (As := [.int p1, .int 0, .int 1]) (rest := []) ⟨hx, hb, hml, hown, hts⟩ (met_X9_within l D ct H.size p1 0 1 n r1 h2) (va_cwS 3 hts (gqS CW9_good (List.mem_of_getElem? (i := 149) rfl) (List.mem_of_getElem? (i := 150) rfl) (List.mem_of_getElem? (i := 151) rfl) gcw9_X9_within) rfl rfl rfl (by decide +kernel) ⟨Nat.le_of_ble_eq_true rfl, Nat.le_of_ble_eq_true rfl⟩) ⟨blind_, mkpre_ hE (hP.sub [] rfl) (hD.sub [] (by decide) rfl)⟩ rfl rfl hl.1 rfl (lv_room (Nat.le_of_ble_eq_true rfl)) dX9_trackIn_3 ⟨Nat.le_of_ble_eq_true rfl, Nat.le_of_ble_eq_true rfl⟩) hP hD hS hA [] rfl (fun H locs hP hD hS => ?_)
  refine lv_if_ne (tgt := 19) hx hb dX9_trackIn_6 (by decide) (fun c3 => ?_) (fun c3 => ?_)
  · have hF := ifF c3 hF
    refine lv_aload_n hx hb dX9_trackIn_19 rfl (lv_at hl 0 rfl) ?_
    refine lv_iload_n hx hb dX9_trackIn_20 rfl (lv_at hl 2 rfl) ?_
    obtain ⟨u0, h4, hF⟩ := ob1_ex hF
    exact xthr (vx_runV (As := [.int p2]) (rest := []) ⟨hx, hb, hml, hown, hts⟩ (thr_X9_trackOf_x l D ct adK adV hst q_t q_t_tracks q_t_reader q_t_reader_tape q_t_reader_tape_bytes q_t_ruling q_t_ruling_steps q_t_draft q_t_draft_steps q_t_trains q_t_trains_going q_t_windows q_t_windows_indices a0 a1 a2 H.size t_endNow t_timesPublished t_reader_tape_bytes t_reader_tape_size t_reader_length t_reader_place t_reader_numberPlace t_reader_faultKind t_reader_faultPlace t_ruling_limit t_ruling_near t_ruling_share t_ruling_shareOf t_ruling_window t_ruling_storm t_ruling_steps t_ruling_stepCount t_ruling_clauses t_draft_limit t_draft_near t_draft_share t_draft_shareOf t_draft_window t_draft_storm t_draft_steps t_draft_stepCount t_draft_clauses t_trains_going t_trains_size t_windows_indices t_windows_size x0 x1 x2 p2 n h4) (cwV 1 hts (gqV CW9_good (List.mem_of_getElem? (i := 152) rfl) (List.mem_of_getElem? (i := 153) rfl) (List.mem_of_getElem? (i := 154) rfl) (List.mem_of_getElem? (i := 151) rfl) (gself CW9_good (List.mem_of_getElem? (i := 145) rfl))) rfl rfl rfl (by decide +kernel) ⟨Nat.le_of_ble_eq_true rfl, Nat.le_of_ble_eq_true rfl⟩) ⟨blindX, va_recv hE.1 hP (ci := 9) (q0 := 0) rfl rfl, mkpreX hE hSE hXE hS (freeA hD hS hA) hP hD⟩ rfl rfl hl.1 rfl (lv_room (Nat.le_of_ble_eq_true rfl)) dX9_trackIn_21 ⟨Nat.le_of_ble_eq_true rfl, Nat.le_of_ble_eq_true rfl⟩) hP hD hS hA [0, 1] rfl hno hlocks rfl
  · have hF := ifT c3 hF
    obtain ⟨qs, hqs⟩ := hXE.2.2.1
    refine vx_throwS (cls := "java/lang/IndexOutOfBoundsException") (names := ["java/lang/RuntimeException", "java/lang/Exception"]) hx hb hst hown (by decide +kernel) (by decide +kernel) (hts (.classLink RX9 227 "java/lang/IndexOutOfBoundsException") (List.mem_cons_of_mem _ (List.mem_of_getElem? (i := 146) rfl))) (hts (.initialized "java/lang/IndexOutOfBoundsException") (List.mem_cons_of_mem _ (List.mem_of_getElem? (i := 147) rfl))) hqs (vx_hat (B := [.declares (Bundle.initS "java/lang/RuntimeException"), .declares (Bundle.initS "java/lang/Exception"), .declares (Bundle.initS "java/lang/Throwable"), .castable "java/lang/IndexOutOfBoundsException" "java/lang/IndexOutOfBoundsException"]) (fun w hw => hts w (m_X9_trackIn w hw)) (by decide +kernel) (vx_c (va_Nw.use rfl hXE.2.2.2.2.2.1) (vx_c (va_Nw.use rfl hXE.2.2.2.2.2.2.1) (vx_c (va_Nw.use rfl hXE.2.2.2.2.2.2.2.1) (vx_c (va_Nw.use rfl hXE.2.2.2.2.2.2.2.2.1) vx_n))))) (by decide +kernel) hXE.1 hXE.2.1 hS (hl.1.trans hml.symm) dX9_trackIn_9 dX9_trackIn_12 dX9_trackIn_13 dX9_trackIn_15 dX9_trackIn_18 (fun x hx => (hno x hx).elim) (Nat.le_of_ble_eq_true rfl) (Nat.le_of_ble_eq_true rfl) (Nat.le_of_ble_eq_true rfl) (Nat.le_of_ble_eq_true rfl) hlocks (thr_x hP hS rfl) hS.2.2 (Nat.le_of_ble_eq_true rfl) (Nat.le_of_ble_eq_true rfl)
def W_59 (ct : Nat → ClassId) (a0 a1 a2 a3 a4 a5 a6 a7 a8 a9 a10 a11 a12 a13 a14 a15 a16 a17 a18 a19 a20 a21 a22 a23 a24 a25 a26 a27 a28 a29 a30 a31 a32 : Nat) (v0 : Int32) (v1 : Int32) (v2 : Int32) (v3 : Int32) (v4 : Int32) (v5 : Int32) (v6 : Int32) (v7 : Int32) (v8 : Int32) (v9 : Int32) (v10 : Int32) (v11 : Int32) (v12 : Nat → Int32) (v13 : Int32) (v14 : Nat → Int32) (v15 : Int32) (v16 : Nat → Int32) (v17 : Nat → Int32) (v18 : Nat → Int32) (v19 : Nat → Int32) (v20 : Int32) (v21 : Int32) (v22 : Int64) (v23 : Int64) (v24 : Int64) (v25 : Int64) (v26 : Nat → Int32) (v27 : Nat → Int32) (v28 : Nat → Int32) (v29 : Nat → Int32) (v30 : Nat → Int32) (v31 : Nat → Int32) (v32 : Nat → Int32) (v33 : Nat → Int64) (v34 : Nat → Int32) (v35 : Nat → Int32) : va_W := [(a0, .inr (9, [.ref a1, .ref a2, .ref a3, .ref a4, .ref a5, .ref a6, .ref a7, .int v0, .int v1])), (a1, .inl (ct 4, 3, .inr (.inr (.inr (.inr (trk a8 a9 a10)))))), (a4, .inr (3, [.int v2, .int v3, .int v4, .int v5, .int v6, .int v7, .ref a11, .int v8, .int v9])), (a8, .inr (6, [.ref a12, .ref a13, .ref a14, .ref a15, .ref a16, .ref a17, .ref a18, .int v10])), (a12, .inr (2, [.ref a19, .int v11])), (a19, .inl (ct 0, 300, .inl v12)), (a13, .inr (2, [.ref a20, .int v13])), (a20, .inl (ct 0, 300, .inl v14)), (a14, .inr (0, [.ref a21, .ref a22, .ref a23, .ref a24, .int v15])), (a21, .inl (ct 0, 20, .inl v16)), (a22, .inl (ct 0, 20, .inl v17)), (a23, .inl (ct 0, 20, .inl v18)), (a24, .inl (ct 0, 20, .inl v19)), (a15, .inr (1, [.ref a25, .ref a26, .ref a27, .int v20, .ref a28, .ref a29, .ref a30, .ref a31, .ref a32, .int v21, .long v22, .long v23, .long v24, .long v25])), (a25, .inl (ct 0, 20, .inl v26)), (a26, .inl (ct 0, 20, .inl v27)), (a27, .inl (ct 0, 20, .inl v28)), (a28, .inl (ct 0, 20, .inl v29)), (a29, .inl (ct 0, 20, .inl v30)), (a30, .inl (ct 0, 20, .inl v31)), (a31, .inl (ct 0, 20, .inl v32)), (a32, .inl (ct 1, 20, .inr (.inl v33))), (a16, .inl (ct 0, 300, .inl v34)), (a17, .inl (ct 0, 300, .inl v35))]
theorem i_X9_settled_X3 : ∀ w ∈ wsX30, w ∈ wvX9_settled := fun w h => List.mem_cons_of_mem _ (iCW9_X3 w h)
theorem i_X9_settled_X9 : ∀ w ∈ wsX90, w ∈ wvX9_settled := fun w h => List.mem_cons_of_mem _ (iCW9_X9 w h)
set_option maxHeartbeats 4000000 in
set_option maxRecDepth 100000 in
theorem met_X9_settled_0 (l : Launch) (D : va_G) (ct : Nat → ClassId) (adK adV : Nat → Nat) (hst : l.stackTraces = false) (q_t q_t_tracks q_t_reader q_t_reader_tape q_t_reader_tape_bytes q_t_ruling q_t_ruling_steps q_t_draft q_t_draft_steps q_t_trains q_t_trains_going q_t_windows q_t_windows_indices : Nat) (a0 a1 a2 : Nat → Nat) (sz : Nat) (t_endNow : Int32) (t_timesPublished : Int32) (t_reader_tape_bytes : Nat → Int32) (t_reader_tape_size : Int32) (t_reader_length : Int32) (t_reader_place : Int32) (t_reader_numberPlace : Int32) (t_reader_faultKind : Int32) (t_reader_faultPlace : Int32) (t_ruling_limit : Int32) (t_ruling_near : Int32) (t_ruling_share : Int32) (t_ruling_shareOf : Int32) (t_ruling_window : Int32) (t_ruling_storm : Int32) (t_ruling_steps : Nat → Int32) (t_ruling_stepCount : Int32) (t_ruling_clauses : Int32) (t_draft_limit : Int32) (t_draft_near : Int32) (t_draft_share : Int32) (t_draft_shareOf : Int32) (t_draft_window : Int32) (t_draft_storm : Int32) (t_draft_steps : Nat → Int32) (t_draft_stepCount : Int32) (t_draft_clauses : Int32) (t_trains_going : Nat → Int32) (t_trains_size : Int32) (t_windows_indices : Nat → Int32) (t_windows_size : Int32) (x0 x1 x2 : TS) (n : Nat) (o_x0 : TS) (hF : FX9_settled_0 n t_ruling_near x0 = some (o_x0)) : Met l yX9_settled wvX9_settled ({ frames := 5, cells := 0, slots := 0, locals := 124 } : Room) (va_Pc [.ref q_t, .int 0] (pre_ D ct sz (W_59 ct q_t q_t_tracks q_t_reader q_t_reader_tape q_t_ruling q_t_draft q_t_trains q_t_windows (a0 0) (a1 0) (a2 0) q_t_ruling_steps (a0 1) (a0 3) (a0 5) (a0 10) (a0 19) (a0 20) (a0 21) (a0 2) (a0 4) (a0 6) (a0 7) (a0 8) (a0 9) (a0 11) (a0 12) (a0 13) (a0 14) (a0 15) (a0 16) (a0 17) (a0 18) t_endNow t_timesPublished t_ruling_limit t_ruling_near t_ruling_share t_ruling_shareOf t_ruling_window t_ruling_storm t_ruling_stepCount t_ruling_clauses (tg26 x0) (tg1 x0) (tg0 x0) (tg3 x0) (tg2 x0) (tg8 x0) (tg4 x0) (tg5 x0) (tg6 x0) (tg7 x0) (tg12 x0) (tg18 x0) (tg19 x0) (tg20 x0) (tg21 x0) (tg22 x0) (tg9 x0) (tg10 x0) (tg11 x0) (tg13 x0) (tg14 x0) (tg15 x0) (tg16 x0) (tg17 x0) (tg23 x0) (tg24 x0)))) (va_Qr (fun (_ : Unit) => True) (fun _ aR t => aR = (a0 0) ∧ va_P D vwCl (W_59 ct q_t q_t_tracks q_t_reader q_t_reader_tape q_t_ruling q_t_draft q_t_trains q_t_windows (a0 0) (a1 0) (a2 0) q_t_ruling_steps (a0 1) (a0 3) (a0 5) (a0 10) (a0 19) (a0 20) (a0 21) (a0 2) (a0 4) (a0 6) (a0 7) (a0 8) (a0 9) (a0 11) (a0 12) (a0 13) (a0 14) (a0 15) (a0 16) (a0 17) (a0 18) t_endNow t_timesPublished t_ruling_limit t_ruling_near t_ruling_share t_ruling_shareOf t_ruling_window t_ruling_storm t_ruling_stepCount t_ruling_clauses (tg26 o_x0) (tg1 o_x0) (tg0 o_x0) (tg3 o_x0) (tg2 o_x0) (tg8 o_x0) (tg4 o_x0) (tg5 o_x0) (tg6 o_x0) (tg7 o_x0) (tg12 o_x0) (tg18 o_x0) (tg19 o_x0) (tg20 o_x0) (tg21 o_x0) (tg22 o_x0) (tg9 o_x0) (tg10 o_x0) (tg11 o_x0) (tg13 o_x0) (tg14 o_x0) (tg15 o_x0) (tg16 o_x0) (tg17 o_x0) (tg23 o_x0) (tg24 o_x0)) t.heap) (va_A (W_59 ct q_t q_t_tracks q_t_reader q_t_reader_tape q_t_ruling q_t_draft q_t_trains q_t_windows (a0 0) (a1 0) (a2 0) q_t_ruling_steps (a0 1) (a0 3) (a0 5) (a0 10) (a0 19) (a0 20) (a0 21) (a0 2) (a0 4) (a0 6) (a0 7) (a0 8) (a0 9) (a0 11) (a0 12) (a0 13) (a0 14) (a0 15) (a0 16) (a0 17) (a0 18) t_endNow t_timesPublished t_ruling_limit t_ruling_near t_ruling_share t_ruling_shareOf t_ruling_window t_ruling_storm t_ruling_stepCount t_ruling_clauses (tg26 x0) (tg1 x0) (tg0 x0) (tg3 x0) (tg2 x0) (tg8 x0) (tg4 x0) (tg5 x0) (tg6 x0) (tg7 x0) (tg12 x0) (tg18 x0) (tg19 x0) (tg20 x0) (tg21 x0) (tg22 x0) (tg9 x0) (tg10 x0) (tg11 x0) (tg13 x0) (tg14 x0) (tg15 x0) (tg16 x0) (tg17 x0) (tg23 x0) (tg24 x0)) sz)) 0 0 (va_A (W_59 ct q_t q_t_tracks q_t_reader q_t_reader_tape q_t_ruling q_t_draft q_t_trains q_t_windows (a0 0) (a1 0) (a2 0) q_t_ruling_steps (a0 1) (a0 3) (a0 5) (a0 10) (a0 19) (a0 20) (a0 21) (a0 2) (a0 4) (a0 6) (a0 7) (a0 8) (a0 9) (a0 11) (a0 12) (a0 13) (a0 14) (a0 15) (a0 16) (a0 17) (a0 18) t_endNow t_timesPublished t_ruling_limit t_ruling_near t_ruling_share t_ruling_shareOf t_ruling_window t_ruling_storm t_ruling_stepCount t_ruling_clauses (tg26 x0) (tg1 x0) (tg0 x0) (tg3 x0) (tg2 x0) (tg8 x0) (tg4 x0) (tg5 x0) (tg6 x0) (tg7 x0) (tg12 x0) (tg18 x0) (tg19 x0) (tg20 x0) (tg21 x0) (tg22 x0) (tg9 x0) (tg10 x0) (tg11 x0) (tg13 x0) (tg14 x0) (tg15 x0) (tg16 x0) (tg17 x0) (tg23 x0) (tg24 x0)) sz) := by
  refine Met.ofW (cc := cX9_settled) (maxL := 3) (ret := (some (.object "NeedleHouse$Track"))) (by decide) rfl ?_
  intro p e s m args below meth c s₁ B hml hv
  obtain ⟨rfl, hsz, hP, hE, hD0⟩ := hv
  have hx := B.exec
  have hb := B.bytes
  have hr := B.returns
  have hts := atoms_spec (ws := wvX9_settled) B.pre
  have hown : s.vm.findClass RX9 = some m.cls := findClass_of_methodNamed B.named
  have hlocks := B.notSynchronized
  subst hsz
  have hD := hD0.self (sz := s.heap.size)
  generalize hAe : va_A (W_59 ct q_t q_t_tracks q_t_reader q_t_reader_tape q_t_ruling q_t_draft q_t_trains q_t_windows (a0 0) (a1 0) (a2 0) q_t_ruling_steps (a0 1) (a0 3) (a0 5) (a0 10) (a0 19) (a0 20) (a0 21) (a0 2) (a0 4) (a0 6) (a0 7) (a0 8) (a0 9) (a0 11) (a0 12) (a0 13) (a0 14) (a0 15) (a0 16) (a0 17) (a0 18) t_endNow t_timesPublished t_ruling_limit t_ruling_near t_ruling_share t_ruling_shareOf t_ruling_window t_ruling_storm t_ruling_stepCount t_ruling_clauses (tg26 x0) (tg1 x0) (tg0 x0) (tg3 x0) (tg2 x0) (tg8 x0) (tg4 x0) (tg5 x0) (tg6 x0) (tg7 x0) (tg12 x0) (tg18 x0) (tg19 x0) (tg20 x0) (tg21 x0) (tg22 x0) (tg9 x0) (tg10 x0) (tg11 x0) (tg13 x0) (tg14 x0) (tg15 x0) (tg16 x0) (tg17 x0) (tg23 x0) (tg24 x0)) s.heap.size = A at hD ⊢
  have hA : ∀ q : Nat, s.heap.size ≤ q → A q := fun q h => by rw [← hAe]; exact Or.inr h
  have hl := lv_entry ([.ref q_t, .int 0]) (n := 3) (Nat.le_of_ble_eq_true rfl)
  rw [lg_entry_eq]
  generalize (lg_sl ([.ref q_t, .int 0]) ++ List.replicate (3 - (lg_sl ([.ref q_t, .int 0])).length) Slot.unset).toArray = ls at hl ⊢
  have hl : lv_has ls 3 [(0, .ref q_t), (1, .int 0)] := hl
  have hS : ∀ H : Heap, s.heap = H → va_S A s.heap H [] := fun H h => h ▸ va_S.rf
  generalize hH : s.heap = H at hP ⊢
  have hS := hS H hH
  unfold FX9_settled_0 at hF
  refine lv_aload_n hx hb dX9_settled_0 rfl (lv_at hl 0 rfl) ?_
  refine lv_iload_n hx hb dX9_settled_1 rfl (lv_at hl 1 rfl) ?_
  obtain ⟨u0, h1, hF⟩ := ob1_ex hF
  refine xrR (va_runV (As := [.int 0]) (rest := []) ⟨hx, hb, hml, hown, hts⟩ (met_X9_trackOf_0 l D ct adK adV hst q_t q_t_tracks q_t_reader q_t_reader_tape q_t_reader_tape_bytes q_t_ruling q_t_ruling_steps q_t_draft q_t_draft_steps q_t_trains q_t_trains_going q_t_windows q_t_windows_indices a0 a1 a2 H.size t_endNow t_timesPublished t_reader_tape_bytes t_reader_tape_size t_reader_length t_reader_place t_reader_numberPlace t_reader_faultKind t_reader_faultPlace t_ruling_limit t_ruling_near t_ruling_share t_ruling_shareOf t_ruling_window t_ruling_storm t_ruling_steps t_ruling_stepCount t_ruling_clauses t_draft_limit t_draft_near t_draft_share t_draft_shareOf t_draft_window t_draft_storm t_draft_steps t_draft_stepCount t_draft_clauses t_trains_going t_trains_size t_windows_indices t_windows_size x0 x1 x2 n h1) (cwV 1 hts (gqV CW9_good (List.mem_of_getElem? (i := 152) rfl) (List.mem_of_getElem? (i := 153) rfl) (List.mem_of_getElem? (i := 154) rfl) (List.mem_of_getElem? (i := 151) rfl) (gself CW9_good (List.mem_of_getElem? (i := 145) rfl))) rfl rfl rfl (by decide +kernel) ⟨Nat.le_of_ble_eq_true rfl, Nat.le_of_ble_eq_true rfl⟩) ⟨blind_, va_recv hE.1 hP (ci := 9) (q0 := 0) rfl rfl, mkpre_ hE (hP.sub [0, 1] rfl) (hD.sub [0, 1] (by decide) rfl)⟩ rfl rfl hl.1 rfl (lv_room (Nat.le_of_ble_eq_true rfl)) dX9_settled_2 ⟨Nat.le_of_ble_eq_true rfl, Nat.le_of_ble_eq_true rfl⟩) hP hD hS hA [0, 1] rfl (fun H locs hP hD hS => ?_)
  refine lv_astore_n (lv' := [(2, .ref ((a0 0))), (0, .ref q_t), (1, .int 0)]) hx hb dX9_settled_5 rfl hl (by decide) rfl (fun ls hl => ?_)
  refine lv_aload_n hx hb dX9_settled_6 rfl (lv_at hl 0 rfl) ?_
  refine lv_aload_n hx hb dX9_settled_7 rfl (lv_at hl 1 rfl) ?_
  refine va_get (D := D) (ci := 9) (v := .ref q_t_ruling) (C := RX9) (T := TX9) (N := 9) hx hb hts i_X9_settled_X9 hown hE.1 hP 0 rfl rfl 3 (by decide) (hts (.fieldLink RX9 31 "NeedleHouse" "ruling" "LNeedleHouse$Rule;") (List.mem_cons_of_mem _ (List.mem_of_getElem? (i := 16) rfl))) (fun _ h9 => h9) rfl dX9_settled_8 ?_
  refine va_getN (D := D) (ci := 3) (v := .int t_ruling_near) (C := RX3) (T := TX3) (N := 9) hx hb hts i_X9_settled_X3 hown hE.1 hP 2 rfl rfl 1 (by decide) (va_Nw.use rfl (NW_5 hE.2)) (fun _ h9 => h9) rfl dX9_settled_11 ?_
  obtain ⟨v2, v3, v4, v5, v6, v7, v8, f9, f10, f11, f12, f13, f14, f15, f16, f17, f18, h19, hF⟩ := ob17_ex hF
  refine xvN (ws1 := (W_59 ct q_t q_t_tracks q_t_reader q_t_reader_tape q_t_ruling q_t_draft q_t_trains q_t_windows (a0 0) (a1 0) (a2 0) q_t_ruling_steps (a0 1) (a0 3) (a0 5) (a0 10) (a0 19) (a0 20) (a0 21) (a0 2) (a0 4) (a0 6) (a0 7) (a0 8) (a0 9) (a0 11) (a0 12) (a0 13) (a0 14) (a0 15) (a0 16) (a0 17) (a0 18) t_endNow t_timesPublished t_ruling_limit t_ruling_near t_ruling_share t_ruling_shareOf t_ruling_window t_ruling_storm t_ruling_stepCount t_ruling_clauses v2 (tg1 x0) (tg0 x0) (tg3 x0) (tg2 x0) (tg8 x0) (tg4 x0) (tg5 x0) (tg6 x0) (tg7 x0) v3 v4 v5 v6 v7 v8 f9 f10 f11 f12 f13 f14 f15 f16 f17 f18)) (va_runV (As := [.int t_ruling_near]) (rest := []) ⟨hx, hb, hml, hown, hts⟩ (met_X6_settle l D ct (a0 0) (a0 1) (a0 3) (a0 5) (a0 10) (a0 19) (a0 20) (a0 21) (a0 2) (a0 4) (a0 6) (a0 7) (a0 8) (a0 9) (a0 11) (a0 12) (a0 13) (a0 14) (a0 15) (a0 16) (a0 17) (a0 18) H.size (tg26 x0) (tg1 x0) (tg0 x0) (tg3 x0) (tg2 x0) (tg8 x0) (tg4 x0) (tg5 x0) (tg6 x0) (tg7 x0) (tg12 x0) (tg18 x0) (tg19 x0) (tg20 x0) (tg21 x0) (tg22 x0) (tg9 x0) (tg10 x0) (tg11 x0) (tg13 x0) (tg14 x0) (tg15 x0) (tg16 x0) (tg17 x0) (tg23 x0) (tg24 x0) t_ruling_near n v2 v3 v4 v5 v6 v7 v8 f9 f10 f11 f12 f13 f14 f15 f16 f17 f18 h19) (cwV 1 hts (gqV CW9_good (List.mem_of_getElem? (i := 212) rfl) (List.mem_of_getElem? (i := 213) rfl) (List.mem_of_getElem? (i := 214) rfl) (List.mem_of_getElem? (i := 7) rfl) gcw9_X6_settle) rfl rfl rfl (by decide +kernel) ⟨Nat.le_of_ble_eq_true rfl, Nat.le_of_ble_eq_true rfl⟩) ⟨blind_, va_recv hE.1 hP (ci := 6) (q0 := 3) rfl rfl, mkpre_ hE (hP.sub [3, 4, 5, 6, 7, 8, 9, 10, 11, 12, 13, 14, 15, 16, 17, 18, 19, 20, 21, 22, 23] rfl) (hD.sub [3, 4, 5, 6, 7, 8, 9, 10, 11, 12, 13, 14, 15, 16, 17, 18, 19, 20, 21, 22, 23] (by decide) rfl)⟩ rfl rfl hl.1 rfl (lv_room (Nat.le_of_ble_eq_true rfl)) dX9_settled_14 ⟨Nat.le_of_ble_eq_true rfl, Nat.le_of_ble_eq_true rfl⟩) hP hD hS hA [3, 4, 5, 6, 7, 8, 9, 10, 11, 12, 13, 14, 15, 16, 17, 18, 19, 20, 21, 22, 23] [0, 1, 2] 24 rfl rfl rfl rfl (by decide) rfl (fun H locs hP hD hS => ?_)
  refine lv_aload_n hx hb dX9_settled_17 rfl (lv_at hl 0 rfl) ?_
  obtain rfl := Option.some.inj hF
  exact W.aret hx hb hr (Or.inl ⟨_, rfl⟩) (Or.inr ⟨_, rfl⟩) (fun t ht hW => ⟨⟨(), _, rfl, trivial, rfl, vaP_at ht hP⟩, hS.F ht⟩) hS.2.2 dX9_settled_18
def W_60 (ct : Nat → ClassId) (a0 a1 a2 a3 a4 a5 a6 a7 a8 a9 a10 a11 a12 a13 a14 a15 a16 a17 a18 a19 a20 a21 a22 a23 a24 a25 a26 a27 a28 a29 a30 a31 a32 : Nat) (v0 : Int32) (v1 : Int32) (v2 : Int32) (v3 : Int32) (v4 : Int32) (v5 : Int32) (v6 : Int32) (v7 : Int32) (v8 : Int32) (v9 : Int32) (v10 : Int32) (v11 : Int32) (v12 : Nat → Int32) (v13 : Int32) (v14 : Nat → Int32) (v15 : Int32) (v16 : Nat → Int32) (v17 : Nat → Int32) (v18 : Nat → Int32) (v19 : Nat → Int32) (v20 : Int32) (v21 : Int32) (v22 : Int64) (v23 : Int64) (v24 : Int64) (v25 : Int64) (v26 : Nat → Int32) (v27 : Nat → Int32) (v28 : Nat → Int32) (v29 : Nat → Int32) (v30 : Nat → Int32) (v31 : Nat → Int32) (v32 : Nat → Int32) (v33 : Nat → Int64) (v34 : Nat → Int32) (v35 : Nat → Int32) : va_W := [(a0, .inr (9, [.ref a1, .ref a2, .ref a3, .ref a4, .ref a5, .ref a6, .ref a7, .int v0, .int v1])), (a1, .inl (ct 4, 3, .inr (.inr (.inr (.inr (trk a8 a9 a10)))))), (a4, .inr (3, [.int v2, .int v3, .int v4, .int v5, .int v6, .int v7, .ref a11, .int v8, .int v9])), (a9, .inr (6, [.ref a12, .ref a13, .ref a14, .ref a15, .ref a16, .ref a17, .ref a18, .int v10])), (a12, .inr (2, [.ref a19, .int v11])), (a19, .inl (ct 0, 300, .inl v12)), (a13, .inr (2, [.ref a20, .int v13])), (a20, .inl (ct 0, 300, .inl v14)), (a14, .inr (0, [.ref a21, .ref a22, .ref a23, .ref a24, .int v15])), (a21, .inl (ct 0, 20, .inl v16)), (a22, .inl (ct 0, 20, .inl v17)), (a23, .inl (ct 0, 20, .inl v18)), (a24, .inl (ct 0, 20, .inl v19)), (a15, .inr (1, [.ref a25, .ref a26, .ref a27, .int v20, .ref a28, .ref a29, .ref a30, .ref a31, .ref a32, .int v21, .long v22, .long v23, .long v24, .long v25])), (a25, .inl (ct 0, 20, .inl v26)), (a26, .inl (ct 0, 20, .inl v27)), (a27, .inl (ct 0, 20, .inl v28)), (a28, .inl (ct 0, 20, .inl v29)), (a29, .inl (ct 0, 20, .inl v30)), (a30, .inl (ct 0, 20, .inl v31)), (a31, .inl (ct 0, 20, .inl v32)), (a32, .inl (ct 1, 20, .inr (.inl v33))), (a16, .inl (ct 0, 300, .inl v34)), (a17, .inl (ct 0, 300, .inl v35))]
set_option maxHeartbeats 4000000 in
set_option maxRecDepth 100000 in
theorem met_X9_settled_1 (l : Launch) (D : va_G) (ct : Nat → ClassId) (adK adV : Nat → Nat) (hst : l.stackTraces = false) (q_t q_t_tracks q_t_reader q_t_reader_tape q_t_reader_tape_bytes q_t_ruling q_t_ruling_steps q_t_draft q_t_draft_steps q_t_trains q_t_trains_going q_t_windows q_t_windows_indices : Nat) (a0 a1 a2 : Nat → Nat) (sz : Nat) (t_endNow : Int32) (t_timesPublished : Int32) (t_reader_tape_bytes : Nat → Int32) (t_reader_tape_size : Int32) (t_reader_length : Int32) (t_reader_place : Int32) (t_reader_numberPlace : Int32) (t_reader_faultKind : Int32) (t_reader_faultPlace : Int32) (t_ruling_limit : Int32) (t_ruling_near : Int32) (t_ruling_share : Int32) (t_ruling_shareOf : Int32) (t_ruling_window : Int32) (t_ruling_storm : Int32) (t_ruling_steps : Nat → Int32) (t_ruling_stepCount : Int32) (t_ruling_clauses : Int32) (t_draft_limit : Int32) (t_draft_near : Int32) (t_draft_share : Int32) (t_draft_shareOf : Int32) (t_draft_window : Int32) (t_draft_storm : Int32) (t_draft_steps : Nat → Int32) (t_draft_stepCount : Int32) (t_draft_clauses : Int32) (t_trains_going : Nat → Int32) (t_trains_size : Int32) (t_windows_indices : Nat → Int32) (t_windows_size : Int32) (x0 x1 x2 : TS) (n : Nat) (o_x1 : TS) (hF : FX9_settled_1 n t_ruling_near x1 = some (o_x1)) : Met l yX9_settled wvX9_settled ({ frames := 5, cells := 0, slots := 0, locals := 124 } : Room) (va_Pc [.ref q_t, .int 1] (pre_ D ct sz (W_60 ct q_t q_t_tracks q_t_reader q_t_reader_tape q_t_ruling q_t_draft q_t_trains q_t_windows (a0 0) (a1 0) (a2 0) q_t_ruling_steps (a1 1) (a1 3) (a1 5) (a1 10) (a1 19) (a1 20) (a1 21) (a1 2) (a1 4) (a1 6) (a1 7) (a1 8) (a1 9) (a1 11) (a1 12) (a1 13) (a1 14) (a1 15) (a1 16) (a1 17) (a1 18) t_endNow t_timesPublished t_ruling_limit t_ruling_near t_ruling_share t_ruling_shareOf t_ruling_window t_ruling_storm t_ruling_stepCount t_ruling_clauses (tg26 x1) (tg1 x1) (tg0 x1) (tg3 x1) (tg2 x1) (tg8 x1) (tg4 x1) (tg5 x1) (tg6 x1) (tg7 x1) (tg12 x1) (tg18 x1) (tg19 x1) (tg20 x1) (tg21 x1) (tg22 x1) (tg9 x1) (tg10 x1) (tg11 x1) (tg13 x1) (tg14 x1) (tg15 x1) (tg16 x1) (tg17 x1) (tg23 x1) (tg24 x1)))) (va_Qr (fun (_ : Unit) => True) (fun _ aR t => aR = (a1 0) ∧ va_P D vwCl (W_60 ct q_t q_t_tracks q_t_reader q_t_reader_tape q_t_ruling q_t_draft q_t_trains q_t_windows (a0 0) (a1 0) (a2 0) q_t_ruling_steps (a1 1) (a1 3) (a1 5) (a1 10) (a1 19) (a1 20) (a1 21) (a1 2) (a1 4) (a1 6) (a1 7) (a1 8) (a1 9) (a1 11) (a1 12) (a1 13) (a1 14) (a1 15) (a1 16) (a1 17) (a1 18) t_endNow t_timesPublished t_ruling_limit t_ruling_near t_ruling_share t_ruling_shareOf t_ruling_window t_ruling_storm t_ruling_stepCount t_ruling_clauses (tg26 o_x1) (tg1 o_x1) (tg0 o_x1) (tg3 o_x1) (tg2 o_x1) (tg8 o_x1) (tg4 o_x1) (tg5 o_x1) (tg6 o_x1) (tg7 o_x1) (tg12 o_x1) (tg18 o_x1) (tg19 o_x1) (tg20 o_x1) (tg21 o_x1) (tg22 o_x1) (tg9 o_x1) (tg10 o_x1) (tg11 o_x1) (tg13 o_x1) (tg14 o_x1) (tg15 o_x1) (tg16 o_x1) (tg17 o_x1) (tg23 o_x1) (tg24 o_x1)) t.heap) (va_A (W_60 ct q_t q_t_tracks q_t_reader q_t_reader_tape q_t_ruling q_t_draft q_t_trains q_t_windows (a0 0) (a1 0) (a2 0) q_t_ruling_steps (a1 1) (a1 3) (a1 5) (a1 10) (a1 19) (a1 20) (a1 21) (a1 2) (a1 4) (a1 6) (a1 7) (a1 8) (a1 9) (a1 11) (a1 12) (a1 13) (a1 14) (a1 15) (a1 16) (a1 17) (a1 18) t_endNow t_timesPublished t_ruling_limit t_ruling_near t_ruling_share t_ruling_shareOf t_ruling_window t_ruling_storm t_ruling_stepCount t_ruling_clauses (tg26 x1) (tg1 x1) (tg0 x1) (tg3 x1) (tg2 x1) (tg8 x1) (tg4 x1) (tg5 x1) (tg6 x1) (tg7 x1) (tg12 x1) (tg18 x1) (tg19 x1) (tg20 x1) (tg21 x1) (tg22 x1) (tg9 x1) (tg10 x1) (tg11 x1) (tg13 x1) (tg14 x1) (tg15 x1) (tg16 x1) (tg17 x1) (tg23 x1) (tg24 x1)) sz)) 0 0 (va_A (W_60 ct q_t q_t_tracks q_t_reader q_t_reader_tape q_t_ruling q_t_draft q_t_trains q_t_windows (a0 0) (a1 0) (a2 0) q_t_ruling_steps (a1 1) (a1 3) (a1 5) (a1 10) (a1 19) (a1 20) (a1 21) (a1 2) (a1 4) (a1 6) (a1 7) (a1 8) (a1 9) (a1 11) (a1 12) (a1 13) (a1 14) (a1 15) (a1 16) (a1 17) (a1 18) t_endNow t_timesPublished t_ruling_limit t_ruling_near t_ruling_share t_ruling_shareOf t_ruling_window t_ruling_storm t_ruling_stepCount t_ruling_clauses (tg26 x1) (tg1 x1) (tg0 x1) (tg3 x1) (tg2 x1) (tg8 x1) (tg4 x1) (tg5 x1) (tg6 x1) (tg7 x1) (tg12 x1) (tg18 x1) (tg19 x1) (tg20 x1) (tg21 x1) (tg22 x1) (tg9 x1) (tg10 x1) (tg11 x1) (tg13 x1) (tg14 x1) (tg15 x1) (tg16 x1) (tg17 x1) (tg23 x1) (tg24 x1)) sz) := by
  refine Met.ofW (cc := cX9_settled) (maxL := 3) (ret := (some (.object "NeedleHouse$Track"))) (by decide) rfl ?_
  intro p e s m args below meth c s₁ B hml hv
  obtain ⟨rfl, hsz, hP, hE, hD0⟩ := hv
  have hx := B.exec
  have hb := B.bytes
  have hr := B.returns
  have hts := atoms_spec (ws := wvX9_settled) B.pre
  have hown : s.vm.findClass RX9 = some m.cls := findClass_of_methodNamed B.named
  have hlocks := B.notSynchronized
  subst hsz
  have hD := hD0.self (sz := s.heap.size)
  generalize hAe : va_A (W_60 ct q_t q_t_tracks q_t_reader q_t_reader_tape q_t_ruling q_t_draft q_t_trains q_t_windows (a0 0) (a1 0) (a2 0) q_t_ruling_steps (a1 1) (a1 3) (a1 5) (a1 10) (a1 19) (a1 20) (a1 21) (a1 2) (a1 4) (a1 6) (a1 7) (a1 8) (a1 9) (a1 11) (a1 12) (a1 13) (a1 14) (a1 15) (a1 16) (a1 17) (a1 18) t_endNow t_timesPublished t_ruling_limit t_ruling_near t_ruling_share t_ruling_shareOf t_ruling_window t_ruling_storm t_ruling_stepCount t_ruling_clauses (tg26 x1) (tg1 x1) (tg0 x1) (tg3 x1) (tg2 x1) (tg8 x1) (tg4 x1) (tg5 x1) (tg6 x1) (tg7 x1) (tg12 x1) (tg18 x1) (tg19 x1) (tg20 x1) (tg21 x1) (tg22 x1) (tg9 x1) (tg10 x1) (tg11 x1) (tg13 x1) (tg14 x1) (tg15 x1) (tg16 x1) (tg17 x1) (tg23 x1) (tg24 x1)) s.heap.size = A at hD ⊢
  have hA : ∀ q : Nat, s.heap.size ≤ q → A q := fun q h => by rw [← hAe]; exact Or.inr h
  have hl := lv_entry ([.ref q_t, .int 1]) (n := 3) (Nat.le_of_ble_eq_true rfl)
  rw [lg_entry_eq]
  generalize (lg_sl ([.ref q_t, .int 1]) ++ List.replicate (3 - (lg_sl ([.ref q_t, .int 1])).length) Slot.unset).toArray = ls at hl ⊢
  have hl : lv_has ls 3 [(0, .ref q_t), (1, .int 1)] := hl
  have hS : ∀ H : Heap, s.heap = H → va_S A s.heap H [] := fun H h => h ▸ va_S.rf
  generalize hH : s.heap = H at hP ⊢
  have hS := hS H hH
  unfold FX9_settled_1 at hF
  refine lv_aload_n hx hb dX9_settled_0 rfl (lv_at hl 0 rfl) ?_
  refine lv_iload_n hx hb dX9_settled_1 rfl (lv_at hl 1 rfl) ?_
  obtain ⟨u0, h1, hF⟩ := ob1_ex hF
  refine xrR (va_runV (As := [.int 1]) (rest := []) ⟨hx, hb, hml, hown, hts⟩ (met_X9_trackOf_1 l D ct adK adV hst q_t q_t_tracks q_t_reader q_t_reader_tape q_t_reader_tape_bytes q_t_ruling q_t_ruling_steps q_t_draft q_t_draft_steps q_t_trains q_t_trains_going q_t_windows q_t_windows_indices a0 a1 a2 H.size t_endNow t_timesPublished t_reader_tape_bytes t_reader_tape_size t_reader_length t_reader_place t_reader_numberPlace t_reader_faultKind t_reader_faultPlace t_ruling_limit t_ruling_near t_ruling_share t_ruling_shareOf t_ruling_window t_ruling_storm t_ruling_steps t_ruling_stepCount t_ruling_clauses t_draft_limit t_draft_near t_draft_share t_draft_shareOf t_draft_window t_draft_storm t_draft_steps t_draft_stepCount t_draft_clauses t_trains_going t_trains_size t_windows_indices t_windows_size x0 x1 x2 n h1) (cwV 1 hts (gqV CW9_good (List.mem_of_getElem? (i := 152) rfl) (List.mem_of_getElem? (i := 153) rfl) (List.mem_of_getElem? (i := 154) rfl) (List.mem_of_getElem? (i := 151) rfl) (gself CW9_good (List.mem_of_getElem? (i := 145) rfl))) rfl rfl rfl (by decide +kernel) ⟨Nat.le_of_ble_eq_true rfl, Nat.le_of_ble_eq_true rfl⟩) ⟨blind_, va_recv hE.1 hP (ci := 9) (q0 := 0) rfl rfl, mkpre_ hE (hP.sub [0, 1] rfl) (hD.sub [0, 1] (by decide) rfl)⟩ rfl rfl hl.1 rfl (lv_room (Nat.le_of_ble_eq_true rfl)) dX9_settled_2 ⟨Nat.le_of_ble_eq_true rfl, Nat.le_of_ble_eq_true rfl⟩) hP hD hS hA [0, 1] rfl (fun H locs hP hD hS => ?_)
  refine lv_astore_n (lv' := [(2, .ref ((a1 0))), (0, .ref q_t), (1, .int 1)]) hx hb dX9_settled_5 rfl hl (by decide) rfl (fun ls hl => ?_)
  refine lv_aload_n hx hb dX9_settled_6 rfl (lv_at hl 0 rfl) ?_
  refine lv_aload_n hx hb dX9_settled_7 rfl (lv_at hl 1 rfl) ?_
  refine va_get (D := D) (ci := 9) (v := .ref q_t_ruling) (C := RX9) (T := TX9) (N := 9) hx hb hts i_X9_settled_X9 hown hE.1 hP 0 rfl rfl 3 (by decide) (hts (.fieldLink RX9 31 "NeedleHouse" "ruling" "LNeedleHouse$Rule;") (List.mem_cons_of_mem _ (List.mem_of_getElem? (i := 16) rfl))) (fun _ h9 => h9) rfl dX9_settled_8 ?_
  refine va_getN (D := D) (ci := 3) (v := .int t_ruling_near) (C := RX3) (T := TX3) (N := 9) hx hb hts i_X9_settled_X3 hown hE.1 hP 2 rfl rfl 1 (by decide) (va_Nw.use rfl (NW_5 hE.2)) (fun _ h9 => h9) rfl dX9_settled_11 ?_
  obtain ⟨v2, v3, v4, v5, v6, v7, v8, f9, f10, f11, f12, f13, f14, f15, f16, f17, f18, h19, hF⟩ := ob17_ex hF
  refine xvN (ws1 := (W_60 ct q_t q_t_tracks q_t_reader q_t_reader_tape q_t_ruling q_t_draft q_t_trains q_t_windows (a0 0) (a1 0) (a2 0) q_t_ruling_steps (a1 1) (a1 3) (a1 5) (a1 10) (a1 19) (a1 20) (a1 21) (a1 2) (a1 4) (a1 6) (a1 7) (a1 8) (a1 9) (a1 11) (a1 12) (a1 13) (a1 14) (a1 15) (a1 16) (a1 17) (a1 18) t_endNow t_timesPublished t_ruling_limit t_ruling_near t_ruling_share t_ruling_shareOf t_ruling_window t_ruling_storm t_ruling_stepCount t_ruling_clauses v2 (tg1 x1) (tg0 x1) (tg3 x1) (tg2 x1) (tg8 x1) (tg4 x1) (tg5 x1) (tg6 x1) (tg7 x1) v3 v4 v5 v6 v7 v8 f9 f10 f11 f12 f13 f14 f15 f16 f17 f18)) (va_runV (As := [.int t_ruling_near]) (rest := []) ⟨hx, hb, hml, hown, hts⟩ (met_X6_settle l D ct (a1 0) (a1 1) (a1 3) (a1 5) (a1 10) (a1 19) (a1 20) (a1 21) (a1 2) (a1 4) (a1 6) (a1 7) (a1 8) (a1 9) (a1 11) (a1 12) (a1 13) (a1 14) (a1 15) (a1 16) (a1 17) (a1 18) H.size (tg26 x1) (tg1 x1) (tg0 x1) (tg3 x1) (tg2 x1) (tg8 x1) (tg4 x1) (tg5 x1) (tg6 x1) (tg7 x1) (tg12 x1) (tg18 x1) (tg19 x1) (tg20 x1) (tg21 x1) (tg22 x1) (tg9 x1) (tg10 x1) (tg11 x1) (tg13 x1) (tg14 x1) (tg15 x1) (tg16 x1) (tg17 x1) (tg23 x1) (tg24 x1) t_ruling_near n v2 v3 v4 v5 v6 v7 v8 f9 f10 f11 f12 f13 f14 f15 f16 f17 f18 h19) (cwV 1 hts (gqV CW9_good (List.mem_of_getElem? (i := 212) rfl) (List.mem_of_getElem? (i := 213) rfl) (List.mem_of_getElem? (i := 214) rfl) (List.mem_of_getElem? (i := 7) rfl) gcw9_X6_settle) rfl rfl rfl (by decide +kernel) ⟨Nat.le_of_ble_eq_true rfl, Nat.le_of_ble_eq_true rfl⟩) ⟨blind_, va_recv hE.1 hP (ci := 6) (q0 := 3) rfl rfl, mkpre_ hE (hP.sub [3, 4, 5, 6, 7, 8, 9, 10, 11, 12, 13, 14, 15, 16, 17, 18, 19, 20, 21, 22, 23] rfl) (hD.sub [3, 4, 5, 6, 7, 8, 9, 10, 11, 12, 13, 14, 15, 16, 17, 18, 19, 20, 21, 22, 23] (by decide) rfl)⟩ rfl rfl hl.1 rfl (lv_room (Nat.le_of_ble_eq_true rfl)) dX9_settled_14 ⟨Nat.le_of_ble_eq_true rfl, Nat.le_of_ble_eq_true rfl⟩) hP hD hS hA [3, 4, 5, 6, 7, 8, 9, 10, 11, 12, 13, 14, 15, 16, 17, 18, 19, 20, 21, 22, 23] [0, 1, 2] 24 rfl rfl rfl rfl (by decide) rfl (fun H locs hP hD hS => ?_)
  refine lv_aload_n hx hb dX9_settled_17 rfl (lv_at hl 0 rfl) ?_
  obtain rfl := Option.some.inj hF
  exact W.aret hx hb hr (Or.inl ⟨_, rfl⟩) (Or.inr ⟨_, rfl⟩) (fun t ht hW => ⟨⟨(), _, rfl, trivial, rfl, vaP_at ht hP⟩, hS.F ht⟩) hS.2.2 dX9_settled_18
def W_61 (ct : Nat → ClassId) (a0 a1 a2 a3 a4 a5 a6 a7 a8 a9 a10 a11 a12 a13 a14 a15 a16 a17 a18 a19 a20 a21 a22 a23 a24 a25 a26 a27 a28 a29 a30 a31 a32 : Nat) (v0 : Int32) (v1 : Int32) (v2 : Int32) (v3 : Int32) (v4 : Int32) (v5 : Int32) (v6 : Int32) (v7 : Int32) (v8 : Int32) (v9 : Int32) (v10 : Int32) (v11 : Int32) (v12 : Nat → Int32) (v13 : Int32) (v14 : Nat → Int32) (v15 : Int32) (v16 : Nat → Int32) (v17 : Nat → Int32) (v18 : Nat → Int32) (v19 : Nat → Int32) (v20 : Int32) (v21 : Int32) (v22 : Int64) (v23 : Int64) (v24 : Int64) (v25 : Int64) (v26 : Nat → Int32) (v27 : Nat → Int32) (v28 : Nat → Int32) (v29 : Nat → Int32) (v30 : Nat → Int32) (v31 : Nat → Int32) (v32 : Nat → Int32) (v33 : Nat → Int64) (v34 : Nat → Int32) (v35 : Nat → Int32) : va_W := [(a0, .inr (9, [.ref a1, .ref a2, .ref a3, .ref a4, .ref a5, .ref a6, .ref a7, .int v0, .int v1])), (a1, .inl (ct 4, 3, .inr (.inr (.inr (.inr (trk a8 a9 a10)))))), (a4, .inr (3, [.int v2, .int v3, .int v4, .int v5, .int v6, .int v7, .ref a11, .int v8, .int v9])), (a10, .inr (6, [.ref a12, .ref a13, .ref a14, .ref a15, .ref a16, .ref a17, .ref a18, .int v10])), (a12, .inr (2, [.ref a19, .int v11])), (a19, .inl (ct 0, 300, .inl v12)), (a13, .inr (2, [.ref a20, .int v13])), (a20, .inl (ct 0, 300, .inl v14)), (a14, .inr (0, [.ref a21, .ref a22, .ref a23, .ref a24, .int v15])), (a21, .inl (ct 0, 20, .inl v16)), (a22, .inl (ct 0, 20, .inl v17)), (a23, .inl (ct 0, 20, .inl v18)), (a24, .inl (ct 0, 20, .inl v19)), (a15, .inr (1, [.ref a25, .ref a26, .ref a27, .int v20, .ref a28, .ref a29, .ref a30, .ref a31, .ref a32, .int v21, .long v22, .long v23, .long v24, .long v25])), (a25, .inl (ct 0, 20, .inl v26)), (a26, .inl (ct 0, 20, .inl v27)), (a27, .inl (ct 0, 20, .inl v28)), (a28, .inl (ct 0, 20, .inl v29)), (a29, .inl (ct 0, 20, .inl v30)), (a30, .inl (ct 0, 20, .inl v31)), (a31, .inl (ct 0, 20, .inl v32)), (a32, .inl (ct 1, 20, .inr (.inl v33))), (a16, .inl (ct 0, 300, .inl v34)), (a17, .inl (ct 0, 300, .inl v35))]
set_option maxHeartbeats 4000000 in
set_option maxRecDepth 100000 in
theorem met_X9_settled_2 (l : Launch) (D : va_G) (ct : Nat → ClassId) (adK adV : Nat → Nat) (hst : l.stackTraces = false) (q_t q_t_tracks q_t_reader q_t_reader_tape q_t_reader_tape_bytes q_t_ruling q_t_ruling_steps q_t_draft q_t_draft_steps q_t_trains q_t_trains_going q_t_windows q_t_windows_indices : Nat) (a0 a1 a2 : Nat → Nat) (sz : Nat) (t_endNow : Int32) (t_timesPublished : Int32) (t_reader_tape_bytes : Nat → Int32) (t_reader_tape_size : Int32) (t_reader_length : Int32) (t_reader_place : Int32) (t_reader_numberPlace : Int32) (t_reader_faultKind : Int32) (t_reader_faultPlace : Int32) (t_ruling_limit : Int32) (t_ruling_near : Int32) (t_ruling_share : Int32) (t_ruling_shareOf : Int32) (t_ruling_window : Int32) (t_ruling_storm : Int32) (t_ruling_steps : Nat → Int32) (t_ruling_stepCount : Int32) (t_ruling_clauses : Int32) (t_draft_limit : Int32) (t_draft_near : Int32) (t_draft_share : Int32) (t_draft_shareOf : Int32) (t_draft_window : Int32) (t_draft_storm : Int32) (t_draft_steps : Nat → Int32) (t_draft_stepCount : Int32) (t_draft_clauses : Int32) (t_trains_going : Nat → Int32) (t_trains_size : Int32) (t_windows_indices : Nat → Int32) (t_windows_size : Int32) (x0 x1 x2 : TS) (n : Nat) (o_x2 : TS) (hF : FX9_settled_2 n t_ruling_near x2 = some (o_x2)) : Met l yX9_settled wvX9_settled ({ frames := 5, cells := 0, slots := 0, locals := 124 } : Room) (va_Pc [.ref q_t, .int 2] (pre_ D ct sz (W_61 ct q_t q_t_tracks q_t_reader q_t_reader_tape q_t_ruling q_t_draft q_t_trains q_t_windows (a0 0) (a1 0) (a2 0) q_t_ruling_steps (a2 1) (a2 3) (a2 5) (a2 10) (a2 19) (a2 20) (a2 21) (a2 2) (a2 4) (a2 6) (a2 7) (a2 8) (a2 9) (a2 11) (a2 12) (a2 13) (a2 14) (a2 15) (a2 16) (a2 17) (a2 18) t_endNow t_timesPublished t_ruling_limit t_ruling_near t_ruling_share t_ruling_shareOf t_ruling_window t_ruling_storm t_ruling_stepCount t_ruling_clauses (tg26 x2) (tg1 x2) (tg0 x2) (tg3 x2) (tg2 x2) (tg8 x2) (tg4 x2) (tg5 x2) (tg6 x2) (tg7 x2) (tg12 x2) (tg18 x2) (tg19 x2) (tg20 x2) (tg21 x2) (tg22 x2) (tg9 x2) (tg10 x2) (tg11 x2) (tg13 x2) (tg14 x2) (tg15 x2) (tg16 x2) (tg17 x2) (tg23 x2) (tg24 x2)))) (va_Qr (fun (_ : Unit) => True) (fun _ aR t => aR = (a2 0) ∧ va_P D vwCl (W_61 ct q_t q_t_tracks q_t_reader q_t_reader_tape q_t_ruling q_t_draft q_t_trains q_t_windows (a0 0) (a1 0) (a2 0) q_t_ruling_steps (a2 1) (a2 3) (a2 5) (a2 10) (a2 19) (a2 20) (a2 21) (a2 2) (a2 4) (a2 6) (a2 7) (a2 8) (a2 9) (a2 11) (a2 12) (a2 13) (a2 14) (a2 15) (a2 16) (a2 17) (a2 18) t_endNow t_timesPublished t_ruling_limit t_ruling_near t_ruling_share t_ruling_shareOf t_ruling_window t_ruling_storm t_ruling_stepCount t_ruling_clauses (tg26 o_x2) (tg1 o_x2) (tg0 o_x2) (tg3 o_x2) (tg2 o_x2) (tg8 o_x2) (tg4 o_x2) (tg5 o_x2) (tg6 o_x2) (tg7 o_x2) (tg12 o_x2) (tg18 o_x2) (tg19 o_x2) (tg20 o_x2) (tg21 o_x2) (tg22 o_x2) (tg9 o_x2) (tg10 o_x2) (tg11 o_x2) (tg13 o_x2) (tg14 o_x2) (tg15 o_x2) (tg16 o_x2) (tg17 o_x2) (tg23 o_x2) (tg24 o_x2)) t.heap) (va_A (W_61 ct q_t q_t_tracks q_t_reader q_t_reader_tape q_t_ruling q_t_draft q_t_trains q_t_windows (a0 0) (a1 0) (a2 0) q_t_ruling_steps (a2 1) (a2 3) (a2 5) (a2 10) (a2 19) (a2 20) (a2 21) (a2 2) (a2 4) (a2 6) (a2 7) (a2 8) (a2 9) (a2 11) (a2 12) (a2 13) (a2 14) (a2 15) (a2 16) (a2 17) (a2 18) t_endNow t_timesPublished t_ruling_limit t_ruling_near t_ruling_share t_ruling_shareOf t_ruling_window t_ruling_storm t_ruling_stepCount t_ruling_clauses (tg26 x2) (tg1 x2) (tg0 x2) (tg3 x2) (tg2 x2) (tg8 x2) (tg4 x2) (tg5 x2) (tg6 x2) (tg7 x2) (tg12 x2) (tg18 x2) (tg19 x2) (tg20 x2) (tg21 x2) (tg22 x2) (tg9 x2) (tg10 x2) (tg11 x2) (tg13 x2) (tg14 x2) (tg15 x2) (tg16 x2) (tg17 x2) (tg23 x2) (tg24 x2)) sz)) 0 0 (va_A (W_61 ct q_t q_t_tracks q_t_reader q_t_reader_tape q_t_ruling q_t_draft q_t_trains q_t_windows (a0 0) (a1 0) (a2 0) q_t_ruling_steps (a2 1) (a2 3) (a2 5) (a2 10) (a2 19) (a2 20) (a2 21) (a2 2) (a2 4) (a2 6) (a2 7) (a2 8) (a2 9) (a2 11) (a2 12) (a2 13) (a2 14) (a2 15) (a2 16) (a2 17) (a2 18) t_endNow t_timesPublished t_ruling_limit t_ruling_near t_ruling_share t_ruling_shareOf t_ruling_window t_ruling_storm t_ruling_stepCount t_ruling_clauses (tg26 x2) (tg1 x2) (tg0 x2) (tg3 x2) (tg2 x2) (tg8 x2) (tg4 x2) (tg5 x2) (tg6 x2) (tg7 x2) (tg12 x2) (tg18 x2) (tg19 x2) (tg20 x2) (tg21 x2) (tg22 x2) (tg9 x2) (tg10 x2) (tg11 x2) (tg13 x2) (tg14 x2) (tg15 x2) (tg16 x2) (tg17 x2) (tg23 x2) (tg24 x2)) sz) := by
  refine Met.ofW (cc := cX9_settled) (maxL := 3) (ret := (some (.object "NeedleHouse$Track"))) (by decide) rfl ?_
  intro p e s m args below meth c s₁ B hml hv
  obtain ⟨rfl, hsz, hP, hE, hD0⟩ := hv
  have hx := B.exec
  have hb := B.bytes
  have hr := B.returns
  have hts := atoms_spec (ws := wvX9_settled) B.pre
  have hown : s.vm.findClass RX9 = some m.cls := findClass_of_methodNamed B.named
  have hlocks := B.notSynchronized
  subst hsz
  have hD := hD0.self (sz := s.heap.size)
  generalize hAe : va_A (W_61 ct q_t q_t_tracks q_t_reader q_t_reader_tape q_t_ruling q_t_draft q_t_trains q_t_windows (a0 0) (a1 0) (a2 0) q_t_ruling_steps (a2 1) (a2 3) (a2 5) (a2 10) (a2 19) (a2 20) (a2 21) (a2 2) (a2 4) (a2 6) (a2 7) (a2 8) (a2 9) (a2 11) (a2 12) (a2 13) (a2 14) (a2 15) (a2 16) (a2 17) (a2 18) t_endNow t_timesPublished t_ruling_limit t_ruling_near t_ruling_share t_ruling_shareOf t_ruling_window t_ruling_storm t_ruling_stepCount t_ruling_clauses (tg26 x2) (tg1 x2) (tg0 x2) (tg3 x2) (tg2 x2) (tg8 x2) (tg4 x2) (tg5 x2) (tg6 x2) (tg7 x2) (tg12 x2) (tg18 x2) (tg19 x2) (tg20 x2) (tg21 x2) (tg22 x2) (tg9 x2) (tg10 x2) (tg11 x2) (tg13 x2) (tg14 x2) (tg15 x2) (tg16 x2) (tg17 x2) (tg23 x2) (tg24 x2)) s.heap.size = A at hD ⊢
  have hA : ∀ q : Nat, s.heap.size ≤ q → A q := fun q h => by rw [← hAe]; exact Or.inr h
  have hl := lv_entry ([.ref q_t, .int 2]) (n := 3) (Nat.le_of_ble_eq_true rfl)
  rw [lg_entry_eq]
  generalize (lg_sl ([.ref q_t, .int 2]) ++ List.replicate (3 - (lg_sl ([.ref q_t, .int 2])).length) Slot.unset).toArray = ls at hl ⊢
  have hl : lv_has ls 3 [(0, .ref q_t), (1, .int 2)] := hl
  have hS : ∀ H : Heap, s.heap = H → va_S A s.heap H [] := fun H h => h ▸ va_S.rf
  generalize hH : s.heap = H at hP ⊢
  have hS := hS H hH
  unfold FX9_settled_2 at hF
  refine lv_aload_n hx hb dX9_settled_0 rfl (lv_at hl 0 rfl) ?_
  refine lv_iload_n hx hb dX9_settled_1 rfl (lv_at hl 1 rfl) ?_
  obtain ⟨u0, h1, hF⟩ := ob1_ex hF
  refine xrR (va_runV (As := [.int 2]) (rest := []) ⟨hx, hb, hml, hown, hts⟩ (met_X9_trackOf_2 l D ct adK adV hst q_t q_t_tracks q_t_reader q_t_reader_tape q_t_reader_tape_bytes q_t_ruling q_t_ruling_steps q_t_draft q_t_draft_steps q_t_trains q_t_trains_going q_t_windows q_t_windows_indices a0 a1 a2 H.size t_endNow t_timesPublished t_reader_tape_bytes t_reader_tape_size t_reader_length t_reader_place t_reader_numberPlace t_reader_faultKind t_reader_faultPlace t_ruling_limit t_ruling_near t_ruling_share t_ruling_shareOf t_ruling_window t_ruling_storm t_ruling_steps t_ruling_stepCount t_ruling_clauses t_draft_limit t_draft_near t_draft_share t_draft_shareOf t_draft_window t_draft_storm t_draft_steps t_draft_stepCount t_draft_clauses t_trains_going t_trains_size t_windows_indices t_windows_size x0 x1 x2 n h1) (cwV 1 hts (gqV CW9_good (List.mem_of_getElem? (i := 152) rfl) (List.mem_of_getElem? (i := 153) rfl) (List.mem_of_getElem? (i := 154) rfl) (List.mem_of_getElem? (i := 151) rfl) (gself CW9_good (List.mem_of_getElem? (i := 145) rfl))) rfl rfl rfl (by decide +kernel) ⟨Nat.le_of_ble_eq_true rfl, Nat.le_of_ble_eq_true rfl⟩) ⟨blind_, va_recv hE.1 hP (ci := 9) (q0 := 0) rfl rfl, mkpre_ hE (hP.sub [0, 1] rfl) (hD.sub [0, 1] (by decide) rfl)⟩ rfl rfl hl.1 rfl (lv_room (Nat.le_of_ble_eq_true rfl)) dX9_settled_2 ⟨Nat.le_of_ble_eq_true rfl, Nat.le_of_ble_eq_true rfl⟩) hP hD hS hA [0, 1] rfl (fun H locs hP hD hS => ?_)
  refine lv_astore_n (lv' := [(2, .ref ((a2 0))), (0, .ref q_t), (1, .int 2)]) hx hb dX9_settled_5 rfl hl (by decide) rfl (fun ls hl => ?_)
  refine lv_aload_n hx hb dX9_settled_6 rfl (lv_at hl 0 rfl) ?_
  refine lv_aload_n hx hb dX9_settled_7 rfl (lv_at hl 1 rfl) ?_
  refine va_get (D := D) (ci := 9) (v := .ref q_t_ruling) (C := RX9) (T := TX9) (N := 9) hx hb hts i_X9_settled_X9 hown hE.1 hP 0 rfl rfl 3 (by decide) (hts (.fieldLink RX9 31 "NeedleHouse" "ruling" "LNeedleHouse$Rule;") (List.mem_cons_of_mem _ (List.mem_of_getElem? (i := 16) rfl))) (fun _ h9 => h9) rfl dX9_settled_8 ?_
  refine va_getN (D := D) (ci := 3) (v := .int t_ruling_near) (C := RX3) (T := TX3) (N := 9) hx hb hts i_X9_settled_X3 hown hE.1 hP 2 rfl rfl 1 (by decide) (va_Nw.use rfl (NW_5 hE.2)) (fun _ h9 => h9) rfl dX9_settled_11 ?_
  obtain ⟨v2, v3, v4, v5, v6, v7, v8, f9, f10, f11, f12, f13, f14, f15, f16, f17, f18, h19, hF⟩ := ob17_ex hF
  refine xvN (ws1 := (W_61 ct q_t q_t_tracks q_t_reader q_t_reader_tape q_t_ruling q_t_draft q_t_trains q_t_windows (a0 0) (a1 0) (a2 0) q_t_ruling_steps (a2 1) (a2 3) (a2 5) (a2 10) (a2 19) (a2 20) (a2 21) (a2 2) (a2 4) (a2 6) (a2 7) (a2 8) (a2 9) (a2 11) (a2 12) (a2 13) (a2 14) (a2 15) (a2 16) (a2 17) (a2 18) t_endNow t_timesPublished t_ruling_limit t_ruling_near t_ruling_share t_ruling_shareOf t_ruling_window t_ruling_storm t_ruling_stepCount t_ruling_clauses v2 (tg1 x2) (tg0 x2) (tg3 x2) (tg2 x2) (tg8 x2) (tg4 x2) (tg5 x2) (tg6 x2) (tg7 x2) v3 v4 v5 v6 v7 v8 f9 f10 f11 f12 f13 f14 f15 f16 f17 f18)) (va_runV (As := [.int t_ruling_near]) (rest := []) ⟨hx, hb, hml, hown, hts⟩ (met_X6_settle l D ct (a2 0) (a2 1) (a2 3) (a2 5) (a2 10) (a2 19) (a2 20) (a2 21) (a2 2) (a2 4) (a2 6) (a2 7) (a2 8) (a2 9) (a2 11) (a2 12) (a2 13) (a2 14) (a2 15) (a2 16) (a2 17) (a2 18) H.size (tg26 x2) (tg1 x2) (tg0 x2) (tg3 x2) (tg2 x2) (tg8 x2) (tg4 x2) (tg5 x2) (tg6 x2) (tg7 x2) (tg12 x2) (tg18 x2) (tg19 x2) (tg20 x2) (tg21 x2) (tg22 x2) (tg9 x2) (tg10 x2) (tg11 x2) (tg13 x2) (tg14 x2) (tg15 x2) (tg16 x2) (tg17 x2) (tg23 x2) (tg24 x2) t_ruling_near n v2 v3 v4 v5 v6 v7 v8 f9 f10 f11 f12 f13 f14 f15 f16 f17 f18 h19) (cwV 1 hts (gqV CW9_good (List.mem_of_getElem? (i := 212) rfl) (List.mem_of_getElem? (i := 213) rfl) (List.mem_of_getElem? (i := 214) rfl) (List.mem_of_getElem? (i := 7) rfl) gcw9_X6_settle) rfl rfl rfl (by decide +kernel) ⟨Nat.le_of_ble_eq_true rfl, Nat.le_of_ble_eq_true rfl⟩) ⟨blind_, va_recv hE.1 hP (ci := 6) (q0 := 3) rfl rfl, mkpre_ hE (hP.sub [3, 4, 5, 6, 7, 8, 9, 10, 11, 12, 13, 14, 15, 16, 17, 18, 19, 20, 21, 22, 23] rfl) (hD.sub [3, 4, 5, 6, 7, 8, 9, 10, 11, 12, 13, 14, 15, 16, 17, 18, 19, 20, 21, 22, 23] (by decide) rfl)⟩ rfl rfl hl.1 rfl (lv_room (Nat.le_of_ble_eq_true rfl)) dX9_settled_14 ⟨Nat.le_of_ble_eq_true rfl, Nat.le_of_ble_eq_true rfl⟩) hP hD hS hA [3, 4, 5, 6, 7, 8, 9, 10, 11, 12, 13, 14, 15, 16, 17, 18, 19, 20, 21, 22, 23] [0, 1, 2] 24 rfl rfl rfl rfl (by decide) rfl (fun H locs hP hD hS => ?_)
  refine lv_aload_n hx hb dX9_settled_17 rfl (lv_at hl 0 rfl) ?_
  obtain rfl := Option.some.inj hF
  exact W.aret hx hb hr (Or.inl ⟨_, rfl⟩) (Or.inr ⟨_, rfl⟩) (fun t ht hW => ⟨⟨(), _, rfl, trivial, rfl, vaP_at ht hP⟩, hS.F ht⟩) hS.2.2 dX9_settled_18
set_option maxHeartbeats 4000000 in
set_option maxRecDepth 100000 in
theorem thr_X9_settled_x (l : Launch) (D : va_G) (ct : Nat → ClassId) (adK adV : Nat → Nat) (hst : l.stackTraces = false) (q_t q_t_tracks q_t_reader q_t_reader_tape q_t_reader_tape_bytes q_t_ruling q_t_ruling_steps q_t_draft q_t_draft_steps q_t_trains q_t_trains_going q_t_windows q_t_windows_indices : Nat) (a0 a1 a2 : Nat → Nat) (sz : Nat) (t_endNow : Int32) (t_timesPublished : Int32) (t_reader_tape_bytes : Nat → Int32) (t_reader_tape_size : Int32) (t_reader_length : Int32) (t_reader_place : Int32) (t_reader_numberPlace : Int32) (t_reader_faultKind : Int32) (t_reader_faultPlace : Int32) (t_ruling_limit : Int32) (t_ruling_near : Int32) (t_ruling_share : Int32) (t_ruling_shareOf : Int32) (t_ruling_window : Int32) (t_ruling_storm : Int32) (t_ruling_steps : Nat → Int32) (t_ruling_stepCount : Int32) (t_ruling_clauses : Int32) (t_draft_limit : Int32) (t_draft_near : Int32) (t_draft_share : Int32) (t_draft_shareOf : Int32) (t_draft_window : Int32) (t_draft_storm : Int32) (t_draft_steps : Nat → Int32) (t_draft_stepCount : Int32) (t_draft_clauses : Int32) (t_trains_going : Nat → Int32) (t_trains_size : Int32) (t_windows_indices : Nat → Int32) (t_windows_size : Int32) (x0 x1 x2 : TS) (p1 : Int32) (n : Nat) (hF : TX9_settled_x n p1 = some ()) : vx_Met l yX9_settled wvX9_settled ({ frames := 7, cells := 1, slots := 6, locals := 121 } : Room) (va_Pc [.ref q_t, .int p1] (preX D ct sz (W_58 ct q_t q_t_tracks q_t_reader q_t_reader_tape q_t_ruling q_t_draft q_t_trains q_t_windows (a0 0) (a1 0) (a2 0) t_endNow t_timesPublished) adK adV)) (fun _ _ _ _ => False) (vx_X (fun (_ : Unit) => True) (fun E _ t => E = exI ∧ va_P D vwCl (W_58 ct q_t q_t_tracks q_t_reader q_t_reader_tape q_t_ruling q_t_draft q_t_trains q_t_windows (a0 0) (a1 0) (a2 0) t_endNow t_timesPublished) t.heap) (va_A (W_58 ct q_t q_t_tracks q_t_reader q_t_reader_tape q_t_ruling q_t_draft q_t_trains q_t_windows (a0 0) (a1 0) (a2 0) t_endNow t_timesPublished) sz)) 1 6 (va_A (W_58 ct q_t q_t_tracks q_t_reader q_t_reader_tape q_t_ruling q_t_draft q_t_trains q_t_windows (a0 0) (a1 0) (a2 0) t_endNow t_timesPublished) sz) := by
  refine vx_ofW (cc := cX9_settled) (maxL := 3) (ret := (some (.object "NeedleHouse$Track"))) (by decide) rfl ?_
  intro p e s m args below meth c s₁ B hml hno hv
  obtain ⟨rfl, ⟨⟨hsz, hP, hE, hD0⟩, hSE⟩, hXE⟩ := hv
  have hx := B.exec
  have hb := B.bytes
  have hr := B.returns
  have hts := atoms_spec (ws := wvX9_settled) B.pre
  have hown : s.vm.findClass RX9 = some m.cls := findClass_of_methodNamed B.named
  have hlocks := B.notSynchronized
  subst hsz
  have hD := hD0.self (sz := s.heap.size)
  generalize hAe : va_A (W_58 ct q_t q_t_tracks q_t_reader q_t_reader_tape q_t_ruling q_t_draft q_t_trains q_t_windows (a0 0) (a1 0) (a2 0) t_endNow t_timesPublished) s.heap.size = A at hD hSE hXE ⊢
  have hA : ∀ q : Nat, s.heap.size ≤ q → A q := fun q h => by rw [← hAe]; exact Or.inr h
  have hl := lv_entry ([.ref q_t, .int p1]) (n := 3) (Nat.le_of_ble_eq_true rfl)
  rw [lg_entry_eq]
  generalize (lg_sl ([.ref q_t, .int p1]) ++ List.replicate (3 - (lg_sl ([.ref q_t, .int p1])).length) Slot.unset).toArray = ls at hl ⊢
  have hl : lv_has ls 3 [(0, .ref q_t), (1, .int p1)] := hl
  have hS : ∀ H : Heap, s.heap = H → va_S A s.heap H [] := fun H h => h ▸ va_S.rf
  generalize hH : s.heap = H at hP ⊢
  have hS := hS H hH
  unfold TX9_settled_x at hF
  refine lv_aload_n hx hb dX9_settled_0 rfl (lv_at hl 0 rfl) ?_
  refine lv_iload_n hx hb dX9_settled_1 rfl (lv_at hl 1 rfl) ?_
  obtain ⟨u0, h1, hF⟩ := ob1_ex hF
  exact xthr (vx_runV (As := [.int p1]) (rest := []) ⟨hx, hb, hml, hown, hts⟩ (thr_X9_trackOf_x l D ct adK adV hst q_t q_t_tracks q_t_reader q_t_reader_tape q_t_reader_tape_bytes q_t_ruling q_t_ruling_steps q_t_draft q_t_draft_steps q_t_trains q_t_trains_going q_t_windows q_t_windows_indices a0 a1 a2 H.size t_endNow t_timesPublished t_reader_tape_bytes t_reader_tape_size t_reader_length t_reader_place t_reader_numberPlace t_reader_faultKind t_reader_faultPlace t_ruling_limit t_ruling_near t_ruling_share t_ruling_shareOf t_ruling_window t_ruling_storm t_ruling_steps t_ruling_stepCount t_ruling_clauses t_draft_limit t_draft_near t_draft_share t_draft_shareOf t_draft_window t_draft_storm t_draft_steps t_draft_stepCount t_draft_clauses t_trains_going t_trains_size t_windows_indices t_windows_size x0 x1 x2 p1 n h1) (cwV 1 hts (gqV CW9_good (List.mem_of_getElem? (i := 152) rfl) (List.mem_of_getElem? (i := 153) rfl) (List.mem_of_getElem? (i := 154) rfl) (List.mem_of_getElem? (i := 151) rfl) (gself CW9_good (List.mem_of_getElem? (i := 145) rfl))) rfl rfl rfl (by decide +kernel) ⟨Nat.le_of_ble_eq_true rfl, Nat.le_of_ble_eq_true rfl⟩) ⟨blindX, va_recv hE.1 hP (ci := 9) (q0 := 0) rfl rfl, mkpreX hE hSE hXE hS (freeA hD hS hA) hP hD⟩ rfl rfl hl.1 rfl (lv_room (Nat.le_of_ble_eq_true rfl)) dX9_settled_2 ⟨Nat.le_of_ble_eq_true rfl, Nat.le_of_ble_eq_true rfl⟩) hP hD hS hA [0, 1] rfl hno hlocks rfl
def W_62 (ct : Nat → ClassId) (a0 a1 a2 a3 a4 a5 a6 a7 a8 a9 a10 a11 a12 a13 a14 a15 a16 a17 a18 a19 a20 a21 a22 a23 a24 a25 a26 a27 a28 a29 a30 a31 a32 a33 a34 a35 a36 a37 : Nat) (v0 : Int32) (v1 : Int32) (v2 : Int32) (v3 : Int32) (v4 : Int32) (v5 : Int32) (v6 : Int32) (v7 : Int32) (v8 : Int32) (v9 : Int32) (v10 : Int32) : va_W := [(a0, .inr (9, [.ref a1, .ref a2, .ref a3, .ref a4, .ref a5, .ref a6, .ref a7, .int v0, .int v1])), (a1, .inl (ct 4, 3, .inr (.inr (.inr (.inr (trk a8 a9 a10)))))), (a8, .inr (6, [.ref a11, .ref a12, .ref a13, .ref a14, .ref a15, .ref a16, .ref a17, .int v2])), (a11, .inr (2, [.ref a18, .int v3])), (a12, .inr (2, [.ref a19, .int v4])), (a9, .inr (6, [.ref a20, .ref a21, .ref a22, .ref a23, .ref a24, .ref a25, .ref a26, .int v5])), (a20, .inr (2, [.ref a27, .int v6])), (a21, .inr (2, [.ref a28, .int v7])), (a10, .inr (6, [.ref a29, .ref a30, .ref a31, .ref a32, .ref a33, .ref a34, .ref a35, .int v8])), (a29, .inr (2, [.ref a36, .int v9])), (a30, .inr (2, [.ref a37, .int v10]))]
theorem i_X9_timesNow_X9 : ∀ w ∈ wsX90, w ∈ wvX9_timesNow := fun w h => List.mem_cons_of_mem _ (iCW9_X9 w h)
set_option maxHeartbeats 4000000 in
set_option maxRecDepth 100000 in
theorem met_X9_timesNow (l : Launch) (D : va_G) (ct : Nat → ClassId) (adK adV : Nat → Nat) (hst : l.stackTraces = false) (q_t q_t_tracks q_t_reader q_t_reader_tape q_t_reader_tape_bytes q_t_ruling q_t_ruling_steps q_t_draft q_t_draft_steps q_t_trains q_t_trains_going q_t_windows q_t_windows_indices : Nat) (a0 a1 a2 : Nat → Nat) (sz : Nat) (t_endNow : Int32) (t_timesPublished : Int32) (t_reader_tape_bytes : Nat → Int32) (t_reader_tape_size : Int32) (t_reader_length : Int32) (t_reader_place : Int32) (t_reader_numberPlace : Int32) (t_reader_faultKind : Int32) (t_reader_faultPlace : Int32) (t_ruling_limit : Int32) (t_ruling_near : Int32) (t_ruling_share : Int32) (t_ruling_shareOf : Int32) (t_ruling_window : Int32) (t_ruling_storm : Int32) (t_ruling_steps : Nat → Int32) (t_ruling_stepCount : Int32) (t_ruling_clauses : Int32) (t_draft_limit : Int32) (t_draft_near : Int32) (t_draft_share : Int32) (t_draft_shareOf : Int32) (t_draft_window : Int32) (t_draft_storm : Int32) (t_draft_steps : Nat → Int32) (t_draft_stepCount : Int32) (t_draft_clauses : Int32) (t_trains_going : Nat → Int32) (t_trains_size : Int32) (t_windows_indices : Nat → Int32) (t_windows_size : Int32) (x0 x1 x2 : TS) (n : Nat) (o_r : Int32) (hF : FX9_timesNow n x0 x1 x2 = some (o_r)) : Met l yX9_timesNow wvX9_timesNow ({ frames := 2, cells := 0, slots := 0, locals := 40 } : Room) (va_Pc [.ref q_t] (pre_ D ct sz (W_62 ct q_t q_t_tracks q_t_reader q_t_reader_tape q_t_ruling q_t_draft q_t_trains q_t_windows (a0 0) (a1 0) (a2 0) (a0 1) (a0 3) (a0 5) (a0 10) (a0 19) (a0 20) (a0 21) (a0 2) (a0 4) (a1 1) (a1 3) (a1 5) (a1 10) (a1 19) (a1 20) (a1 21) (a1 2) (a1 4) (a2 1) (a2 3) (a2 5) (a2 10) (a2 19) (a2 20) (a2 21) (a2 2) (a2 4) t_endNow t_timesPublished (tg26 x0) (tg1 x0) (tg3 x0) (tg26 x1) (tg1 x1) (tg3 x1) (tg26 x2) (tg1 x2) (tg3 x2)))) (va_Qi (fun r (_ : Unit) => r = o_r) (fun _ t => va_P D vwCl (W_62 ct q_t q_t_tracks q_t_reader q_t_reader_tape q_t_ruling q_t_draft q_t_trains q_t_windows (a0 0) (a1 0) (a2 0) (a0 1) (a0 3) (a0 5) (a0 10) (a0 19) (a0 20) (a0 21) (a0 2) (a0 4) (a1 1) (a1 3) (a1 5) (a1 10) (a1 19) (a1 20) (a1 21) (a1 2) (a1 4) (a2 1) (a2 3) (a2 5) (a2 10) (a2 19) (a2 20) (a2 21) (a2 2) (a2 4) t_endNow t_timesPublished (tg26 x0) (tg1 x0) (tg3 x0) (tg26 x1) (tg1 x1) (tg3 x1) (tg26 x2) (tg1 x2) (tg3 x2)) t.heap) (va_A (W_62 ct q_t q_t_tracks q_t_reader q_t_reader_tape q_t_ruling q_t_draft q_t_trains q_t_windows (a0 0) (a1 0) (a2 0) (a0 1) (a0 3) (a0 5) (a0 10) (a0 19) (a0 20) (a0 21) (a0 2) (a0 4) (a1 1) (a1 3) (a1 5) (a1 10) (a1 19) (a1 20) (a1 21) (a1 2) (a1 4) (a2 1) (a2 3) (a2 5) (a2 10) (a2 19) (a2 20) (a2 21) (a2 2) (a2 4) t_endNow t_timesPublished (tg26 x0) (tg1 x0) (tg3 x0) (tg26 x1) (tg1 x1) (tg3 x1) (tg26 x2) (tg1 x2) (tg3 x2)) sz)) 0 0 (va_A (W_62 ct q_t q_t_tracks q_t_reader q_t_reader_tape q_t_ruling q_t_draft q_t_trains q_t_windows (a0 0) (a1 0) (a2 0) (a0 1) (a0 3) (a0 5) (a0 10) (a0 19) (a0 20) (a0 21) (a0 2) (a0 4) (a1 1) (a1 3) (a1 5) (a1 10) (a1 19) (a1 20) (a1 21) (a1 2) (a1 4) (a2 1) (a2 3) (a2 5) (a2 10) (a2 19) (a2 20) (a2 21) (a2 2) (a2 4) t_endNow t_timesPublished (tg26 x0) (tg1 x0) (tg3 x0) (tg26 x1) (tg1 x1) (tg3 x1) (tg26 x2) (tg1 x2) (tg3 x2)) sz) := by
  refine Met.ofW (cc := cX9_timesNow) (maxL := 3) (ret := (some .int)) (by decide) rfl ?_
  intro p e s m args below meth c s₁ B hml hv
  obtain ⟨rfl, hsz, hP, hE, hD0⟩ := hv
  have hx := B.exec
  have hb := B.bytes
  have hr := B.returns
  have hts := atoms_spec (ws := wvX9_timesNow) B.pre
  have hown : s.vm.findClass RX9 = some m.cls := findClass_of_methodNamed B.named
  have hlocks := B.notSynchronized
  subst hsz
  have hD := hD0.self (sz := s.heap.size)
  generalize hAe : va_A (W_62 ct q_t q_t_tracks q_t_reader q_t_reader_tape q_t_ruling q_t_draft q_t_trains q_t_windows (a0 0) (a1 0) (a2 0) (a0 1) (a0 3) (a0 5) (a0 10) (a0 19) (a0 20) (a0 21) (a0 2) (a0 4) (a1 1) (a1 3) (a1 5) (a1 10) (a1 19) (a1 20) (a1 21) (a1 2) (a1 4) (a2 1) (a2 3) (a2 5) (a2 10) (a2 19) (a2 20) (a2 21) (a2 2) (a2 4) t_endNow t_timesPublished (tg26 x0) (tg1 x0) (tg3 x0) (tg26 x1) (tg1 x1) (tg3 x1) (tg26 x2) (tg1 x2) (tg3 x2)) s.heap.size = A at hD ⊢
  have hA : ∀ q : Nat, s.heap.size ≤ q → A q := fun q h => by rw [← hAe]; exact Or.inr h
  have hl := lv_entry ([.ref q_t]) (n := 3) (Nat.le_of_ble_eq_true rfl)
  rw [lg_entry_eq]
  generalize (lg_sl ([.ref q_t]) ++ List.replicate (3 - (lg_sl ([.ref q_t])).length) Slot.unset).toArray = ls at hl ⊢
  have hl : lv_has ls 3 [(0, .ref q_t)] := hl
  have hS : ∀ H : Heap, s.heap = H → va_S A s.heap H [] := fun H h => h ▸ va_S.rf
  generalize hH : s.heap = H at hP ⊢
  have hS := hS H hH
  unfold FX9_timesNow at hF
  refine lv_iconst (v := 0) hx hb dX9_timesNow_0 (by decide) ?_
  refine lv_istore_n (lv' := [(1, .int 0), (0, .ref q_t)]) hx hb dX9_timesNow_1 rfl hl (by decide) rfl (fun ls hl => ?_)
  refine lv_iconst (v := 0) hx hb dX9_timesNow_2 (by decide) ?_
  refine lv_istore_n (lv' := [(2, .int 0), (1, .int 0), (0, .ref q_t)]) hx hb dX9_timesNow_3 rfl hl (by decide) rfl (fun ls hl => ?_)
  refine lv_iload_n hx hb dX9_timesNow_4 rfl (lv_at hl 0 rfl) ?_
  refine lv_aload_n hx hb dX9_timesNow_5 rfl (lv_at hl 2 rfl) ?_
  refine va_get (D := D) (ci := 9) (v := .ref q_t_tracks) (C := RX9) (T := TX9) (N := 9) hx hb hts i_X9_timesNow_X9 hown hE.1 hP 0 rfl rfl 0 (by decide) (hts (.fieldLink RX9 11 "NeedleHouse" "tracks" "[LNeedleHouse$Track;") (List.mem_cons_of_mem _ (List.mem_of_getElem? (i := 5) rfl))) (fun _ h9 => h9) rfl dX9_timesNow_6 ?_
  refine va_alen (v := 3) hx hb hE.1 hP 1 4 rfl rfl rfl dX9_timesNow_9 ?_
  refine lv_icmp_ge (tgt := 33) hx hb dX9_timesNow_10 (by decide) (fun c1 => ?_) (fun c1 => ?_)
  · exact absurd c1 (by decide)
  · refine lv_iload_n hx hb dX9_timesNow_13 rfl (lv_at hl 1 rfl) ?_
    refine lv_aload_n hx hb dX9_timesNow_14 rfl (lv_at hl 2 rfl) ?_
    refine va_get (D := D) (ci := 9) (v := .ref q_t_tracks) (C := RX9) (T := TX9) (N := 9) hx hb hts i_X9_timesNow_X9 hown hE.1 hP 0 rfl rfl 0 (by decide) (hts (.fieldLink RX9 11 "NeedleHouse" "tracks" "[LNeedleHouse$Track;") (List.mem_cons_of_mem _ (List.mem_of_getElem? (i := 5) rfl))) (fun _ h9 => h9) rfl dX9_timesNow_15 ?_
    refine lv_iload_n hx hb dX9_timesNow_18 rfl (lv_at hl 0 rfl) ?_
    refine va_aldq hx hb hE.1 hP 1 4 rfl rfl vp3_0 dX9_timesNow_19 ?_
    refine W.eq (g2 := F0 m 20 ls [.ref ((a0 0)), .int 0]) rfl ?_
    obtain ⟨r2, h3, hF⟩ := ob1_ex hF
    refine xiR (va_runV (As := []) (rest := [.int 0]) ⟨hx, hb, hml, hown, hts⟩ (met_X6_times l D ct (a0 0) (a0 1) (a0 3) (a0 5) (a0 10) (a0 19) (a0 20) (a0 21) (a0 2) (a0 4) H.size (tg26 x0) (tg1 x0) (tg3 x0) n r2 h3) (cwV 0 hts (gqV CW9_good (List.mem_of_getElem? (i := 503) rfl) (List.mem_of_getElem? (i := 220) rfl) (List.mem_of_getElem? (i := 221) rfl) (List.mem_of_getElem? (i := 7) rfl) gcw9_X6_times) rfl rfl rfl (by decide +kernel) ⟨Nat.le_of_ble_eq_true rfl, Nat.le_of_ble_eq_true rfl⟩) ⟨blind_, va_recv hE.1 hP (ci := 6) (q0 := 2) rfl rfl, mkpre_ hE (hP.sub [2, 3, 4] rfl) (hD.sub [2, 3, 4] (by decide) rfl)⟩ rfl rfl hl.1 rfl (lv_room (Nat.le_of_ble_eq_true rfl)) dX9_timesNow_20 ⟨Nat.le_of_ble_eq_true rfl, Nat.le_of_ble_eq_true rfl⟩) hP hD hS hA [2, 3, 4] rfl (fun H locs hP hD hS => ?_)
    refine va_mmax hx hb (hml.trans hl.1.symm) hown (hts (.methodLink RX9 245 Lib.Math.max.name) (List.mem_cons_of_mem _ (List.mem_of_getElem? (i := 502) rfl))) (hts (.static Lib.Math.max.name) (List.mem_cons_of_mem _ (List.mem_of_getElem? (i := 224) rfl))) (hts (.initialized "java/lang/Math") (List.mem_cons_of_mem _ (List.mem_of_getElem? (i := 209) rfl))) (hts (.code Lib.Math.max.name Lib.Math.max.code 2 (some .int)) (List.mem_cons_of_mem _ (List.mem_of_getElem? (i := 225) rfl))) (Nat.le_of_ble_eq_true rfl) (Nat.le_of_ble_eq_true rfl) (Nat.zero_le _) (Nat.zero_le _) dX9_timesNow_23 ?_
    refine lv_topi (fun x4 ex4 => ?_)
    have hF := bn_as ex4 hF
    refine lv_istore_n (lv' := [(1, .int x4), (2, .int 0), (0, .ref q_t)]) hx hb dX9_timesNow_26 rfl hl (by decide) rfl (fun ls hl => ?_)
    refine lv_iinc (v := 1) (lv' := [(2, .int 1), (1, .int x4), (0, .ref q_t)]) hx hb dX9_timesNow_27 hl (k := 1) rfl (by decide) (by decide) rfl (fun ls hl => ?_)
    refine lv_goto (tgt := 4) hx hb dX9_timesNow_30 (by decide) ?_
    refine lv_iload_n hx hb dX9_timesNow_4 rfl (lv_at hl 0 rfl) ?_
    refine lv_aload_n hx hb dX9_timesNow_5 rfl (lv_at hl 2 rfl) ?_
    refine va_get (D := D) (ci := 9) (v := .ref q_t_tracks) (C := RX9) (T := TX9) (N := 9) hx hb hts i_X9_timesNow_X9 hown hE.1 hP 0 rfl rfl 0 (by decide) (hts (.fieldLink RX9 11 "NeedleHouse" "tracks" "[LNeedleHouse$Track;") (List.mem_cons_of_mem _ (List.mem_of_getElem? (i := 5) rfl))) (fun _ h9 => h9) rfl dX9_timesNow_6 ?_
    refine va_alen (v := 3) hx hb hE.1 hP 1 4 rfl rfl rfl dX9_timesNow_9 ?_
    refine lv_icmp_ge (tgt := 33) hx hb dX9_timesNow_10 (by decide) (fun c5 => ?_) (fun c5 => ?_)
    · exact absurd c5 (by decide)
    · refine lv_iload_n hx hb dX9_timesNow_13 rfl (lv_at hl 1 rfl) ?_
      refine lv_aload_n hx hb dX9_timesNow_14 rfl (lv_at hl 2 rfl) ?_
      refine va_get (D := D) (ci := 9) (v := .ref q_t_tracks) (C := RX9) (T := TX9) (N := 9) hx hb hts i_X9_timesNow_X9 hown hE.1 hP 0 rfl rfl 0 (by decide) (hts (.fieldLink RX9 11 "NeedleHouse" "tracks" "[LNeedleHouse$Track;") (List.mem_cons_of_mem _ (List.mem_of_getElem? (i := 5) rfl))) (fun _ h9 => h9) rfl dX9_timesNow_15 ?_
      refine lv_iload_n hx hb dX9_timesNow_18 rfl (lv_at hl 0 rfl) ?_
      refine va_aldq hx hb hE.1 hP 1 4 rfl rfl vp3_1 dX9_timesNow_19 ?_
      refine W.eq (g2 := F0 m 20 ls [.ref ((a1 0)), .int x4]) rfl ?_
      obtain ⟨r6, h7, hF⟩ := ob1_ex hF
      refine xiR (va_runV (As := []) (rest := [.int x4]) ⟨hx, hb, hml, hown, hts⟩ (met_X6_times l D ct (a1 0) (a1 1) (a1 3) (a1 5) (a1 10) (a1 19) (a1 20) (a1 21) (a1 2) (a1 4) H.size (tg26 x1) (tg1 x1) (tg3 x1) n r6 h7) (cwV 0 hts (gqV CW9_good (List.mem_of_getElem? (i := 503) rfl) (List.mem_of_getElem? (i := 220) rfl) (List.mem_of_getElem? (i := 221) rfl) (List.mem_of_getElem? (i := 7) rfl) gcw9_X6_times) rfl rfl rfl (by decide +kernel) ⟨Nat.le_of_ble_eq_true rfl, Nat.le_of_ble_eq_true rfl⟩) ⟨blind_, va_recv hE.1 hP (ci := 6) (q0 := 5) rfl rfl, mkpre_ hE (hP.sub [5, 6, 7] rfl) (hD.sub [5, 6, 7] (by decide) rfl)⟩ rfl rfl hl.1 rfl (lv_room (Nat.le_of_ble_eq_true rfl)) dX9_timesNow_20 ⟨Nat.le_of_ble_eq_true rfl, Nat.le_of_ble_eq_true rfl⟩) hP hD hS hA [5, 6, 7] rfl (fun H locs hP hD hS => ?_)
      refine va_mmax hx hb (hml.trans hl.1.symm) hown (hts (.methodLink RX9 245 Lib.Math.max.name) (List.mem_cons_of_mem _ (List.mem_of_getElem? (i := 502) rfl))) (hts (.static Lib.Math.max.name) (List.mem_cons_of_mem _ (List.mem_of_getElem? (i := 224) rfl))) (hts (.initialized "java/lang/Math") (List.mem_cons_of_mem _ (List.mem_of_getElem? (i := 209) rfl))) (hts (.code Lib.Math.max.name Lib.Math.max.code 2 (some .int)) (List.mem_cons_of_mem _ (List.mem_of_getElem? (i := 225) rfl))) (Nat.le_of_ble_eq_true rfl) (Nat.le_of_ble_eq_true rfl) (Nat.zero_le _) (Nat.zero_le _) dX9_timesNow_23 ?_
      refine lv_topi (fun x8 ex8 => ?_)
      have hF := bn_as ex8 hF
      refine lv_istore_n (lv' := [(1, .int x8), (2, .int 1), (0, .ref q_t)]) hx hb dX9_timesNow_26 rfl hl (by decide) rfl (fun ls hl => ?_)
      refine lv_iinc (v := 2) (lv' := [(2, .int 2), (1, .int x8), (0, .ref q_t)]) hx hb dX9_timesNow_27 hl (k := 1) rfl (by decide) (by decide) rfl (fun ls hl => ?_)
      refine lv_goto (tgt := 4) hx hb dX9_timesNow_30 (by decide) ?_
      refine lv_iload_n hx hb dX9_timesNow_4 rfl (lv_at hl 0 rfl) ?_
      refine lv_aload_n hx hb dX9_timesNow_5 rfl (lv_at hl 2 rfl) ?_
      refine va_get (D := D) (ci := 9) (v := .ref q_t_tracks) (C := RX9) (T := TX9) (N := 9) hx hb hts i_X9_timesNow_X9 hown hE.1 hP 0 rfl rfl 0 (by decide) (hts (.fieldLink RX9 11 "NeedleHouse" "tracks" "[LNeedleHouse$Track;") (List.mem_cons_of_mem _ (List.mem_of_getElem? (i := 5) rfl))) (fun _ h9 => h9) rfl dX9_timesNow_6 ?_
      refine va_alen (v := 3) hx hb hE.1 hP 1 4 rfl rfl rfl dX9_timesNow_9 ?_
      refine lv_icmp_ge (tgt := 33) hx hb dX9_timesNow_10 (by decide) (fun c9 => ?_) (fun c9 => ?_)
      · exact absurd c9 (by decide)
      · refine lv_iload_n hx hb dX9_timesNow_13 rfl (lv_at hl 1 rfl) ?_
        refine lv_aload_n hx hb dX9_timesNow_14 rfl (lv_at hl 2 rfl) ?_
        refine va_get (D := D) (ci := 9) (v := .ref q_t_tracks) (C := RX9) (T := TX9) (N := 9) hx hb hts i_X9_timesNow_X9 hown hE.1 hP 0 rfl rfl 0 (by decide) (hts (.fieldLink RX9 11 "NeedleHouse" "tracks" "[LNeedleHouse$Track;") (List.mem_cons_of_mem _ (List.mem_of_getElem? (i := 5) rfl))) (fun _ h9 => h9) rfl dX9_timesNow_15 ?_
        refine lv_iload_n hx hb dX9_timesNow_18 rfl (lv_at hl 0 rfl) ?_
        refine va_aldq hx hb hE.1 hP 1 4 rfl rfl vp3_2 dX9_timesNow_19 ?_
        refine W.eq (g2 := F0 m 20 ls [.ref ((a2 0)), .int x8]) rfl ?_
        obtain ⟨r10, h11, hF⟩ := ob1_ex hF
        refine xiR (va_runV (As := []) (rest := [.int x8]) ⟨hx, hb, hml, hown, hts⟩ (met_X6_times l D ct (a2 0) (a2 1) (a2 3) (a2 5) (a2 10) (a2 19) (a2 20) (a2 21) (a2 2) (a2 4) H.size (tg26 x2) (tg1 x2) (tg3 x2) n r10 h11) (cwV 0 hts (gqV CW9_good (List.mem_of_getElem? (i := 503) rfl) (List.mem_of_getElem? (i := 220) rfl) (List.mem_of_getElem? (i := 221) rfl) (List.mem_of_getElem? (i := 7) rfl) gcw9_X6_times) rfl rfl rfl (by decide +kernel) ⟨Nat.le_of_ble_eq_true rfl, Nat.le_of_ble_eq_true rfl⟩) ⟨blind_, va_recv hE.1 hP (ci := 6) (q0 := 8) rfl rfl, mkpre_ hE (hP.sub [8, 9, 10] rfl) (hD.sub [8, 9, 10] (by decide) rfl)⟩ rfl rfl hl.1 rfl (lv_room (Nat.le_of_ble_eq_true rfl)) dX9_timesNow_20 ⟨Nat.le_of_ble_eq_true rfl, Nat.le_of_ble_eq_true rfl⟩) hP hD hS hA [8, 9, 10] rfl (fun H locs hP hD hS => ?_)
        refine va_mmax hx hb (hml.trans hl.1.symm) hown (hts (.methodLink RX9 245 Lib.Math.max.name) (List.mem_cons_of_mem _ (List.mem_of_getElem? (i := 502) rfl))) (hts (.static Lib.Math.max.name) (List.mem_cons_of_mem _ (List.mem_of_getElem? (i := 224) rfl))) (hts (.initialized "java/lang/Math") (List.mem_cons_of_mem _ (List.mem_of_getElem? (i := 209) rfl))) (hts (.code Lib.Math.max.name Lib.Math.max.code 2 (some .int)) (List.mem_cons_of_mem _ (List.mem_of_getElem? (i := 225) rfl))) (Nat.le_of_ble_eq_true rfl) (Nat.le_of_ble_eq_true rfl) (Nat.zero_le _) (Nat.zero_le _) dX9_timesNow_23 ?_
        refine lv_topi (fun x12 ex12 => ?_)
        have hF := bn_as ex12 hF
        refine lv_istore_n (lv' := [(1, .int x12), (2, .int 2), (0, .ref q_t)]) hx hb dX9_timesNow_26 rfl hl (by decide) rfl (fun ls hl => ?_)
        refine lv_iinc (v := 3) (lv' := [(2, .int 3), (1, .int x12), (0, .ref q_t)]) hx hb dX9_timesNow_27 hl (k := 1) rfl (by decide) (by decide) rfl (fun ls hl => ?_)
        refine lv_goto (tgt := 4) hx hb dX9_timesNow_30 (by decide) ?_
        refine lv_iload_n hx hb dX9_timesNow_4 rfl (lv_at hl 0 rfl) ?_
        refine lv_aload_n hx hb dX9_timesNow_5 rfl (lv_at hl 2 rfl) ?_
        refine va_get (D := D) (ci := 9) (v := .ref q_t_tracks) (C := RX9) (T := TX9) (N := 9) hx hb hts i_X9_timesNow_X9 hown hE.1 hP 0 rfl rfl 0 (by decide) (hts (.fieldLink RX9 11 "NeedleHouse" "tracks" "[LNeedleHouse$Track;") (List.mem_cons_of_mem _ (List.mem_of_getElem? (i := 5) rfl))) (fun _ h9 => h9) rfl dX9_timesNow_6 ?_
        refine va_alen (v := 3) hx hb hE.1 hP 1 4 rfl rfl rfl dX9_timesNow_9 ?_
        refine lv_icmp_ge (tgt := 33) hx hb dX9_timesNow_10 (by decide) (fun c13 => ?_) (fun c13 => ?_)
        · refine lv_iload_n hx hb dX9_timesNow_33 rfl (lv_at hl 1 rfl) ?_
          obtain rfl := Option.some.inj hF
          exact W.iret hx hb hr (fun t ht hW => ⟨⟨_, (), rfl, rfl, vaP_at ht hP⟩, hS.F ht⟩) hS.2.2 dX9_timesNow_34
        · exact absurd c13 (by decide)
def W_63 (ct : Nat → ClassId) (a0 a1 a2 a3 a4 a5 a6 a7 a8 a9 a10 a11 a12 a13 a14 a15 a16 a17 a18 a19 a20 a21 a22 a23 a24 a25 a26 a27 a28 a29 a30 a31 a32 a33 a34 a35 a36 a37 a38 : Nat) (v0 : Int32) (v1 : Int32) (v2 : Int32) (v3 : Int32) (v4 : Int32) (v5 : Int32) (v6 : Int32) (v7 : Int32) (v8 : Int32) (v9 : Int32) (v10 : Int32) (v11 : Int32) (v12 : Int32) (v13 : Int32) (v14 : Int32) (v15 : Int32) (v16 : Int32) (v17 : Int32) (v18 : Int32) : va_W := [(a0, .inr (9, [.ref a1, .ref a2, .ref a3, .ref a4, .ref a5, .ref a6, .ref a7, .int v0, .int v1])), (a1, .inl (ct 4, 3, .inr (.inr (.inr (.inr (trk a8 a9 a10)))))), (a4, .inr (3, [.int v2, .int v3, .int v4, .int v5, .int v6, .int v7, .ref a11, .int v8, .int v9])), (a8, .inr (6, [.ref a12, .ref a13, .ref a14, .ref a15, .ref a16, .ref a17, .ref a18, .int v10])), (a12, .inr (2, [.ref a19, .int v11])), (a13, .inr (2, [.ref a20, .int v12])), (a9, .inr (6, [.ref a21, .ref a22, .ref a23, .ref a24, .ref a25, .ref a26, .ref a27, .int v13])), (a21, .inr (2, [.ref a28, .int v14])), (a22, .inr (2, [.ref a29, .int v15])), (a10, .inr (6, [.ref a30, .ref a31, .ref a32, .ref a33, .ref a34, .ref a35, .ref a36, .int v16])), (a30, .inr (2, [.ref a37, .int v17])), (a31, .inr (2, [.ref a38, .int v18]))]
theorem i_X9_windowsNow_X9 : ∀ w ∈ wsX90, w ∈ wvX9_windowsNow := fun w h => List.mem_cons_of_mem _ (iCW9_X9 w h)
set_option maxHeartbeats 4000000 in
set_option maxRecDepth 100000 in
theorem met_X9_windowsNow (l : Launch) (D : va_G) (ct : Nat → ClassId) (adK adV : Nat → Nat) (hst : l.stackTraces = false) (q_t q_t_tracks q_t_reader q_t_reader_tape q_t_reader_tape_bytes q_t_ruling q_t_ruling_steps q_t_draft q_t_draft_steps q_t_trains q_t_trains_going q_t_windows q_t_windows_indices : Nat) (a0 a1 a2 : Nat → Nat) (sz : Nat) (t_endNow : Int32) (t_timesPublished : Int32) (t_reader_tape_bytes : Nat → Int32) (t_reader_tape_size : Int32) (t_reader_length : Int32) (t_reader_place : Int32) (t_reader_numberPlace : Int32) (t_reader_faultKind : Int32) (t_reader_faultPlace : Int32) (t_ruling_limit : Int32) (t_ruling_near : Int32) (t_ruling_share : Int32) (t_ruling_shareOf : Int32) (t_ruling_window : Int32) (t_ruling_storm : Int32) (t_ruling_steps : Nat → Int32) (t_ruling_stepCount : Int32) (t_ruling_clauses : Int32) (t_draft_limit : Int32) (t_draft_near : Int32) (t_draft_share : Int32) (t_draft_shareOf : Int32) (t_draft_window : Int32) (t_draft_storm : Int32) (t_draft_steps : Nat → Int32) (t_draft_stepCount : Int32) (t_draft_clauses : Int32) (t_trains_going : Nat → Int32) (t_trains_size : Int32) (t_windows_indices : Nat → Int32) (t_windows_size : Int32) (x0 x1 x2 : TS) (n : Nat) (o_r : Int32) (hF : FX9_windowsNow n t_ruling_window x0 x1 x2 = some (o_r)) : Met l yX9_windowsNow wvX9_windowsNow ({ frames := 3, cells := 0, slots := 0, locals := 62 } : Room) (va_Pc [.ref q_t] (pre_ D ct sz (W_63 ct q_t q_t_tracks q_t_reader q_t_reader_tape q_t_ruling q_t_draft q_t_trains q_t_windows (a0 0) (a1 0) (a2 0) q_t_ruling_steps (a0 1) (a0 3) (a0 5) (a0 10) (a0 19) (a0 20) (a0 21) (a0 2) (a0 4) (a1 1) (a1 3) (a1 5) (a1 10) (a1 19) (a1 20) (a1 21) (a1 2) (a1 4) (a2 1) (a2 3) (a2 5) (a2 10) (a2 19) (a2 20) (a2 21) (a2 2) (a2 4) t_endNow t_timesPublished t_ruling_limit t_ruling_near t_ruling_share t_ruling_shareOf t_ruling_window t_ruling_storm t_ruling_stepCount t_ruling_clauses (tg26 x0) (tg1 x0) (tg3 x0) (tg26 x1) (tg1 x1) (tg3 x1) (tg26 x2) (tg1 x2) (tg3 x2)))) (va_Qi (fun r (_ : Unit) => r = o_r) (fun _ t => va_P D vwCl (W_63 ct q_t q_t_tracks q_t_reader q_t_reader_tape q_t_ruling q_t_draft q_t_trains q_t_windows (a0 0) (a1 0) (a2 0) q_t_ruling_steps (a0 1) (a0 3) (a0 5) (a0 10) (a0 19) (a0 20) (a0 21) (a0 2) (a0 4) (a1 1) (a1 3) (a1 5) (a1 10) (a1 19) (a1 20) (a1 21) (a1 2) (a1 4) (a2 1) (a2 3) (a2 5) (a2 10) (a2 19) (a2 20) (a2 21) (a2 2) (a2 4) t_endNow t_timesPublished t_ruling_limit t_ruling_near t_ruling_share t_ruling_shareOf t_ruling_window t_ruling_storm t_ruling_stepCount t_ruling_clauses (tg26 x0) (tg1 x0) (tg3 x0) (tg26 x1) (tg1 x1) (tg3 x1) (tg26 x2) (tg1 x2) (tg3 x2)) t.heap) (va_A (W_63 ct q_t q_t_tracks q_t_reader q_t_reader_tape q_t_ruling q_t_draft q_t_trains q_t_windows (a0 0) (a1 0) (a2 0) q_t_ruling_steps (a0 1) (a0 3) (a0 5) (a0 10) (a0 19) (a0 20) (a0 21) (a0 2) (a0 4) (a1 1) (a1 3) (a1 5) (a1 10) (a1 19) (a1 20) (a1 21) (a1 2) (a1 4) (a2 1) (a2 3) (a2 5) (a2 10) (a2 19) (a2 20) (a2 21) (a2 2) (a2 4) t_endNow t_timesPublished t_ruling_limit t_ruling_near t_ruling_share t_ruling_shareOf t_ruling_window t_ruling_storm t_ruling_stepCount t_ruling_clauses (tg26 x0) (tg1 x0) (tg3 x0) (tg26 x1) (tg1 x1) (tg3 x1) (tg26 x2) (tg1 x2) (tg3 x2)) sz)) 0 0 (va_A (W_63 ct q_t q_t_tracks q_t_reader q_t_reader_tape q_t_ruling q_t_draft q_t_trains q_t_windows (a0 0) (a1 0) (a2 0) q_t_ruling_steps (a0 1) (a0 3) (a0 5) (a0 10) (a0 19) (a0 20) (a0 21) (a0 2) (a0 4) (a1 1) (a1 3) (a1 5) (a1 10) (a1 19) (a1 20) (a1 21) (a1 2) (a1 4) (a2 1) (a2 3) (a2 5) (a2 10) (a2 19) (a2 20) (a2 21) (a2 2) (a2 4) t_endNow t_timesPublished t_ruling_limit t_ruling_near t_ruling_share t_ruling_shareOf t_ruling_window t_ruling_storm t_ruling_stepCount t_ruling_clauses (tg26 x0) (tg1 x0) (tg3 x0) (tg26 x1) (tg1 x1) (tg3 x1) (tg26 x2) (tg1 x2) (tg3 x2)) sz) := by
  refine Met.ofW (cc := cX9_windowsNow) (maxL := 1) (ret := (some .int)) (by decide) rfl ?_
  intro p e s m args below meth c s₁ B hml hv
  obtain ⟨rfl, hsz, hP, hE, hD0⟩ := hv
  have hx := B.exec
  have hb := B.bytes
  have hr := B.returns
  have hts := atoms_spec (ws := wvX9_windowsNow) B.pre
  have hown : s.vm.findClass RX9 = some m.cls := findClass_of_methodNamed B.named
  have hlocks := B.notSynchronized
  subst hsz
  have hD := hD0.self (sz := s.heap.size)
  generalize hAe : va_A (W_63 ct q_t q_t_tracks q_t_reader q_t_reader_tape q_t_ruling q_t_draft q_t_trains q_t_windows (a0 0) (a1 0) (a2 0) q_t_ruling_steps (a0 1) (a0 3) (a0 5) (a0 10) (a0 19) (a0 20) (a0 21) (a0 2) (a0 4) (a1 1) (a1 3) (a1 5) (a1 10) (a1 19) (a1 20) (a1 21) (a1 2) (a1 4) (a2 1) (a2 3) (a2 5) (a2 10) (a2 19) (a2 20) (a2 21) (a2 2) (a2 4) t_endNow t_timesPublished t_ruling_limit t_ruling_near t_ruling_share t_ruling_shareOf t_ruling_window t_ruling_storm t_ruling_stepCount t_ruling_clauses (tg26 x0) (tg1 x0) (tg3 x0) (tg26 x1) (tg1 x1) (tg3 x1) (tg26 x2) (tg1 x2) (tg3 x2)) s.heap.size = A at hD ⊢
  have hA : ∀ q : Nat, s.heap.size ≤ q → A q := fun q h => by rw [← hAe]; exact Or.inr h
  have hl := lv_entry ([.ref q_t]) (n := 1) (Nat.le_of_ble_eq_true rfl)
  rw [lg_entry_eq]
  generalize (lg_sl ([.ref q_t]) ++ List.replicate (1 - (lg_sl ([.ref q_t])).length) Slot.unset).toArray = ls at hl ⊢
  have hl : lv_has ls 1 [(0, .ref q_t)] := hl
  have hS : ∀ H : Heap, s.heap = H → va_S A s.heap H [] := fun H h => h ▸ va_S.rf
  generalize hH : s.heap = H at hP ⊢
  have hS := hS H hH
  unfold FX9_windowsNow at hF
  refine lv_aload_n hx hb dX9_windowsNow_0 rfl (lv_at hl 0 rfl) ?_
  refine va_get (D := D) (ci := 9) (v := .ref q_t_ruling) (C := RX9) (T := TX9) (N := 9) hx hb hts i_X9_windowsNow_X9 hown hE.1 hP 0 rfl rfl 3 (by decide) (hts (.fieldLink RX9 31 "NeedleHouse" "ruling" "LNeedleHouse$Rule;") (List.mem_cons_of_mem _ (List.mem_of_getElem? (i := 16) rfl))) (fun _ h9 => h9) rfl dX9_windowsNow_1 ?_
  refine lv_aload_n hx hb dX9_windowsNow_4 rfl (lv_at hl 0 rfl) ?_
  obtain ⟨r1, h2, hF⟩ := ob1_ex hF
  refine xiR (va_runV (As := []) (rest := [.ref q_t_ruling]) ⟨hx, hb, hml, hown, hts⟩ (met_X9_timesNow l D ct adK adV hst q_t q_t_tracks q_t_reader q_t_reader_tape q_t_reader_tape_bytes q_t_ruling q_t_ruling_steps q_t_draft q_t_draft_steps q_t_trains q_t_trains_going q_t_windows q_t_windows_indices a0 a1 a2 H.size t_endNow t_timesPublished t_reader_tape_bytes t_reader_tape_size t_reader_length t_reader_place t_reader_numberPlace t_reader_faultKind t_reader_faultPlace t_ruling_limit t_ruling_near t_ruling_share t_ruling_shareOf t_ruling_window t_ruling_storm t_ruling_steps t_ruling_stepCount t_ruling_clauses t_draft_limit t_draft_near t_draft_share t_draft_shareOf t_draft_window t_draft_storm t_draft_steps t_draft_stepCount t_draft_clauses t_trains_going t_trains_size t_windows_indices t_windows_size x0 x1 x2 n r1 h2) (cwV 0 hts (gqV CW9_good (List.mem_of_getElem? (i := 504) rfl) (List.mem_of_getElem? (i := 505) rfl) (List.mem_of_getElem? (i := 506) rfl) (List.mem_of_getElem? (i := 151) rfl) (gself CW9_good (List.mem_of_getElem? (i := 501) rfl))) rfl rfl rfl (by decide +kernel) ⟨Nat.le_of_ble_eq_true rfl, Nat.le_of_ble_eq_true rfl⟩) ⟨blind_, va_recv hE.1 hP (ci := 9) (q0 := 0) rfl rfl, mkpre_ hE (hP.sub [0, 1, 3, 4, 5, 6, 7, 8, 9, 10, 11] rfl) (hD.sub [0, 1, 3, 4, 5, 6, 7, 8, 9, 10, 11] (by decide) rfl)⟩ rfl rfl hl.1 rfl (lv_room (Nat.le_of_ble_eq_true rfl)) dX9_windowsNow_5 ⟨Nat.le_of_ble_eq_true rfl, Nat.le_of_ble_eq_true rfl⟩) hP hD hS hA [0, 1, 3, 4, 5, 6, 7, 8, 9, 10, 11] rfl (fun H locs hP hD hS => ?_)
  obtain ⟨r3, h4, hF⟩ := ob1_ex hF
  refine xiR (va_runV (As := [.int r1]) (rest := []) ⟨hx, hb, hml, hown, hts⟩ (met_X3_windowsBelow l D ct q_t_ruling q_t_ruling_steps H.size t_ruling_limit t_ruling_near t_ruling_share t_ruling_shareOf t_ruling_window t_ruling_storm t_ruling_stepCount t_ruling_clauses r1 n r3 h4) (cwV 1 hts (gqV CW9_good (List.mem_of_getElem? (i := 507) rfl) (List.mem_of_getElem? (i := 508) rfl) (List.mem_of_getElem? (i := 509) rfl) (List.mem_of_getElem? (i := 15) rfl) gcw9_X3_windowsBelow) rfl rfl rfl (by decide +kernel) ⟨Nat.le_of_ble_eq_true rfl, Nat.le_of_ble_eq_true rfl⟩) ⟨blind_, va_recv hE.1 hP (ci := 3) (q0 := 2) rfl rfl, mkpre_ hE (hP.sub [2] rfl) (hD.sub [2] (by decide) rfl)⟩ rfl rfl hl.1 rfl (lv_room (Nat.le_of_ble_eq_true rfl)) dX9_windowsNow_8 ⟨Nat.le_of_ble_eq_true rfl, Nat.le_of_ble_eq_true rfl⟩) hP hD hS hA [2] rfl (fun H locs hP hD hS => ?_)
  obtain rfl := Option.some.inj hF
  exact W.iret hx hb hr (fun t ht hW => ⟨⟨_, (), rfl, rfl, vaP_at ht hP⟩, hS.F ht⟩) hS.2.2 dX9_windowsNow_11
