/-! the law's wrappers: a call that answers into a cell, or throws and is caught -/
def preL (D : va_G) (ct : Nat → ClassId) (sz : Nat) (ws : va_W) (adK adV : Nat → Nat) (U : State) : Prop := preX D ct sz ws adK adV U ∧ va_Nc exA exI U
theorem blindL {D : va_G} {ct : Nat → ClassId} {sz : Nat} {ws : va_W} {adK adV : Nat → Nat} {av : List Value} : FrameBlind (va_Pc av (preL D ct sz ws adK adV)) := fun a U g mk q => by
  obtain ⟨q0, h1, h2⟩ := q
  exact ⟨q0, (blindX (av := av) a U g mk ⟨q0, h1⟩).2, va_Nc.moved (u := U) (U := U.calling g mk a) (Vm.Alike.refl U.vm) h2⟩
theorem mkpreL {D : va_G} {ct : Nat → ClassId} {ws : va_W} {adK adV : Nat → Nat} {av : List Value} {s : State} {H : Heap} {A : Nat → Prop} {locs : List Loc} (hE : EN D ct s) (hSE : SE adK adV A s s.heap) (hXE : XE A s s.heap) (hno : va_Nc exA exI s) (hS : va_S A s.heap H locs) (hF : ∀ q, va_A ws H.size q → A q) (hP : va_P D vwCl ws H) (hD : va_D A ws) : ∀ U : State, U.heap = H → s.WarmedH U.vm → va_Pc av (preL D ct H.size ws adK adV) av.toArray U :=
  fun U hU hW => ⟨rfl, (mkpreX (av := av) hE hSE hXE hS hF hP hD U hU hW).2, va_Nc.moved hW.alike hno⟩
def CW (l : Launch) (y : MethodName) (cw : List Cond) (rm : Room) (av : List Value) (D : va_G) (ct : Nat → ClassId) (adK adV : Nat → Nat) (oc oc' : Nat × va_E) (wx wx' : va_W) (k : Int32) : Prop :=
  ∀ sz : Nat, Met l y cw rm (va_Pc av (preL D ct sz (oc :: wx) adK adV)) (va_Qi (fun q (_ : Unit) => q = k) (fun _ t => va_P D vwCl (oc' :: wx') t.heap) (va_A (oc :: wx) sz)) 1 6 (va_A (oc :: wx) sz)
def rmW : Room := { frames := 9, cells := 1, slots := 6, locals := 240 }
def ocell (ct : Nat → ClassId) (qo : Nat) (ov : Nat → Int64) : Nat × va_E := (qo, .inl (ct 1, 1, .inr (.inl ov)))
theorem vp1 : vp_in (0 : Int32) 1 := by unfold vp_in; decide
theorem cst_I {s : State} {args : Array Value} {A : Nat → Prop} (h : XE A s s.heap) : (Cond.castable exI exI).before args s = true := va_tabs rfl rfl h.2.2.2.2.2.2.2.2.1
theorem cst_A {s : State} {args : Array Value} {A : Nat → Prop} (h : XE A s s.heap) : (Cond.castable exA exA).before args s = true := va_tabs rfl rfl h.2.2.2.2.2.2.2.2.2
section X2
variable {p : Program} {l : Launch} {e : Env} {R : Room} {s : State} {m : MethodId} {args : Array Value} {below : List Frame} {meth : Method} {c : Code} {H : Heap} {locs : List Loc} {cells slots mc ms : Nat} {Q : State → Prop}
variable {D : va_G} {w1 wc wc' : va_W} {A : Nat → Prop} {H0 : Heap} {a : Array Value} {pc : Nat} {ls : Array Slot} {st0 rest : List Value}
theorem xi2 {r1 : Int32} (hr : va_Run p l e R s m args below meth c H locs cells slots mc ms (F0 m pc ls st0) rest (va_Qi (fun r (_ : Unit) => r = r1) (fun _ t => va_P D vwCl wc' t.heap) (va_A wc H.size) a) (va_A wc H.size)) (hP : va_P D vwCl (w1 ++ wc) H) (hD : va_D A (w1 ++ wc)) (hS : va_S A H0 H locs) (hA : ∀ q, H0.size ≤ q → A q) (h4 : wc'.map Prod.fst = wc.map Prod.fst)
    (kk : ∀ (H1 : Heap) (locs1 : List Loc), va_P D vwCl (w1 ++ wc') H1 → va_D A (w1 ++ wc') → va_S A H0 H1 locs1 → W p l e R s m args below meth c H1 locs1 (cells + mc) (slots + ms) Q (F0 m (pc + 3) ls (.int r1 :: rest))) : W p l e R s m args below meth c H locs cells slots Q (F0 m pc ls st0) :=
  xi3 (w2 := []) hr (by rw [List.append_nil]; exact hP) (by rw [List.append_nil]; exact hD) hS hA h4 (fun H1 locs1 h1 h2 h3 => kk H1 locs1 (by rw [List.append_nil] at h1; exact h1) (by rw [List.append_nil] at h2; exact h2) h3)
theorem xc2 {cc : Nat} {r1 : Int32} (hr : vx_Run p l e R s m args below meth c H locs cells slots mc ms (F0 m pc ls st0) rest (va_Qi (fun r (_ : Unit) => cc = 0 ∧ r = r1) (fun _ t => va_P D vwCl wc' t.heap) (va_A wc H.size) a) (vx_X (fun (_ : Unit) => True) (fun E _ t => (E = exN cc ∧ ¬ cc = 0) ∧ va_P D vwCl wc' t.heap) (va_A wc H.size)) (va_A wc H.size)) (hP : va_P D vwCl (w1 ++ wc) H) (hD : va_D A (w1 ++ wc)) (hS : va_S A H0 H locs) (hA : ∀ q, H0.size ≤ q → A q) (h4 : wc'.map Prod.fst = wc.map Prod.fst)
    (kx : ¬ cc = 0 → ∀ (ce : Cell) (q9 : Addr) (H1 : Heap) (locs1 : List Loc), va_P D vwCl (w1 ++ wc') H1 → va_D A (w1 ++ wc') → va_S A H0 H1 locs1 → H1[q9]? = some ce → ce.vm = .none → s.vm.findClass (exN cc) = some ce.cls → vx_W p l e R s m args below meth c H1 locs1 (cells + mc) (slots + ms) Q (F0 m pc ls rest) q9)
    (kk : cc = 0 → ∀ (H1 : Heap) (locs1 : List Loc), va_P D vwCl (w1 ++ wc') H1 → va_D A (w1 ++ wc') → va_S A H0 H1 locs1 → W p l e R s m args below meth c H1 locs1 (cells + mc) (slots + ms) Q (F0 m (pc + 3) ls (.int r1 :: rest))) : W p l e R s m args below meth c H locs cells slots Q (F0 m pc ls st0) :=
  xc3 (w2 := []) hr (by rw [List.append_nil]; exact hP) (by rw [List.append_nil]; exact hD) hS hA h4
    (fun h0 ce q9 H1 locs1 h1 h2 h3 h4 h5 h6 => kx h0 ce q9 H1 locs1 (by rw [List.append_nil] at h1; exact h1) (by rw [List.append_nil] at h2; exact h2) h3 h4 h5 h6)
    (fun h0 H1 locs1 h1 h2 h3 => kk h0 H1 locs1 (by rw [List.append_nil] at h1; exact h1) (by rw [List.append_nil] at h2; exact h2) h3)
theorem s2_P {cl : List vw_C} (hP : va_P D cl (w1 ++ wc) H) : va_P D cl wc H := sg_P (w2 := []) (by rw [List.append_nil]; exact hP)
theorem s2_D (hD : va_D A (w1 ++ wc)) : va_D A wc := sg_D (w2 := []) (by rw [List.append_nil]; exact hD)
theorem s2_free (hD : va_D A (w1 ++ wc)) (hS : va_S A H0 H locs) (hA : ∀ q, H0.size ≤ q → A q) : ∀ q, va_A wc H.size q → A q := sg_free (w2 := []) (by rw [List.append_nil]; exact hD) hS hA
end X2
set_option maxHeartbeats 4000000 in
theorem wr_read {l : Launch} {D : va_G} {ct : Nat → ClassId} {adK adV : Nat → Nat} {q_t qo : Nat} {fs : List Value} {ov : Nat → Int64} {wx wx' : va_W} {p1 p2 p3 : Int32} {o_c : Nat} {o_r k : Int32} (hM : CX l yX9_read wvX9_read ({ frames := 8, cells := 1, slots := 6, locals := 143 } : Room) [.ref q_t, .int p1, .int p2, .int p3] D ct adK adV wx wx' o_c o_r) (h0 : wx[0]? = some (q_t, .inr (9, fs))) (h4 : wx'.map Prod.fst = wx.map Prod.fst) (hk0 : o_c = 0 → k = 0) (hc : o_c ≤ 2) (hk1 : o_c = 1 → k = 1) (hk2 : o_c = 2 → k = 2) :
    CW l yL_read wvL_read rmW [.ref q_t, .int p1, .int p2, .int p3, .ref qo] D ct adK adV (ocell ct qo ov) (ocell ct qo (if o_c = 0 then vp_updL ov 0 o_r.toInt64 else ov)) wx wx' k := by
  intro sz
  refine va_MetW (cc := cL_read) (maxL := 6) (ret := (some .int)) (hh := [(0, 12, 15, 13), (0, 12, 19, 15)]) (by decide) rfl ?_
  intro p e s m args below meth c s₁ B hml hv
  obtain ⟨rfl, ⟨⟨⟨hsz, hP, hE, hD0⟩, hSE⟩, hXE⟩, hno⟩ := hv
  have hx := B.exec
  have hb := B.bytes
  have hr := B.returns
  have hts := atoms_spec (ws := wvL_read) B.pre
  have hown : s.vm.findClass RL = some m.cls := findClass_of_methodNamed B.named
  have htab : c.exceptionTable.toList = tableOf [(0, 12, 15, 13), (0, 12, 19, 15)] := vx_table (x := yL_law) B (hts _ List.mem_cons_self)
  subst hsz
  have hD := hD0.self (sz := s.heap.size)
  generalize hAe : va_A (ocell ct qo ov :: wx) s.heap.size = A at hD hSE hXE ⊢
  have hA : ∀ q : Nat, s.heap.size ≤ q → A q := fun q h => by rw [← hAe]; exact Or.inr h
  have hl := lv_entry ([.ref q_t, .int p1, .int p2, .int p3, .ref qo]) (n := 6) (Nat.le_of_ble_eq_true rfl)
  rw [lg_entry_eq]
  generalize (lg_sl ([.ref q_t, .int p1, .int p2, .int p3, .ref qo]) ++ List.replicate (6 - (lg_sl ([.ref q_t, .int p1, .int p2, .int p3, .ref qo])).length) Slot.unset).toArray = ls at hl ⊢
  have hl : lv_has ls 6 [(0, .ref q_t), (1, .int p1), (2, .int p2), (3, .int p3), (4, .ref qo)] := hl
  have hS : ∀ H : Heap, s.heap = H → va_S A s.heap H [] := fun H h => h ▸ va_S.rf
  generalize hH : s.heap = H at hP ⊢
  have hS := hS H hH
  refine lv_aload hx hb dL_read_0 (lv_at hl 4 rfl) ?_
  refine lv_iconst (v := 0) hx hb dL_read_2 (by decide) ?_
  refine lv_aload_n hx hb dL_read_3 rfl (lv_at hl 0 rfl) ?_
  refine lv_iload_n hx hb dL_read_4 rfl (lv_at hl 1 rfl) ?_
  refine lv_iload_n hx hb dL_read_5 rfl (lv_at hl 2 rfl) ?_
  refine lv_iload_n hx hb dL_read_6 rfl (lv_at hl 3 rfl) ?_
  refine xc2 (w1 := [ocell ct qo ov]) (vx_runV (As := [.int p1, .int p2, .int p3]) (rest := [.int 0, .ref qo]) ⟨hx, hb, hml, hown, hts⟩ (hM H.size) (cwV 3 hts (goodIn_up gl9_read) rfl rfl rfl (by decide +kernel) ⟨Nat.le_of_ble_eq_true rfl, Nat.le_of_ble_eq_true rfl⟩) ⟨blindX, va_recv hE.1 (s2_P (w1 := [ocell ct qo ov]) hP) (ci := 9) (q0 := 0) rfl h0, mkpreX hE hSE hXE hS (s2_free (w1 := [ocell ct qo ov]) hD hS hA) (s2_P (w1 := [ocell ct qo ov]) hP) (s2_D (w1 := [ocell ct qo ov]) hD)⟩ rfl rfl hl.1 rfl (lv_room (Nat.le_of_ble_eq_true rfl)) dL_read_7 ⟨Nat.le_of_ble_eq_true rfl, Nat.le_of_ble_eq_true rfl⟩) hP hD hS hA h4 ?_ ?_
  · intro hc0 ce q9 H locs hP hD hS hce hcv hcl
    rw [if_neg hc0]
    rcases (show o_c = 1 ∨ o_c = 2 by omega) with e9 | e9
    · have hcl : s.vm.findClass exI = some ce.cls := by rw [e9] at hcl; exact hcl
      refine cq_first (E := exI) hown htab rfl (by decide) (hts _ (List.mem_cons_of_mem _ cLI)) (cst_I hXE) hce hcv hcl ?_
      refine lv_astore (lv' := [(5, .ref q9), (0, .ref q_t), (1, .int p1), (2, .int p2), (3, .int p3), (4, .ref qo)]) hx hb dL_read_15 hl (by decide) rfl (fun ls hl => ?_)
      refine lv_iconst (v := 1) hx hb dL_read_17 (by decide) ?_
      exact W.iret hx hb hr (fun t ht hW => ⟨⟨_, (), rfl, (hk1 e9).symm, vaP_at ht hP⟩, hS.F ht⟩) hS.2.2 dL_read_18
    · have hcl : s.vm.findClass exA = some ce.cls := by rw [e9] at hcl; exact hcl
      refine cq_second (E := exA) hown htab rfl (by decide) (hts _ (List.mem_cons_of_mem _ cLI)) hno rfl (by decide) (hts _ (List.mem_cons_of_mem _ cLA)) (cst_A hXE) hce hcv hcl ?_
      refine lv_astore (lv' := [(5, .ref q9), (0, .ref q_t), (1, .int p1), (2, .int p2), (3, .int p3), (4, .ref qo)]) hx hb dL_read_19 hl (by decide) rfl (fun ls hl => ?_)
      refine lv_iconst (v := 2) hx hb dL_read_21 (by decide) ?_
      exact W.iret hx hb hr (fun t ht hW => ⟨⟨_, (), rfl, (hk2 e9).symm, vaP_at ht hP⟩, hS.F ht⟩) hS.2.2 dL_read_22
  · intro hc0 H locs hP hD hS
    rw [if_pos hc0]
    refine lv_i2l (v := o_r.toInt64) hx hb dL_read_10 rfl ?_
    refine va_last hx hb hE.1 hP hD hS 0 1 rfl rfl vp1 dL_read_11 (fun H locs hP hD hS => ?_)
    have hP : va_P D vwCl (ocell ct qo (vp_updL ov 0 o_r.toInt64) :: wx') H := hP
    refine lv_goto (tgt := 23) hx hb dL_read_12 (by decide) ?_
    refine lv_iconst (v := 0) hx hb dL_read_23 (by decide) ?_
    exact W.iret hx hb hr (fun t ht hW => ⟨⟨_, (), rfl, (hk0 hc0).symm, vaP_at ht hP⟩, hS.F ht⟩) hS.2.2 dL_read_24
set_option maxHeartbeats 4000000 in
theorem wr_lost {l : Launch} {D : va_G} {ct : Nat → ClassId} {adK adV : Nat → Nat} {q_t qo : Nat} {fs : List Value} {ov : Nat → Int64} {wx wx' : va_W} {p1 p2 p3 : Int32} {o_c : Nat} {o_r k : Int32} (hM : CX l yX9_lost wvX9_lost ({ frames := 8, cells := 1, slots := 6, locals := 143 } : Room) [.ref q_t, .int p1, .int p2, .int p3] D ct adK adV wx wx' o_c o_r) (h0 : wx[0]? = some (q_t, .inr (9, fs))) (h4 : wx'.map Prod.fst = wx.map Prod.fst) (hk0 : o_c = 0 → k = 0) (hc : o_c ≤ 2) (hk1 : o_c = 1 → k = 1) (hk2 : o_c = 2 → k = 2) :
    CW l yL_lost wvL_lost rmW [.ref q_t, .int p1, .int p2, .int p3, .ref qo] D ct adK adV (ocell ct qo ov) (ocell ct qo (if o_c = 0 then vp_updL ov 0 o_r.toInt64 else ov)) wx wx' k := by
  intro sz
  refine va_MetW (cc := cL_lost) (maxL := 6) (ret := (some .int)) (hh := [(0, 12, 15, 13), (0, 12, 19, 15)]) (by decide) rfl ?_
  intro p e s m args below meth c s₁ B hml hv
  obtain ⟨rfl, ⟨⟨⟨hsz, hP, hE, hD0⟩, hSE⟩, hXE⟩, hno⟩ := hv
  have hx := B.exec
  have hb := B.bytes
  have hr := B.returns
  have hts := atoms_spec (ws := wvL_lost) B.pre
  have hown : s.vm.findClass RL = some m.cls := findClass_of_methodNamed B.named
  have htab : c.exceptionTable.toList = tableOf [(0, 12, 15, 13), (0, 12, 19, 15)] := vx_table (x := yL_law) B (hts _ List.mem_cons_self)
  subst hsz
  have hD := hD0.self (sz := s.heap.size)
  generalize hAe : va_A (ocell ct qo ov :: wx) s.heap.size = A at hD hSE hXE ⊢
  have hA : ∀ q : Nat, s.heap.size ≤ q → A q := fun q h => by rw [← hAe]; exact Or.inr h
  have hl := lv_entry ([.ref q_t, .int p1, .int p2, .int p3, .ref qo]) (n := 6) (Nat.le_of_ble_eq_true rfl)
  rw [lg_entry_eq]
  generalize (lg_sl ([.ref q_t, .int p1, .int p2, .int p3, .ref qo]) ++ List.replicate (6 - (lg_sl ([.ref q_t, .int p1, .int p2, .int p3, .ref qo])).length) Slot.unset).toArray = ls at hl ⊢
  have hl : lv_has ls 6 [(0, .ref q_t), (1, .int p1), (2, .int p2), (3, .int p3), (4, .ref qo)] := hl
  have hS : ∀ H : Heap, s.heap = H → va_S A s.heap H [] := fun H h => h ▸ va_S.rf
  generalize hH : s.heap = H at hP ⊢
  have hS := hS H hH
  refine lv_aload hx hb dL_lost_0 (lv_at hl 4 rfl) ?_
  refine lv_iconst (v := 0) hx hb dL_lost_2 (by decide) ?_
  refine lv_aload_n hx hb dL_lost_3 rfl (lv_at hl 0 rfl) ?_
  refine lv_iload_n hx hb dL_lost_4 rfl (lv_at hl 1 rfl) ?_
  refine lv_iload_n hx hb dL_lost_5 rfl (lv_at hl 2 rfl) ?_
  refine lv_iload_n hx hb dL_lost_6 rfl (lv_at hl 3 rfl) ?_
  refine xc2 (w1 := [ocell ct qo ov]) (vx_runV (As := [.int p1, .int p2, .int p3]) (rest := [.int 0, .ref qo]) ⟨hx, hb, hml, hown, hts⟩ (hM H.size) (cwV 3 hts (goodIn_up gl9_lost) rfl rfl rfl (by decide +kernel) ⟨Nat.le_of_ble_eq_true rfl, Nat.le_of_ble_eq_true rfl⟩) ⟨blindX, va_recv hE.1 (s2_P (w1 := [ocell ct qo ov]) hP) (ci := 9) (q0 := 0) rfl h0, mkpreX hE hSE hXE hS (s2_free (w1 := [ocell ct qo ov]) hD hS hA) (s2_P (w1 := [ocell ct qo ov]) hP) (s2_D (w1 := [ocell ct qo ov]) hD)⟩ rfl rfl hl.1 rfl (lv_room (Nat.le_of_ble_eq_true rfl)) dL_lost_7 ⟨Nat.le_of_ble_eq_true rfl, Nat.le_of_ble_eq_true rfl⟩) hP hD hS hA h4 ?_ ?_
  · intro hc0 ce q9 H locs hP hD hS hce hcv hcl
    rw [if_neg hc0]
    rcases (show o_c = 1 ∨ o_c = 2 by omega) with e9 | e9
    · have hcl : s.vm.findClass exI = some ce.cls := by rw [e9] at hcl; exact hcl
      refine cq_first (E := exI) hown htab rfl (by decide) (hts _ (List.mem_cons_of_mem _ cLI)) (cst_I hXE) hce hcv hcl ?_
      refine lv_astore (lv' := [(5, .ref q9), (0, .ref q_t), (1, .int p1), (2, .int p2), (3, .int p3), (4, .ref qo)]) hx hb dL_lost_15 hl (by decide) rfl (fun ls hl => ?_)
      refine lv_iconst (v := 1) hx hb dL_lost_17 (by decide) ?_
      exact W.iret hx hb hr (fun t ht hW => ⟨⟨_, (), rfl, (hk1 e9).symm, vaP_at ht hP⟩, hS.F ht⟩) hS.2.2 dL_lost_18
    · have hcl : s.vm.findClass exA = some ce.cls := by rw [e9] at hcl; exact hcl
      refine cq_second (E := exA) hown htab rfl (by decide) (hts _ (List.mem_cons_of_mem _ cLI)) hno rfl (by decide) (hts _ (List.mem_cons_of_mem _ cLA)) (cst_A hXE) hce hcv hcl ?_
      refine lv_astore (lv' := [(5, .ref q9), (0, .ref q_t), (1, .int p1), (2, .int p2), (3, .int p3), (4, .ref qo)]) hx hb dL_lost_19 hl (by decide) rfl (fun ls hl => ?_)
      refine lv_iconst (v := 2) hx hb dL_lost_21 (by decide) ?_
      exact W.iret hx hb hr (fun t ht hW => ⟨⟨_, (), rfl, (hk2 e9).symm, vaP_at ht hP⟩, hS.F ht⟩) hS.2.2 dL_lost_22
  · intro hc0 H locs hP hD hS
    rw [if_pos hc0]
    refine lv_i2l (v := o_r.toInt64) hx hb dL_lost_10 rfl ?_
    refine va_last hx hb hE.1 hP hD hS 0 1 rfl rfl vp1 dL_lost_11 (fun H locs hP hD hS => ?_)
    have hP : va_P D vwCl (ocell ct qo (vp_updL ov 0 o_r.toInt64) :: wx') H := hP
    refine lv_goto (tgt := 23) hx hb dL_lost_12 (by decide) ?_
    refine lv_iconst (v := 0) hx hb dL_lost_23 (by decide) ?_
    exact W.iret hx hb hr (fun t ht hW => ⟨⟨_, (), rfl, (hk0 hc0).symm, vaP_at ht hP⟩, hS.F ht⟩) hS.2.2 dL_lost_24
set_option maxHeartbeats 4000000 in
theorem wr_at {l : Launch} {D : va_G} {ct : Nat → ClassId} {adK adV : Nat → Nat} {q_t qo : Nat} {fs : List Value} {ov : Nat → Int64} {wx wx' : va_W} {p1 p2 p3 : Int32} {o_c : Nat} {o_r k : Int32} (hM : CX l yX9_at wvX9_at ({ frames := 8, cells := 1, slots := 6, locals := 143 } : Room) [.ref q_t, .int p1, .int p2, .int p3] D ct adK adV wx wx' o_c o_r) (h0 : wx[0]? = some (q_t, .inr (9, fs))) (h4 : wx'.map Prod.fst = wx.map Prod.fst) (hk0 : o_c = 0 → k = 0) (hc : o_c ≤ 1) (hk1 : o_c = 1 → k = 1) :
    CW l yL_at wvL_at rmW [.ref q_t, .int p1, .int p2, .int p3, .ref qo] D ct adK adV (ocell ct qo ov) (ocell ct qo (if o_c = 0 then vp_updL ov 0 o_r.toInt64 else ov)) wx wx' k := by
  intro sz
  refine va_MetW (cc := cL_at) (maxL := 6) (ret := (some .int)) (hh := [(0, 12, 15, 13)]) (by decide) rfl ?_
  intro p e s m args below meth c s₁ B hml hv
  obtain ⟨rfl, ⟨⟨⟨hsz, hP, hE, hD0⟩, hSE⟩, hXE⟩, hno⟩ := hv
  have hx := B.exec
  have hb := B.bytes
  have hr := B.returns
  have hts := atoms_spec (ws := wvL_at) B.pre
  have hown : s.vm.findClass RL = some m.cls := findClass_of_methodNamed B.named
  have htab : c.exceptionTable.toList = tableOf [(0, 12, 15, 13)] := vx_table (x := yL_law) B (hts _ List.mem_cons_self)
  subst hsz
  have hD := hD0.self (sz := s.heap.size)
  generalize hAe : va_A (ocell ct qo ov :: wx) s.heap.size = A at hD hSE hXE ⊢
  have hA : ∀ q : Nat, s.heap.size ≤ q → A q := fun q h => by rw [← hAe]; exact Or.inr h
  have hl := lv_entry ([.ref q_t, .int p1, .int p2, .int p3, .ref qo]) (n := 6) (Nat.le_of_ble_eq_true rfl)
  rw [lg_entry_eq]
  generalize (lg_sl ([.ref q_t, .int p1, .int p2, .int p3, .ref qo]) ++ List.replicate (6 - (lg_sl ([.ref q_t, .int p1, .int p2, .int p3, .ref qo])).length) Slot.unset).toArray = ls at hl ⊢
  have hl : lv_has ls 6 [(0, .ref q_t), (1, .int p1), (2, .int p2), (3, .int p3), (4, .ref qo)] := hl
  have hS : ∀ H : Heap, s.heap = H → va_S A s.heap H [] := fun H h => h ▸ va_S.rf
  generalize hH : s.heap = H at hP ⊢
  have hS := hS H hH
  refine lv_aload hx hb dL_at_0 (lv_at hl 4 rfl) ?_
  refine lv_iconst (v := 0) hx hb dL_at_2 (by decide) ?_
  refine lv_aload_n hx hb dL_at_3 rfl (lv_at hl 0 rfl) ?_
  refine lv_iload_n hx hb dL_at_4 rfl (lv_at hl 1 rfl) ?_
  refine lv_iload_n hx hb dL_at_5 rfl (lv_at hl 2 rfl) ?_
  refine lv_iload_n hx hb dL_at_6 rfl (lv_at hl 3 rfl) ?_
  refine xc2 (w1 := [ocell ct qo ov]) (vx_runV (As := [.int p1, .int p2, .int p3]) (rest := [.int 0, .ref qo]) ⟨hx, hb, hml, hown, hts⟩ (hM H.size) (cwV 3 hts (goodIn_up gl9_at) rfl rfl rfl (by decide +kernel) ⟨Nat.le_of_ble_eq_true rfl, Nat.le_of_ble_eq_true rfl⟩) ⟨blindX, va_recv hE.1 (s2_P (w1 := [ocell ct qo ov]) hP) (ci := 9) (q0 := 0) rfl h0, mkpreX hE hSE hXE hS (s2_free (w1 := [ocell ct qo ov]) hD hS hA) (s2_P (w1 := [ocell ct qo ov]) hP) (s2_D (w1 := [ocell ct qo ov]) hD)⟩ rfl rfl hl.1 rfl (lv_room (Nat.le_of_ble_eq_true rfl)) dL_at_7 ⟨Nat.le_of_ble_eq_true rfl, Nat.le_of_ble_eq_true rfl⟩) hP hD hS hA h4 ?_ ?_
  · intro hc0 ce q9 H locs hP hD hS hce hcv hcl
    rw [if_neg hc0]
    have e9 : o_c = 1 := by omega
    have hcl : s.vm.findClass exI = some ce.cls := by rw [e9] at hcl; exact hcl
    refine cq_first (E := exI) hown htab rfl (by decide) (hts _ (List.mem_cons_of_mem _ cLI)) (cst_I hXE) hce hcv hcl ?_
    refine lv_astore (lv' := [(5, .ref q9), (0, .ref q_t), (1, .int p1), (2, .int p2), (3, .int p3), (4, .ref qo)]) hx hb dL_at_15 hl (by decide) rfl (fun ls hl => ?_)
    refine lv_iconst (v := 1) hx hb dL_at_17 (by decide) ?_
    exact W.iret hx hb hr (fun t ht hW => ⟨⟨_, (), rfl, (hk1 e9).symm, vaP_at ht hP⟩, hS.F ht⟩) hS.2.2 dL_at_18
  · intro hc0 H locs hP hD hS
    rw [if_pos hc0]
    refine lv_i2l (v := o_r.toInt64) hx hb dL_at_10 rfl ?_
    refine va_last hx hb hE.1 hP hD hS 0 1 rfl rfl vp1 dL_at_11 (fun H locs hP hD hS => ?_)
    have hP : va_P D vwCl (ocell ct qo (vp_updL ov 0 o_r.toInt64) :: wx') H := hP
    refine lv_goto (tgt := 19) hx hb dL_at_12 (by decide) ?_
    refine lv_iconst (v := 0) hx hb dL_at_19 (by decide) ?_
    exact W.iret hx hb hr (fun t ht hW => ⟨⟨_, (), rfl, (hk0 hc0).symm, vaP_at ht hP⟩, hS.F ht⟩) hS.2.2 dL_at_20
set_option maxHeartbeats 4000000 in
theorem wr_shift {l : Launch} {D : va_G} {ct : Nat → ClassId} {adK adV : Nat → Nat} {q_t qo : Nat} {fs : List Value} {ov : Nat → Int64} {wx wx' : va_W} {p1 p2 p3 p4 : Int32} {o_c : Nat} {o_r k : Int32} (hM : CX l yX9_shift wvX9_shift ({ frames := 8, cells := 1, slots := 6, locals := 143 } : Room) [.ref q_t, .int p1, .int p2, .int p3, .int p4] D ct adK adV wx wx' o_c o_r) (h0 : wx[0]? = some (q_t, .inr (9, fs))) (h4 : wx'.map Prod.fst = wx.map Prod.fst) (hk0 : o_c = 0 → k = 0) (hc : o_c ≤ 2) (hk1 : o_c = 1 → k = 1) (hk2 : o_c = 2 → k = 2) :
    CW l yL_shift wvL_shift rmW [.ref q_t, .int p1, .int p2, .int p3, .int p4, .ref qo] D ct adK adV (ocell ct qo ov) (ocell ct qo (if o_c = 0 then vp_updL ov 0 o_r.toInt64 else ov)) wx wx' k := by
  intro sz
  refine va_MetW (cc := cL_shift) (maxL := 7) (ret := (some .int)) (hh := [(0, 14, 17, 13), (0, 14, 21, 15)]) (by decide) rfl ?_
  intro p e s m args below meth c s₁ B hml hv
  obtain ⟨rfl, ⟨⟨⟨hsz, hP, hE, hD0⟩, hSE⟩, hXE⟩, hno⟩ := hv
  have hx := B.exec
  have hb := B.bytes
  have hr := B.returns
  have hts := atoms_spec (ws := wvL_shift) B.pre
  have hown : s.vm.findClass RL = some m.cls := findClass_of_methodNamed B.named
  have htab : c.exceptionTable.toList = tableOf [(0, 14, 17, 13), (0, 14, 21, 15)] := vx_table (x := yL_law) B (hts _ List.mem_cons_self)
  subst hsz
  have hD := hD0.self (sz := s.heap.size)
  generalize hAe : va_A (ocell ct qo ov :: wx) s.heap.size = A at hD hSE hXE ⊢
  have hA : ∀ q : Nat, s.heap.size ≤ q → A q := fun q h => by rw [← hAe]; exact Or.inr h
  have hl := lv_entry ([.ref q_t, .int p1, .int p2, .int p3, .int p4, .ref qo]) (n := 7) (Nat.le_of_ble_eq_true rfl)
  rw [lg_entry_eq]
  generalize (lg_sl ([.ref q_t, .int p1, .int p2, .int p3, .int p4, .ref qo]) ++ List.replicate (7 - (lg_sl ([.ref q_t, .int p1, .int p2, .int p3, .int p4, .ref qo])).length) Slot.unset).toArray = ls at hl ⊢
  have hl : lv_has ls 7 [(0, .ref q_t), (1, .int p1), (2, .int p2), (3, .int p3), (4, .int p4), (5, .ref qo)] := hl
  have hS : ∀ H : Heap, s.heap = H → va_S A s.heap H [] := fun H h => h ▸ va_S.rf
  generalize hH : s.heap = H at hP ⊢
  have hS := hS H hH
  refine lv_aload hx hb dL_shift_0 (lv_at hl 5 rfl) ?_
  refine lv_iconst (v := 0) hx hb dL_shift_2 (by decide) ?_
  refine lv_aload_n hx hb dL_shift_3 rfl (lv_at hl 0 rfl) ?_
  refine lv_iload_n hx hb dL_shift_4 rfl (lv_at hl 1 rfl) ?_
  refine lv_iload_n hx hb dL_shift_5 rfl (lv_at hl 2 rfl) ?_
  refine lv_iload_n hx hb dL_shift_6 rfl (lv_at hl 3 rfl) ?_
  refine lv_iload hx hb dL_shift_7 (lv_at hl 4 rfl) ?_
  refine xc2 (w1 := [ocell ct qo ov]) (vx_runV (As := [.int p1, .int p2, .int p3, .int p4]) (rest := [.int 0, .ref qo]) ⟨hx, hb, hml, hown, hts⟩ (hM H.size) (cwV 4 hts (goodIn_up gl9_shift) rfl rfl rfl (by decide +kernel) ⟨Nat.le_of_ble_eq_true rfl, Nat.le_of_ble_eq_true rfl⟩) ⟨blindX, va_recv hE.1 (s2_P (w1 := [ocell ct qo ov]) hP) (ci := 9) (q0 := 0) rfl h0, mkpreX hE hSE hXE hS (s2_free (w1 := [ocell ct qo ov]) hD hS hA) (s2_P (w1 := [ocell ct qo ov]) hP) (s2_D (w1 := [ocell ct qo ov]) hD)⟩ rfl rfl hl.1 rfl (lv_room (Nat.le_of_ble_eq_true rfl)) dL_shift_9 ⟨Nat.le_of_ble_eq_true rfl, Nat.le_of_ble_eq_true rfl⟩) hP hD hS hA h4 ?_ ?_
  · intro hc0 ce q9 H locs hP hD hS hce hcv hcl
    rw [if_neg hc0]
    rcases (show o_c = 1 ∨ o_c = 2 by omega) with e9 | e9
    · have hcl : s.vm.findClass exI = some ce.cls := by rw [e9] at hcl; exact hcl
      refine cq_first (E := exI) hown htab rfl (by decide) (hts _ (List.mem_cons_of_mem _ cLI)) (cst_I hXE) hce hcv hcl ?_
      refine lv_astore (lv' := [(6, .ref q9), (0, .ref q_t), (1, .int p1), (2, .int p2), (3, .int p3), (4, .int p4), (5, .ref qo)]) hx hb dL_shift_17 hl (by decide) rfl (fun ls hl => ?_)
      refine lv_iconst (v := 1) hx hb dL_shift_19 (by decide) ?_
      exact W.iret hx hb hr (fun t ht hW => ⟨⟨_, (), rfl, (hk1 e9).symm, vaP_at ht hP⟩, hS.F ht⟩) hS.2.2 dL_shift_20
    · have hcl : s.vm.findClass exA = some ce.cls := by rw [e9] at hcl; exact hcl
      refine cq_second (E := exA) hown htab rfl (by decide) (hts _ (List.mem_cons_of_mem _ cLI)) hno rfl (by decide) (hts _ (List.mem_cons_of_mem _ cLA)) (cst_A hXE) hce hcv hcl ?_
      refine lv_astore (lv' := [(6, .ref q9), (0, .ref q_t), (1, .int p1), (2, .int p2), (3, .int p3), (4, .int p4), (5, .ref qo)]) hx hb dL_shift_21 hl (by decide) rfl (fun ls hl => ?_)
      refine lv_iconst (v := 2) hx hb dL_shift_23 (by decide) ?_
      exact W.iret hx hb hr (fun t ht hW => ⟨⟨_, (), rfl, (hk2 e9).symm, vaP_at ht hP⟩, hS.F ht⟩) hS.2.2 dL_shift_24
  · intro hc0 H locs hP hD hS
    rw [if_pos hc0]
    refine lv_i2l (v := o_r.toInt64) hx hb dL_shift_12 rfl ?_
    refine va_last hx hb hE.1 hP hD hS 0 1 rfl rfl vp1 dL_shift_13 (fun H locs hP hD hS => ?_)
    have hP : va_P D vwCl (ocell ct qo (vp_updL ov 0 o_r.toInt64) :: wx') H := hP
    refine lv_goto (tgt := 25) hx hb dL_shift_14 (by decide) ?_
    refine lv_iconst (v := 0) hx hb dL_shift_25 (by decide) ?_
    exact W.iret hx hb hr (fun t ht hW => ⟨⟨_, (), rfl, (hk0 hc0).symm, vaP_at ht hP⟩, hS.F ht⟩) hS.2.2 dL_shift_26
set_option maxHeartbeats 4000000 in
theorem wr_jump {l : Launch} {D : va_G} {ct : Nat → ClassId} {adK adV : Nat → Nat} {q_t qo : Nat} {fs : List Value} {ov : Nat → Int64} {wx wx' : va_W} {p1 p2 p3 : Int32} {o_c : Nat} {o_r k : Int32} (hM : CX l yX9_jump wvX9_jump ({ frames := 8, cells := 1, slots := 6, locals := 143 } : Room) [.ref q_t, .int p1, .int p2, .int p3] D ct adK adV wx wx' o_c o_r) (h0 : wx[0]? = some (q_t, .inr (9, fs))) (h4 : wx'.map Prod.fst = wx.map Prod.fst) (hk0 : o_c = 0 → k = 0) (hc : o_c ≤ 1) (hk1 : o_c = 1 → k = 1) :
    CW l yL_jump wvL_jump rmW [.ref q_t, .int p1, .int p2, .int p3, .ref qo] D ct adK adV (ocell ct qo ov) (ocell ct qo (if o_c = 0 then vp_updL ov 0 o_r.toInt64 else ov)) wx wx' k := by
  intro sz
  refine va_MetW (cc := cL_jump) (maxL := 6) (ret := (some .int)) (hh := [(0, 12, 15, 13)]) (by decide) rfl ?_
  intro p e s m args below meth c s₁ B hml hv
  obtain ⟨rfl, ⟨⟨⟨hsz, hP, hE, hD0⟩, hSE⟩, hXE⟩, hno⟩ := hv
  have hx := B.exec
  have hb := B.bytes
  have hr := B.returns
  have hts := atoms_spec (ws := wvL_jump) B.pre
  have hown : s.vm.findClass RL = some m.cls := findClass_of_methodNamed B.named
  have htab : c.exceptionTable.toList = tableOf [(0, 12, 15, 13)] := vx_table (x := yL_law) B (hts _ List.mem_cons_self)
  subst hsz
  have hD := hD0.self (sz := s.heap.size)
  generalize hAe : va_A (ocell ct qo ov :: wx) s.heap.size = A at hD hSE hXE ⊢
  have hA : ∀ q : Nat, s.heap.size ≤ q → A q := fun q h => by rw [← hAe]; exact Or.inr h
  have hl := lv_entry ([.ref q_t, .int p1, .int p2, .int p3, .ref qo]) (n := 6) (Nat.le_of_ble_eq_true rfl)
  rw [lg_entry_eq]
  generalize (lg_sl ([.ref q_t, .int p1, .int p2, .int p3, .ref qo]) ++ List.replicate (6 - (lg_sl ([.ref q_t, .int p1, .int p2, .int p3, .ref qo])).length) Slot.unset).toArray = ls at hl ⊢
  have hl : lv_has ls 6 [(0, .ref q_t), (1, .int p1), (2, .int p2), (3, .int p3), (4, .ref qo)] := hl
  have hS : ∀ H : Heap, s.heap = H → va_S A s.heap H [] := fun H h => h ▸ va_S.rf
  generalize hH : s.heap = H at hP ⊢
  have hS := hS H hH
  refine lv_aload hx hb dL_jump_0 (lv_at hl 4 rfl) ?_
  refine lv_iconst (v := 0) hx hb dL_jump_2 (by decide) ?_
  refine lv_aload_n hx hb dL_jump_3 rfl (lv_at hl 0 rfl) ?_
  refine lv_iload_n hx hb dL_jump_4 rfl (lv_at hl 1 rfl) ?_
  refine lv_iload_n hx hb dL_jump_5 rfl (lv_at hl 2 rfl) ?_
  refine lv_iload_n hx hb dL_jump_6 rfl (lv_at hl 3 rfl) ?_
  refine xc2 (w1 := [ocell ct qo ov]) (vx_runV (As := [.int p1, .int p2, .int p3]) (rest := [.int 0, .ref qo]) ⟨hx, hb, hml, hown, hts⟩ (hM H.size) (cwV 3 hts (goodIn_up gl9_jump) rfl rfl rfl (by decide +kernel) ⟨Nat.le_of_ble_eq_true rfl, Nat.le_of_ble_eq_true rfl⟩) ⟨blindX, va_recv hE.1 (s2_P (w1 := [ocell ct qo ov]) hP) (ci := 9) (q0 := 0) rfl h0, mkpreX hE hSE hXE hS (s2_free (w1 := [ocell ct qo ov]) hD hS hA) (s2_P (w1 := [ocell ct qo ov]) hP) (s2_D (w1 := [ocell ct qo ov]) hD)⟩ rfl rfl hl.1 rfl (lv_room (Nat.le_of_ble_eq_true rfl)) dL_jump_7 ⟨Nat.le_of_ble_eq_true rfl, Nat.le_of_ble_eq_true rfl⟩) hP hD hS hA h4 ?_ ?_
  · intro hc0 ce q9 H locs hP hD hS hce hcv hcl
    rw [if_neg hc0]
    have e9 : o_c = 1 := by omega
    have hcl : s.vm.findClass exI = some ce.cls := by rw [e9] at hcl; exact hcl
    refine cq_first (E := exI) hown htab rfl (by decide) (hts _ (List.mem_cons_of_mem _ cLI)) (cst_I hXE) hce hcv hcl ?_
    refine lv_astore (lv' := [(5, .ref q9), (0, .ref q_t), (1, .int p1), (2, .int p2), (3, .int p3), (4, .ref qo)]) hx hb dL_jump_15 hl (by decide) rfl (fun ls hl => ?_)
    refine lv_iconst (v := 1) hx hb dL_jump_17 (by decide) ?_
    exact W.iret hx hb hr (fun t ht hW => ⟨⟨_, (), rfl, (hk1 e9).symm, vaP_at ht hP⟩, hS.F ht⟩) hS.2.2 dL_jump_18
  · intro hc0 H locs hP hD hS
    rw [if_pos hc0]
    refine lv_i2l (v := o_r.toInt64) hx hb dL_jump_10 rfl ?_
    refine va_last hx hb hE.1 hP hD hS 0 1 rfl rfl vp1 dL_jump_11 (fun H locs hP hD hS => ?_)
    have hP : va_P D vwCl (ocell ct qo (vp_updL ov 0 o_r.toInt64) :: wx') H := hP
    refine lv_goto (tgt := 19) hx hb dL_jump_12 (by decide) ?_
    refine lv_iconst (v := 0) hx hb dL_jump_19 (by decide) ?_
    exact W.iret hx hb hr (fun t ht hW => ⟨⟨_, (), rfl, (hk0 hc0).symm, vaP_at ht hP⟩, hS.F ht⟩) hS.2.2 dL_jump_20
set_option maxHeartbeats 4000000 in
theorem wr_joined {l : Launch} {D : va_G} {ct : Nat → ClassId} {adK adV : Nat → Nat} {q_t qo : Nat} {fs : List Value} {ov : Nat → Int64} {wx wx' : va_W} {p1 p2 : Int32} {o_c : Nat} {o_r k : Int32} (hM : CX l yX9_joined wvX9_joined ({ frames := 8, cells := 1, slots := 6, locals := 146 } : Room) [.ref q_t, .int p1, .int p2] D ct adK adV wx wx' o_c o_r) (h0 : wx[0]? = some (q_t, .inr (9, fs))) (h4 : wx'.map Prod.fst = wx.map Prod.fst) (hk0 : o_c = 0 → k = 0) (hc : o_c ≤ 1) (hk1 : o_c = 1 → k = 1) :
    CW l yL_joined wvL_joined rmW [.ref q_t, .int p1, .int p2, .ref qo] D ct adK adV (ocell ct qo ov) (ocell ct qo (if o_c = 0 then vp_updL ov 0 o_r.toInt64 else ov)) wx wx' k := by
  intro sz
  refine va_MetW (cc := cL_joined) (maxL := 5) (ret := (some .int)) (hh := [(0, 10, 13, 13)]) (by decide) rfl ?_
  intro p e s m args below meth c s₁ B hml hv
  obtain ⟨rfl, ⟨⟨⟨hsz, hP, hE, hD0⟩, hSE⟩, hXE⟩, hno⟩ := hv
  have hx := B.exec
  have hb := B.bytes
  have hr := B.returns
  have hts := atoms_spec (ws := wvL_joined) B.pre
  have hown : s.vm.findClass RL = some m.cls := findClass_of_methodNamed B.named
  have htab : c.exceptionTable.toList = tableOf [(0, 10, 13, 13)] := vx_table (x := yL_law) B (hts _ List.mem_cons_self)
  subst hsz
  have hD := hD0.self (sz := s.heap.size)
  generalize hAe : va_A (ocell ct qo ov :: wx) s.heap.size = A at hD hSE hXE ⊢
  have hA : ∀ q : Nat, s.heap.size ≤ q → A q := fun q h => by rw [← hAe]; exact Or.inr h
  have hl := lv_entry ([.ref q_t, .int p1, .int p2, .ref qo]) (n := 5) (Nat.le_of_ble_eq_true rfl)
  rw [lg_entry_eq]
  generalize (lg_sl ([.ref q_t, .int p1, .int p2, .ref qo]) ++ List.replicate (5 - (lg_sl ([.ref q_t, .int p1, .int p2, .ref qo])).length) Slot.unset).toArray = ls at hl ⊢
  have hl : lv_has ls 5 [(0, .ref q_t), (1, .int p1), (2, .int p2), (3, .ref qo)] := hl
  have hS : ∀ H : Heap, s.heap = H → va_S A s.heap H [] := fun H h => h ▸ va_S.rf
  generalize hH : s.heap = H at hP ⊢
  have hS := hS H hH
  refine lv_aload_n hx hb dL_joined_0 rfl (lv_at hl 3 rfl) ?_
  refine lv_iconst (v := 0) hx hb dL_joined_1 (by decide) ?_
  refine lv_aload_n hx hb dL_joined_2 rfl (lv_at hl 0 rfl) ?_
  refine lv_iload_n hx hb dL_joined_3 rfl (lv_at hl 1 rfl) ?_
  refine lv_iload_n hx hb dL_joined_4 rfl (lv_at hl 2 rfl) ?_
  refine xc2 (w1 := [ocell ct qo ov]) (vx_runV (As := [.int p1, .int p2]) (rest := [.int 0, .ref qo]) ⟨hx, hb, hml, hown, hts⟩ (hM H.size) (cwV 2 hts (goodIn_up gl9_joined) rfl rfl rfl (by decide +kernel) ⟨Nat.le_of_ble_eq_true rfl, Nat.le_of_ble_eq_true rfl⟩) ⟨blindX, va_recv hE.1 (s2_P (w1 := [ocell ct qo ov]) hP) (ci := 9) (q0 := 0) rfl h0, mkpreX hE hSE hXE hS (s2_free (w1 := [ocell ct qo ov]) hD hS hA) (s2_P (w1 := [ocell ct qo ov]) hP) (s2_D (w1 := [ocell ct qo ov]) hD)⟩ rfl rfl hl.1 rfl (lv_room (Nat.le_of_ble_eq_true rfl)) dL_joined_5 ⟨Nat.le_of_ble_eq_true rfl, Nat.le_of_ble_eq_true rfl⟩) hP hD hS hA h4 ?_ ?_
  · intro hc0 ce q9 H locs hP hD hS hce hcv hcl
    rw [if_neg hc0]
    have e9 : o_c = 1 := by omega
    have hcl : s.vm.findClass exI = some ce.cls := by rw [e9] at hcl; exact hcl
    refine cq_first (E := exI) hown htab rfl (by decide) (hts _ (List.mem_cons_of_mem _ cLI)) (cst_I hXE) hce hcv hcl ?_
    refine lv_astore (lv' := [(4, .ref q9), (0, .ref q_t), (1, .int p1), (2, .int p2), (3, .ref qo)]) hx hb dL_joined_13 hl (by decide) rfl (fun ls hl => ?_)
    refine lv_iconst (v := 1) hx hb dL_joined_15 (by decide) ?_
    exact W.iret hx hb hr (fun t ht hW => ⟨⟨_, (), rfl, (hk1 e9).symm, vaP_at ht hP⟩, hS.F ht⟩) hS.2.2 dL_joined_16
  · intro hc0 H locs hP hD hS
    rw [if_pos hc0]
    refine lv_i2l (v := o_r.toInt64) hx hb dL_joined_8 rfl ?_
    refine va_last hx hb hE.1 hP hD hS 0 1 rfl rfl vp1 dL_joined_9 (fun H locs hP hD hS => ?_)
    have hP : va_P D vwCl (ocell ct qo (vp_updL ov 0 o_r.toInt64) :: wx') H := hP
    refine lv_goto (tgt := 17) hx hb dL_joined_10 (by decide) ?_
    refine lv_iconst (v := 0) hx hb dL_joined_17 (by decide) ?_
    exact W.iret hx hb hr (fun t ht hW => ⟨⟨_, (), rfl, (hk0 hc0).symm, vaP_at ht hP⟩, hS.F ht⟩) hS.2.2 dL_joined_18
set_option maxHeartbeats 4000000 in
theorem wr_end {l : Launch} {D : va_G} {ct : Nat → ClassId} {adK adV : Nat → Nat} {q_t qo : Nat} {fs : List Value} {ov : Nat → Int64} {wx wx' : va_W} {p1 : Int32} {o_c : Nat} {o_r k : Int32} (hM : CX l yX9_end wvX9_end ({ frames := 7, cells := 1, slots := 6, locals := 120 } : Room) [.ref q_t, .int p1] D ct adK adV wx wx' o_c o_r) (h0 : wx[0]? = some (q_t, .inr (9, fs))) (h4 : wx'.map Prod.fst = wx.map Prod.fst) (hk0 : o_c = 0 → k = 0) (hc : o_c = 0 ∨ o_c = 2) (hk2 : o_c = 2 → k = 1) :
    CW l yL_end wvL_end rmW [.ref q_t, .int p1, .ref qo] D ct adK adV (ocell ct qo ov) (ocell ct qo (if o_c = 0 then vp_updL ov 0 o_r.toInt64 else ov)) wx wx' k := by
  intro sz
  refine va_MetW (cc := cL_end) (maxL := 4) (ret := (some .int)) (hh := [(0, 9, 12, 15)]) (by decide) rfl ?_
  intro p e s m args below meth c s₁ B hml hv
  obtain ⟨rfl, ⟨⟨⟨hsz, hP, hE, hD0⟩, hSE⟩, hXE⟩, hno⟩ := hv
  have hx := B.exec
  have hb := B.bytes
  have hr := B.returns
  have hts := atoms_spec (ws := wvL_end) B.pre
  have hown : s.vm.findClass RL = some m.cls := findClass_of_methodNamed B.named
  have htab : c.exceptionTable.toList = tableOf [(0, 9, 12, 15)] := vx_table (x := yL_law) B (hts _ List.mem_cons_self)
  subst hsz
  have hD := hD0.self (sz := s.heap.size)
  generalize hAe : va_A (ocell ct qo ov :: wx) s.heap.size = A at hD hSE hXE ⊢
  have hA : ∀ q : Nat, s.heap.size ≤ q → A q := fun q h => by rw [← hAe]; exact Or.inr h
  have hl := lv_entry ([.ref q_t, .int p1, .ref qo]) (n := 4) (Nat.le_of_ble_eq_true rfl)
  rw [lg_entry_eq]
  generalize (lg_sl ([.ref q_t, .int p1, .ref qo]) ++ List.replicate (4 - (lg_sl ([.ref q_t, .int p1, .ref qo])).length) Slot.unset).toArray = ls at hl ⊢
  have hl : lv_has ls 4 [(0, .ref q_t), (1, .int p1), (2, .ref qo)] := hl
  have hS : ∀ H : Heap, s.heap = H → va_S A s.heap H [] := fun H h => h ▸ va_S.rf
  generalize hH : s.heap = H at hP ⊢
  have hS := hS H hH
  refine lv_aload_n hx hb dL_end_0 rfl (lv_at hl 2 rfl) ?_
  refine lv_iconst (v := 0) hx hb dL_end_1 (by decide) ?_
  refine lv_aload_n hx hb dL_end_2 rfl (lv_at hl 0 rfl) ?_
  refine lv_iload_n hx hb dL_end_3 rfl (lv_at hl 1 rfl) ?_
  refine xc2 (w1 := [ocell ct qo ov]) (vx_runV (As := [.int p1]) (rest := [.int 0, .ref qo]) ⟨hx, hb, hml, hown, hts⟩ (hM H.size) (cwV 1 hts (goodIn_up gl9_end) rfl rfl rfl (by decide +kernel) ⟨Nat.le_of_ble_eq_true rfl, Nat.le_of_ble_eq_true rfl⟩) ⟨blindX, va_recv hE.1 (s2_P (w1 := [ocell ct qo ov]) hP) (ci := 9) (q0 := 0) rfl h0, mkpreX hE hSE hXE hS (s2_free (w1 := [ocell ct qo ov]) hD hS hA) (s2_P (w1 := [ocell ct qo ov]) hP) (s2_D (w1 := [ocell ct qo ov]) hD)⟩ rfl rfl hl.1 rfl (lv_room (Nat.le_of_ble_eq_true rfl)) dL_end_4 ⟨Nat.le_of_ble_eq_true rfl, Nat.le_of_ble_eq_true rfl⟩) hP hD hS hA h4 ?_ ?_
  · intro hc0 ce q9 H locs hP hD hS hce hcv hcl
    rw [if_neg hc0]
    have e9 : o_c = 2 := by omega
    have hcl : s.vm.findClass exA = some ce.cls := by rw [e9] at hcl; exact hcl
    refine cq_first (E := exA) hown htab rfl (by decide) (hts _ (List.mem_cons_of_mem _ cLA)) (cst_A hXE) hce hcv hcl ?_
    refine lv_astore_n (lv' := [(3, .ref q9), (0, .ref q_t), (1, .int p1), (2, .ref qo)]) hx hb dL_end_12 rfl hl (by decide) rfl (fun ls hl => ?_)
    refine lv_iconst (v := 1) hx hb dL_end_13 (by decide) ?_
    exact W.iret hx hb hr (fun t ht hW => ⟨⟨_, (), rfl, (hk2 e9).symm, vaP_at ht hP⟩, hS.F ht⟩) hS.2.2 dL_end_14
  · intro hc0 H locs hP hD hS
    rw [if_pos hc0]
    refine lv_i2l (v := o_r.toInt64) hx hb dL_end_7 rfl ?_
    refine va_last hx hb hE.1 hP hD hS 0 1 rfl rfl vp1 dL_end_8 (fun H locs hP hD hS => ?_)
    have hP : va_P D vwCl (ocell ct qo (vp_updL ov 0 o_r.toInt64) :: wx') H := hP
    refine lv_goto (tgt := 15) hx hb dL_end_9 (by decide) ?_
    refine lv_iconst (v := 0) hx hb dL_end_15 (by decide) ?_
    exact W.iret hx hb hr (fun t ht hW => ⟨⟨_, (), rfl, (hk0 hc0).symm, vaP_at ht hP⟩, hS.F ht⟩) hS.2.2 dL_end_16
set_option maxHeartbeats 4000000 in
theorem wr_measure {l : Launch} {D : va_G} {ct : Nat → ClassId} {adK adV : Nat → Nat} {q_t qo : Nat} {fs : List Value} {ov : Nat → Int64} {wx wx' : va_W} {p1 p2 p3 p4 p5 p6 : Int32} {o_c : Nat} {o_r k : Int32} (hM : CX l yX9_measure wvX9_measure ({ frames := 7, cells := 1, slots := 6, locals := 121 } : Room) [.ref q_t, .int p1, .int p2, .int p3, .int p4, .int p5, .int p6] D ct adK adV wx wx' o_c o_r) (h0 : wx[0]? = some (q_t, .inr (9, fs))) (h4 : wx'.map Prod.fst = wx.map Prod.fst) (hk0 : o_c = 0 → k = 0) (hc : o_c ≤ 2) (hk1 : o_c = 1 → k = 1) (hk2 : o_c = 2 → k = 2) :
    CW l yL_measure wvL_measure rmW [.ref q_t, .int p1, .int p2, .int p3, .int p4, .int p5, .int p6, .ref qo] D ct adK adV (ocell ct qo ov) (ocell ct qo (if o_c = 0 then vp_updL ov 0 o_r.toInt64 else ov)) wx wx' k := by
  intro sz
  refine va_MetW (cc := cL_measure) (maxL := 9) (ret := (some .int)) (hh := [(0, 18, 21, 13), (0, 18, 25, 15)]) (by decide) rfl ?_
  intro p e s m args below meth c s₁ B hml hv
  obtain ⟨rfl, ⟨⟨⟨hsz, hP, hE, hD0⟩, hSE⟩, hXE⟩, hno⟩ := hv
  have hx := B.exec
  have hb := B.bytes
  have hr := B.returns
  have hts := atoms_spec (ws := wvL_measure) B.pre
  have hown : s.vm.findClass RL = some m.cls := findClass_of_methodNamed B.named
  have htab : c.exceptionTable.toList = tableOf [(0, 18, 21, 13), (0, 18, 25, 15)] := vx_table (x := yL_law) B (hts _ List.mem_cons_self)
  subst hsz
  have hD := hD0.self (sz := s.heap.size)
  generalize hAe : va_A (ocell ct qo ov :: wx) s.heap.size = A at hD hSE hXE ⊢
  have hA : ∀ q : Nat, s.heap.size ≤ q → A q := fun q h => by rw [← hAe]; exact Or.inr h
  have hl := lv_entry ([.ref q_t, .int p1, .int p2, .int p3, .int p4, .int p5, .int p6, .ref qo]) (n := 9) (Nat.le_of_ble_eq_true rfl)
  rw [lg_entry_eq]
  generalize (lg_sl ([.ref q_t, .int p1, .int p2, .int p3, .int p4, .int p5, .int p6, .ref qo]) ++ List.replicate (9 - (lg_sl ([.ref q_t, .int p1, .int p2, .int p3, .int p4, .int p5, .int p6, .ref qo])).length) Slot.unset).toArray = ls at hl ⊢
  have hl : lv_has ls 9 [(0, .ref q_t), (1, .int p1), (2, .int p2), (3, .int p3), (4, .int p4), (5, .int p5), (6, .int p6), (7, .ref qo)] := hl
  have hS : ∀ H : Heap, s.heap = H → va_S A s.heap H [] := fun H h => h ▸ va_S.rf
  generalize hH : s.heap = H at hP ⊢
  have hS := hS H hH
  refine lv_aload hx hb dL_measure_0 (lv_at hl 7 rfl) ?_
  refine lv_iconst (v := 0) hx hb dL_measure_2 (by decide) ?_
  refine lv_aload_n hx hb dL_measure_3 rfl (lv_at hl 0 rfl) ?_
  refine lv_iload_n hx hb dL_measure_4 rfl (lv_at hl 1 rfl) ?_
  refine lv_iload_n hx hb dL_measure_5 rfl (lv_at hl 2 rfl) ?_
  refine lv_iload_n hx hb dL_measure_6 rfl (lv_at hl 3 rfl) ?_
  refine lv_iload hx hb dL_measure_7 (lv_at hl 4 rfl) ?_
  refine lv_iload hx hb dL_measure_9 (lv_at hl 5 rfl) ?_
  refine lv_iload hx hb dL_measure_11 (lv_at hl 6 rfl) ?_
  refine xc2 (w1 := [ocell ct qo ov]) (vx_runV (As := [.int p1, .int p2, .int p3, .int p4, .int p5, .int p6]) (rest := [.int 0, .ref qo]) ⟨hx, hb, hml, hown, hts⟩ (hM H.size) (cwV 6 hts (goodIn_up gl9_measure) rfl rfl rfl (by decide +kernel) ⟨Nat.le_of_ble_eq_true rfl, Nat.le_of_ble_eq_true rfl⟩) ⟨blindX, va_recv hE.1 (s2_P (w1 := [ocell ct qo ov]) hP) (ci := 9) (q0 := 0) rfl h0, mkpreX hE hSE hXE hS (s2_free (w1 := [ocell ct qo ov]) hD hS hA) (s2_P (w1 := [ocell ct qo ov]) hP) (s2_D (w1 := [ocell ct qo ov]) hD)⟩ rfl rfl hl.1 rfl (lv_room (Nat.le_of_ble_eq_true rfl)) dL_measure_13 ⟨Nat.le_of_ble_eq_true rfl, Nat.le_of_ble_eq_true rfl⟩) hP hD hS hA h4 ?_ ?_
  · intro hc0 ce q9 H locs hP hD hS hce hcv hcl
    rw [if_neg hc0]
    rcases (show o_c = 1 ∨ o_c = 2 by omega) with e9 | e9
    · have hcl : s.vm.findClass exI = some ce.cls := by rw [e9] at hcl; exact hcl
      refine cq_first (E := exI) hown htab rfl (by decide) (hts _ (List.mem_cons_of_mem _ cLI)) (cst_I hXE) hce hcv hcl ?_
      refine lv_astore (lv' := [(8, .ref q9), (0, .ref q_t), (1, .int p1), (2, .int p2), (3, .int p3), (4, .int p4), (5, .int p5), (6, .int p6), (7, .ref qo)]) hx hb dL_measure_21 hl (by decide) rfl (fun ls hl => ?_)
      refine lv_iconst (v := 1) hx hb dL_measure_23 (by decide) ?_
      exact W.iret hx hb hr (fun t ht hW => ⟨⟨_, (), rfl, (hk1 e9).symm, vaP_at ht hP⟩, hS.F ht⟩) hS.2.2 dL_measure_24
    · have hcl : s.vm.findClass exA = some ce.cls := by rw [e9] at hcl; exact hcl
      refine cq_second (E := exA) hown htab rfl (by decide) (hts _ (List.mem_cons_of_mem _ cLI)) hno rfl (by decide) (hts _ (List.mem_cons_of_mem _ cLA)) (cst_A hXE) hce hcv hcl ?_
      refine lv_astore (lv' := [(8, .ref q9), (0, .ref q_t), (1, .int p1), (2, .int p2), (3, .int p3), (4, .int p4), (5, .int p5), (6, .int p6), (7, .ref qo)]) hx hb dL_measure_25 hl (by decide) rfl (fun ls hl => ?_)
      refine lv_iconst (v := 2) hx hb dL_measure_27 (by decide) ?_
      exact W.iret hx hb hr (fun t ht hW => ⟨⟨_, (), rfl, (hk2 e9).symm, vaP_at ht hP⟩, hS.F ht⟩) hS.2.2 dL_measure_28
  · intro hc0 H locs hP hD hS
    rw [if_pos hc0]
    refine lv_i2l (v := o_r.toInt64) hx hb dL_measure_16 rfl ?_
    refine va_last hx hb hE.1 hP hD hS 0 1 rfl rfl vp1 dL_measure_17 (fun H locs hP hD hS => ?_)
    have hP : va_P D vwCl (ocell ct qo (vp_updL ov 0 o_r.toInt64) :: wx') H := hP
    refine lv_goto (tgt := 29) hx hb dL_measure_18 (by decide) ?_
    refine lv_iconst (v := 0) hx hb dL_measure_29 (by decide) ?_
    exact W.iret hx hb hr (fun t ht hW => ⟨⟨_, (), rfl, (hk0 hc0).symm, vaP_at ht hP⟩, hS.F ht⟩) hS.2.2 dL_measure_30
set_option maxHeartbeats 4000000 in
theorem wr_told {l : Launch} {D : va_G} {ct : Nat → ClassId} {adK adV : Nat → Nat} {q_t qo : Nat} {fs : List Value} {ov : Nat → Int64} {wx wx' : va_W} {p1 p2 p3 : Int32} {o_c : Nat} {o_r k : Int32} (hM : CX l yX9_told wvX9_told ({ frames := 8, cells := 1, slots := 6, locals := 146 } : Room) [.ref q_t, .int p1, .int p2, .int p3] D ct adK adV wx wx' o_c o_r) (h0 : wx[0]? = some (q_t, .inr (9, fs))) (h4 : wx'.map Prod.fst = wx.map Prod.fst) (hk0 : o_c = 0 → k = 0) (hc : o_c ≤ 2) (hk1 : o_c = 1 → k = 1) (hk2 : o_c = 2 → k = 2) :
    CW l yL_told wvL_told rmW [.ref q_t, .int p1, .int p2, .int p3, .ref qo] D ct adK adV (ocell ct qo ov) (ocell ct qo (if o_c = 0 then vp_updL ov 0 o_r.toInt64 else ov)) wx wx' k := by
  intro sz
  refine va_MetW (cc := cL_told) (maxL := 6) (ret := (some .int)) (hh := [(0, 12, 15, 13), (0, 12, 19, 15)]) (by decide) rfl ?_
  intro p e s m args below meth c s₁ B hml hv
  obtain ⟨rfl, ⟨⟨⟨hsz, hP, hE, hD0⟩, hSE⟩, hXE⟩, hno⟩ := hv
  have hx := B.exec
  have hb := B.bytes
  have hr := B.returns
  have hts := atoms_spec (ws := wvL_told) B.pre
  have hown : s.vm.findClass RL = some m.cls := findClass_of_methodNamed B.named
  have htab : c.exceptionTable.toList = tableOf [(0, 12, 15, 13), (0, 12, 19, 15)] := vx_table (x := yL_law) B (hts _ List.mem_cons_self)
  subst hsz
  have hD := hD0.self (sz := s.heap.size)
  generalize hAe : va_A (ocell ct qo ov :: wx) s.heap.size = A at hD hSE hXE ⊢
  have hA : ∀ q : Nat, s.heap.size ≤ q → A q := fun q h => by rw [← hAe]; exact Or.inr h
  have hl := lv_entry ([.ref q_t, .int p1, .int p2, .int p3, .ref qo]) (n := 6) (Nat.le_of_ble_eq_true rfl)
  rw [lg_entry_eq]
  generalize (lg_sl ([.ref q_t, .int p1, .int p2, .int p3, .ref qo]) ++ List.replicate (6 - (lg_sl ([.ref q_t, .int p1, .int p2, .int p3, .ref qo])).length) Slot.unset).toArray = ls at hl ⊢
  have hl : lv_has ls 6 [(0, .ref q_t), (1, .int p1), (2, .int p2), (3, .int p3), (4, .ref qo)] := hl
  have hS : ∀ H : Heap, s.heap = H → va_S A s.heap H [] := fun H h => h ▸ va_S.rf
  generalize hH : s.heap = H at hP ⊢
  have hS := hS H hH
  refine lv_aload hx hb dL_told_0 (lv_at hl 4 rfl) ?_
  refine lv_iconst (v := 0) hx hb dL_told_2 (by decide) ?_
  refine lv_aload_n hx hb dL_told_3 rfl (lv_at hl 0 rfl) ?_
  refine lv_iload_n hx hb dL_told_4 rfl (lv_at hl 1 rfl) ?_
  refine lv_iload_n hx hb dL_told_5 rfl (lv_at hl 2 rfl) ?_
  refine lv_iload_n hx hb dL_told_6 rfl (lv_at hl 3 rfl) ?_
  refine xc2 (w1 := [ocell ct qo ov]) (vx_runV (As := [.int p1, .int p2, .int p3]) (rest := [.int 0, .ref qo]) ⟨hx, hb, hml, hown, hts⟩ (hM H.size) (cwV 3 hts (goodIn_up gl9_told) rfl rfl rfl (by decide +kernel) ⟨Nat.le_of_ble_eq_true rfl, Nat.le_of_ble_eq_true rfl⟩) ⟨blindX, va_recv hE.1 (s2_P (w1 := [ocell ct qo ov]) hP) (ci := 9) (q0 := 0) rfl h0, mkpreX hE hSE hXE hS (s2_free (w1 := [ocell ct qo ov]) hD hS hA) (s2_P (w1 := [ocell ct qo ov]) hP) (s2_D (w1 := [ocell ct qo ov]) hD)⟩ rfl rfl hl.1 rfl (lv_room (Nat.le_of_ble_eq_true rfl)) dL_told_7 ⟨Nat.le_of_ble_eq_true rfl, Nat.le_of_ble_eq_true rfl⟩) hP hD hS hA h4 ?_ ?_
  · intro hc0 ce q9 H locs hP hD hS hce hcv hcl
    rw [if_neg hc0]
    rcases (show o_c = 1 ∨ o_c = 2 by omega) with e9 | e9
    · have hcl : s.vm.findClass exI = some ce.cls := by rw [e9] at hcl; exact hcl
      refine cq_first (E := exI) hown htab rfl (by decide) (hts _ (List.mem_cons_of_mem _ cLI)) (cst_I hXE) hce hcv hcl ?_
      refine lv_astore (lv' := [(5, .ref q9), (0, .ref q_t), (1, .int p1), (2, .int p2), (3, .int p3), (4, .ref qo)]) hx hb dL_told_15 hl (by decide) rfl (fun ls hl => ?_)
      refine lv_iconst (v := 1) hx hb dL_told_17 (by decide) ?_
      exact W.iret hx hb hr (fun t ht hW => ⟨⟨_, (), rfl, (hk1 e9).symm, vaP_at ht hP⟩, hS.F ht⟩) hS.2.2 dL_told_18
    · have hcl : s.vm.findClass exA = some ce.cls := by rw [e9] at hcl; exact hcl
      refine cq_second (E := exA) hown htab rfl (by decide) (hts _ (List.mem_cons_of_mem _ cLI)) hno rfl (by decide) (hts _ (List.mem_cons_of_mem _ cLA)) (cst_A hXE) hce hcv hcl ?_
      refine lv_astore (lv' := [(5, .ref q9), (0, .ref q_t), (1, .int p1), (2, .int p2), (3, .int p3), (4, .ref qo)]) hx hb dL_told_19 hl (by decide) rfl (fun ls hl => ?_)
      refine lv_iconst (v := 2) hx hb dL_told_21 (by decide) ?_
      exact W.iret hx hb hr (fun t ht hW => ⟨⟨_, (), rfl, (hk2 e9).symm, vaP_at ht hP⟩, hS.F ht⟩) hS.2.2 dL_told_22
  · intro hc0 H locs hP hD hS
    rw [if_pos hc0]
    refine lv_i2l (v := o_r.toInt64) hx hb dL_told_10 rfl ?_
    refine va_last hx hb hE.1 hP hD hS 0 1 rfl rfl vp1 dL_told_11 (fun H locs hP hD hS => ?_)
    have hP : va_P D vwCl (ocell ct qo (vp_updL ov 0 o_r.toInt64) :: wx') H := hP
    refine lv_goto (tgt := 23) hx hb dL_told_12 (by decide) ?_
    refine lv_iconst (v := 0) hx hb dL_told_23 (by decide) ?_
    exact W.iret hx hb hr (fun t ht hW => ⟨⟨_, (), rfl, (hk0 hc0).symm, vaP_at ht hP⟩, hS.F ht⟩) hS.2.2 dL_told_24
set_option maxHeartbeats 4000000 in
theorem wr_pieces {l : Launch} {D : va_G} {ct : Nat → ClassId} {adK adV : Nat → Nat} {q_t qo : Nat} {fs : List Value} {ov : Nat → Int64} {wx wx' : va_W} {p1 : Int32} {o_c : Nat} {o_r k : Int32} (hM : CX l yX9_pieces wvX9_pieces ({ frames := 8, cells := 1, slots := 6, locals := 146 } : Room) [.ref q_t, .int p1] D ct adK adV wx wx' o_c o_r) (h0 : wx[0]? = some (q_t, .inr (9, fs))) (h4 : wx'.map Prod.fst = wx.map Prod.fst) (hk0 : o_c = 0 → k = 0) (hc : o_c ≤ 1) (hk1 : o_c = 1 → k = 1) :
    CW l yL_pieces wvL_pieces rmW [.ref q_t, .int p1, .ref qo] D ct adK adV (ocell ct qo ov) (ocell ct qo (if o_c = 0 then vp_updL ov 0 o_r.toInt64 else ov)) wx wx' k := by
  intro sz
  refine va_MetW (cc := cL_pieces) (maxL := 4) (ret := (some .int)) (hh := [(0, 9, 12, 13)]) (by decide) rfl ?_
  intro p e s m args below meth c s₁ B hml hv
  obtain ⟨rfl, ⟨⟨⟨hsz, hP, hE, hD0⟩, hSE⟩, hXE⟩, hno⟩ := hv
  have hx := B.exec
  have hb := B.bytes
  have hr := B.returns
  have hts := atoms_spec (ws := wvL_pieces) B.pre
  have hown : s.vm.findClass RL = some m.cls := findClass_of_methodNamed B.named
  have htab : c.exceptionTable.toList = tableOf [(0, 9, 12, 13)] := vx_table (x := yL_law) B (hts _ List.mem_cons_self)
  subst hsz
  have hD := hD0.self (sz := s.heap.size)
  generalize hAe : va_A (ocell ct qo ov :: wx) s.heap.size = A at hD hSE hXE ⊢
  have hA : ∀ q : Nat, s.heap.size ≤ q → A q := fun q h => by rw [← hAe]; exact Or.inr h
  have hl := lv_entry ([.ref q_t, .int p1, .ref qo]) (n := 4) (Nat.le_of_ble_eq_true rfl)
  rw [lg_entry_eq]
  generalize (lg_sl ([.ref q_t, .int p1, .ref qo]) ++ List.replicate (4 - (lg_sl ([.ref q_t, .int p1, .ref qo])).length) Slot.unset).toArray = ls at hl ⊢
  have hl : lv_has ls 4 [(0, .ref q_t), (1, .int p1), (2, .ref qo)] := hl
  have hS : ∀ H : Heap, s.heap = H → va_S A s.heap H [] := fun H h => h ▸ va_S.rf
  generalize hH : s.heap = H at hP ⊢
  have hS := hS H hH
  refine lv_aload_n hx hb dL_pieces_0 rfl (lv_at hl 2 rfl) ?_
  refine lv_iconst (v := 0) hx hb dL_pieces_1 (by decide) ?_
  refine lv_aload_n hx hb dL_pieces_2 rfl (lv_at hl 0 rfl) ?_
  refine lv_iload_n hx hb dL_pieces_3 rfl (lv_at hl 1 rfl) ?_
  refine xc2 (w1 := [ocell ct qo ov]) (vx_runV (As := [.int p1]) (rest := [.int 0, .ref qo]) ⟨hx, hb, hml, hown, hts⟩ (hM H.size) (cwV 1 hts (goodIn_up gl9_pieces) rfl rfl rfl (by decide +kernel) ⟨Nat.le_of_ble_eq_true rfl, Nat.le_of_ble_eq_true rfl⟩) ⟨blindX, va_recv hE.1 (s2_P (w1 := [ocell ct qo ov]) hP) (ci := 9) (q0 := 0) rfl h0, mkpreX hE hSE hXE hS (s2_free (w1 := [ocell ct qo ov]) hD hS hA) (s2_P (w1 := [ocell ct qo ov]) hP) (s2_D (w1 := [ocell ct qo ov]) hD)⟩ rfl rfl hl.1 rfl (lv_room (Nat.le_of_ble_eq_true rfl)) dL_pieces_4 ⟨Nat.le_of_ble_eq_true rfl, Nat.le_of_ble_eq_true rfl⟩) hP hD hS hA h4 ?_ ?_
  · intro hc0 ce q9 H locs hP hD hS hce hcv hcl
    rw [if_neg hc0]
    have e9 : o_c = 1 := by omega
    have hcl : s.vm.findClass exI = some ce.cls := by rw [e9] at hcl; exact hcl
    refine cq_first (E := exI) hown htab rfl (by decide) (hts _ (List.mem_cons_of_mem _ cLI)) (cst_I hXE) hce hcv hcl ?_
    refine lv_astore_n (lv' := [(3, .ref q9), (0, .ref q_t), (1, .int p1), (2, .ref qo)]) hx hb dL_pieces_12 rfl hl (by decide) rfl (fun ls hl => ?_)
    refine lv_iconst (v := 1) hx hb dL_pieces_13 (by decide) ?_
    exact W.iret hx hb hr (fun t ht hW => ⟨⟨_, (), rfl, (hk1 e9).symm, vaP_at ht hP⟩, hS.F ht⟩) hS.2.2 dL_pieces_14
  · intro hc0 H locs hP hD hS
    rw [if_pos hc0]
    refine lv_i2l (v := o_r.toInt64) hx hb dL_pieces_7 rfl ?_
    refine va_last hx hb hE.1 hP hD hS 0 1 rfl rfl vp1 dL_pieces_8 (fun H locs hP hD hS => ?_)
    have hP : va_P D vwCl (ocell ct qo (vp_updL ov 0 o_r.toInt64) :: wx') H := hP
    refine lv_goto (tgt := 15) hx hb dL_pieces_9 (by decide) ?_
    refine lv_iconst (v := 0) hx hb dL_pieces_15 (by decide) ?_
    exact W.iret hx hb hr (fun t ht hW => ⟨⟨_, (), rfl, (hk0 hc0).symm, vaP_at ht hP⟩, hS.F ht⟩) hS.2.2 dL_pieces_16
set_option maxHeartbeats 4000000 in
theorem wr_piece {l : Launch} {D : va_G} {ct : Nat → ClassId} {adK adV : Nat → Nat} {q_t qo : Nat} {fs : List Value} {ov : Nat → Int64} {wx wx' : va_W} {p1 p2 p3 : Int32} {o_c : Nat} {o_r k : Int32} (hM : CX l yX9_piece wvX9_piece ({ frames := 8, cells := 1, slots := 6, locals := 146 } : Room) [.ref q_t, .int p1, .int p2, .int p3] D ct adK adV wx wx' o_c o_r) (h0 : wx[0]? = some (q_t, .inr (9, fs))) (h4 : wx'.map Prod.fst = wx.map Prod.fst) (hk0 : o_c = 0 → k = 0) (hc : o_c ≤ 2) (hk1 : o_c = 1 → k = 1) (hk2 : o_c = 2 → k = 2) :
    CW l yL_piece wvL_piece rmW [.ref q_t, .int p1, .int p2, .int p3, .ref qo] D ct adK adV (ocell ct qo ov) (ocell ct qo (if o_c = 0 then vp_updL ov 0 o_r.toInt64 else ov)) wx wx' k := by
  intro sz
  refine va_MetW (cc := cL_piece) (maxL := 6) (ret := (some .int)) (hh := [(0, 12, 15, 13), (0, 12, 19, 15)]) (by decide) rfl ?_
  intro p e s m args below meth c s₁ B hml hv
  obtain ⟨rfl, ⟨⟨⟨hsz, hP, hE, hD0⟩, hSE⟩, hXE⟩, hno⟩ := hv
  have hx := B.exec
  have hb := B.bytes
  have hr := B.returns
  have hts := atoms_spec (ws := wvL_piece) B.pre
  have hown : s.vm.findClass RL = some m.cls := findClass_of_methodNamed B.named
  have htab : c.exceptionTable.toList = tableOf [(0, 12, 15, 13), (0, 12, 19, 15)] := vx_table (x := yL_law) B (hts _ List.mem_cons_self)
  subst hsz
  have hD := hD0.self (sz := s.heap.size)
  generalize hAe : va_A (ocell ct qo ov :: wx) s.heap.size = A at hD hSE hXE ⊢
  have hA : ∀ q : Nat, s.heap.size ≤ q → A q := fun q h => by rw [← hAe]; exact Or.inr h
  have hl := lv_entry ([.ref q_t, .int p1, .int p2, .int p3, .ref qo]) (n := 6) (Nat.le_of_ble_eq_true rfl)
  rw [lg_entry_eq]
  generalize (lg_sl ([.ref q_t, .int p1, .int p2, .int p3, .ref qo]) ++ List.replicate (6 - (lg_sl ([.ref q_t, .int p1, .int p2, .int p3, .ref qo])).length) Slot.unset).toArray = ls at hl ⊢
  have hl : lv_has ls 6 [(0, .ref q_t), (1, .int p1), (2, .int p2), (3, .int p3), (4, .ref qo)] := hl
  have hS : ∀ H : Heap, s.heap = H → va_S A s.heap H [] := fun H h => h ▸ va_S.rf
  generalize hH : s.heap = H at hP ⊢
  have hS := hS H hH
  refine lv_aload hx hb dL_piece_0 (lv_at hl 4 rfl) ?_
  refine lv_iconst (v := 0) hx hb dL_piece_2 (by decide) ?_
  refine lv_aload_n hx hb dL_piece_3 rfl (lv_at hl 0 rfl) ?_
  refine lv_iload_n hx hb dL_piece_4 rfl (lv_at hl 1 rfl) ?_
  refine lv_iload_n hx hb dL_piece_5 rfl (lv_at hl 2 rfl) ?_
  refine lv_iload_n hx hb dL_piece_6 rfl (lv_at hl 3 rfl) ?_
  refine xc2 (w1 := [ocell ct qo ov]) (vx_runV (As := [.int p1, .int p2, .int p3]) (rest := [.int 0, .ref qo]) ⟨hx, hb, hml, hown, hts⟩ (hM H.size) (cwV 3 hts (goodIn_up gl9_piece) rfl rfl rfl (by decide +kernel) ⟨Nat.le_of_ble_eq_true rfl, Nat.le_of_ble_eq_true rfl⟩) ⟨blindX, va_recv hE.1 (s2_P (w1 := [ocell ct qo ov]) hP) (ci := 9) (q0 := 0) rfl h0, mkpreX hE hSE hXE hS (s2_free (w1 := [ocell ct qo ov]) hD hS hA) (s2_P (w1 := [ocell ct qo ov]) hP) (s2_D (w1 := [ocell ct qo ov]) hD)⟩ rfl rfl hl.1 rfl (lv_room (Nat.le_of_ble_eq_true rfl)) dL_piece_7 ⟨Nat.le_of_ble_eq_true rfl, Nat.le_of_ble_eq_true rfl⟩) hP hD hS hA h4 ?_ ?_
  · intro hc0 ce q9 H locs hP hD hS hce hcv hcl
    rw [if_neg hc0]
    rcases (show o_c = 1 ∨ o_c = 2 by omega) with e9 | e9
    · have hcl : s.vm.findClass exI = some ce.cls := by rw [e9] at hcl; exact hcl
      refine cq_first (E := exI) hown htab rfl (by decide) (hts _ (List.mem_cons_of_mem _ cLI)) (cst_I hXE) hce hcv hcl ?_
      refine lv_astore (lv' := [(5, .ref q9), (0, .ref q_t), (1, .int p1), (2, .int p2), (3, .int p3), (4, .ref qo)]) hx hb dL_piece_15 hl (by decide) rfl (fun ls hl => ?_)
      refine lv_iconst (v := 1) hx hb dL_piece_17 (by decide) ?_
      exact W.iret hx hb hr (fun t ht hW => ⟨⟨_, (), rfl, (hk1 e9).symm, vaP_at ht hP⟩, hS.F ht⟩) hS.2.2 dL_piece_18
    · have hcl : s.vm.findClass exA = some ce.cls := by rw [e9] at hcl; exact hcl
      refine cq_second (E := exA) hown htab rfl (by decide) (hts _ (List.mem_cons_of_mem _ cLI)) hno rfl (by decide) (hts _ (List.mem_cons_of_mem _ cLA)) (cst_A hXE) hce hcv hcl ?_
      refine lv_astore (lv' := [(5, .ref q9), (0, .ref q_t), (1, .int p1), (2, .int p2), (3, .int p3), (4, .ref qo)]) hx hb dL_piece_19 hl (by decide) rfl (fun ls hl => ?_)
      refine lv_iconst (v := 2) hx hb dL_piece_21 (by decide) ?_
      exact W.iret hx hb hr (fun t ht hW => ⟨⟨_, (), rfl, (hk2 e9).symm, vaP_at ht hP⟩, hS.F ht⟩) hS.2.2 dL_piece_22
  · intro hc0 H locs hP hD hS
    rw [if_pos hc0]
    refine lv_i2l (v := o_r.toInt64) hx hb dL_piece_10 rfl ?_
    refine va_last hx hb hE.1 hP hD hS 0 1 rfl rfl vp1 dL_piece_11 (fun H locs hP hD hS => ?_)
    have hP : va_P D vwCl (ocell ct qo (vp_updL ov 0 o_r.toInt64) :: wx') H := hP
    refine lv_goto (tgt := 23) hx hb dL_piece_12 (by decide) ?_
    refine lv_iconst (v := 0) hx hb dL_piece_23 (by decide) ?_
    exact W.iret hx hb hr (fun t ht hW => ⟨⟨_, (), rfl, (hk0 hc0).symm, vaP_at ht hP⟩, hS.F ht⟩) hS.2.2 dL_piece_24
set_option maxHeartbeats 4000000 in
theorem wr_baseline {l : Launch} {D : va_G} {ct : Nat → ClassId} {adK adV : Nat → Nat} {q_t qo : Nat} {fs : List Value} {ov : Nat → Int64} {wx wx' : va_W} {p1 p2 : Int32} {o_c : Nat} {o_r k : Int32} (hM : CX l yX9_baseline wvX9_baseline ({ frames := 8, cells := 1, slots := 6, locals := 146 } : Room) [.ref q_t, .int p1, .int p2] D ct adK adV wx wx' o_c o_r) (h0 : wx[0]? = some (q_t, .inr (9, fs))) (h4 : wx'.map Prod.fst = wx.map Prod.fst) (hk0 : o_c = 0 → k = 0) (hc : o_c ≤ 1) (hk1 : o_c = 1 → k = 1) :
    CW l yL_baseline wvL_baseline rmW [.ref q_t, .int p1, .int p2, .ref qo] D ct adK adV (ocell ct qo ov) (ocell ct qo (if o_c = 0 then vp_updL ov 0 o_r.toInt64 else ov)) wx wx' k := by
  intro sz
  refine va_MetW (cc := cL_baseline) (maxL := 5) (ret := (some .int)) (hh := [(0, 10, 13, 13)]) (by decide) rfl ?_
  intro p e s m args below meth c s₁ B hml hv
  obtain ⟨rfl, ⟨⟨⟨hsz, hP, hE, hD0⟩, hSE⟩, hXE⟩, hno⟩ := hv
  have hx := B.exec
  have hb := B.bytes
  have hr := B.returns
  have hts := atoms_spec (ws := wvL_baseline) B.pre
  have hown : s.vm.findClass RL = some m.cls := findClass_of_methodNamed B.named
  have htab : c.exceptionTable.toList = tableOf [(0, 10, 13, 13)] := vx_table (x := yL_law) B (hts _ List.mem_cons_self)
  subst hsz
  have hD := hD0.self (sz := s.heap.size)
  generalize hAe : va_A (ocell ct qo ov :: wx) s.heap.size = A at hD hSE hXE ⊢
  have hA : ∀ q : Nat, s.heap.size ≤ q → A q := fun q h => by rw [← hAe]; exact Or.inr h
  have hl := lv_entry ([.ref q_t, .int p1, .int p2, .ref qo]) (n := 5) (Nat.le_of_ble_eq_true rfl)
  rw [lg_entry_eq]
  generalize (lg_sl ([.ref q_t, .int p1, .int p2, .ref qo]) ++ List.replicate (5 - (lg_sl ([.ref q_t, .int p1, .int p2, .ref qo])).length) Slot.unset).toArray = ls at hl ⊢
  have hl : lv_has ls 5 [(0, .ref q_t), (1, .int p1), (2, .int p2), (3, .ref qo)] := hl
  have hS : ∀ H : Heap, s.heap = H → va_S A s.heap H [] := fun H h => h ▸ va_S.rf
  generalize hH : s.heap = H at hP ⊢
  have hS := hS H hH
  refine lv_aload_n hx hb dL_baseline_0 rfl (lv_at hl 3 rfl) ?_
  refine lv_iconst (v := 0) hx hb dL_baseline_1 (by decide) ?_
  refine lv_aload_n hx hb dL_baseline_2 rfl (lv_at hl 0 rfl) ?_
  refine lv_iload_n hx hb dL_baseline_3 rfl (lv_at hl 1 rfl) ?_
  refine lv_iload_n hx hb dL_baseline_4 rfl (lv_at hl 2 rfl) ?_
  refine xc2 (w1 := [ocell ct qo ov]) (vx_runV (As := [.int p1, .int p2]) (rest := [.int 0, .ref qo]) ⟨hx, hb, hml, hown, hts⟩ (hM H.size) (cwV 2 hts (goodIn_up gl9_baseline) rfl rfl rfl (by decide +kernel) ⟨Nat.le_of_ble_eq_true rfl, Nat.le_of_ble_eq_true rfl⟩) ⟨blindX, va_recv hE.1 (s2_P (w1 := [ocell ct qo ov]) hP) (ci := 9) (q0 := 0) rfl h0, mkpreX hE hSE hXE hS (s2_free (w1 := [ocell ct qo ov]) hD hS hA) (s2_P (w1 := [ocell ct qo ov]) hP) (s2_D (w1 := [ocell ct qo ov]) hD)⟩ rfl rfl hl.1 rfl (lv_room (Nat.le_of_ble_eq_true rfl)) dL_baseline_5 ⟨Nat.le_of_ble_eq_true rfl, Nat.le_of_ble_eq_true rfl⟩) hP hD hS hA h4 ?_ ?_
  · intro hc0 ce q9 H locs hP hD hS hce hcv hcl
    rw [if_neg hc0]
    have e9 : o_c = 1 := by omega
    have hcl : s.vm.findClass exI = some ce.cls := by rw [e9] at hcl; exact hcl
    refine cq_first (E := exI) hown htab rfl (by decide) (hts _ (List.mem_cons_of_mem _ cLI)) (cst_I hXE) hce hcv hcl ?_
    refine lv_astore (lv' := [(4, .ref q9), (0, .ref q_t), (1, .int p1), (2, .int p2), (3, .ref qo)]) hx hb dL_baseline_13 hl (by decide) rfl (fun ls hl => ?_)
    refine lv_iconst (v := 1) hx hb dL_baseline_15 (by decide) ?_
    exact W.iret hx hb hr (fun t ht hW => ⟨⟨_, (), rfl, (hk1 e9).symm, vaP_at ht hP⟩, hS.F ht⟩) hS.2.2 dL_baseline_16
  · intro hc0 H locs hP hD hS
    rw [if_pos hc0]
    refine lv_i2l (v := o_r.toInt64) hx hb dL_baseline_8 rfl ?_
    refine va_last hx hb hE.1 hP hD hS 0 1 rfl rfl vp1 dL_baseline_9 (fun H locs hP hD hS => ?_)
    have hP : va_P D vwCl (ocell ct qo (vp_updL ov 0 o_r.toInt64) :: wx') H := hP
    refine lv_goto (tgt := 17) hx hb dL_baseline_10 (by decide) ?_
    refine lv_iconst (v := 0) hx hb dL_baseline_17 (by decide) ?_
    exact W.iret hx hb hr (fun t ht hW => ⟨⟨_, (), rfl, (hk0 hc0).symm, vaP_at ht hP⟩, hS.F ht⟩) hS.2.2 dL_baseline_18
set_option maxHeartbeats 4000000 in
theorem wr_value {l : Launch} {D : va_G} {ct : Nat → ClassId} {adK adV : Nat → Nat} {q_t qo : Nat} {fs : List Value} {ov : Nat → Int64} {wx wx' : va_W} {p1 p2 : Int32} {o_c : Nat} {o_r k : Int32} (hM : CX l yX9_value wvX9_value ({ frames := 8, cells := 1, slots := 6, locals := 146 } : Room) [.ref q_t, .int p1, .int p2] D ct adK adV wx wx' o_c o_r) (h0 : wx[0]? = some (q_t, .inr (9, fs))) (h4 : wx'.map Prod.fst = wx.map Prod.fst) (hk0 : o_c = 0 → k = 0) (hc : o_c ≤ 1) (hk1 : o_c = 1 → k = 1) :
    CW l yL_value wvL_value rmW [.ref q_t, .int p1, .int p2, .ref qo] D ct adK adV (ocell ct qo ov) (ocell ct qo (if o_c = 0 then vp_updL ov 0 o_r.toInt64 else ov)) wx wx' k := by
  intro sz
  refine va_MetW (cc := cL_value) (maxL := 5) (ret := (some .int)) (hh := [(0, 10, 13, 13)]) (by decide) rfl ?_
  intro p e s m args below meth c s₁ B hml hv
  obtain ⟨rfl, ⟨⟨⟨hsz, hP, hE, hD0⟩, hSE⟩, hXE⟩, hno⟩ := hv
  have hx := B.exec
  have hb := B.bytes
  have hr := B.returns
  have hts := atoms_spec (ws := wvL_value) B.pre
  have hown : s.vm.findClass RL = some m.cls := findClass_of_methodNamed B.named
  have htab : c.exceptionTable.toList = tableOf [(0, 10, 13, 13)] := vx_table (x := yL_law) B (hts _ List.mem_cons_self)
  subst hsz
  have hD := hD0.self (sz := s.heap.size)
  generalize hAe : va_A (ocell ct qo ov :: wx) s.heap.size = A at hD hSE hXE ⊢
  have hA : ∀ q : Nat, s.heap.size ≤ q → A q := fun q h => by rw [← hAe]; exact Or.inr h
  have hl := lv_entry ([.ref q_t, .int p1, .int p2, .ref qo]) (n := 5) (Nat.le_of_ble_eq_true rfl)
  rw [lg_entry_eq]
  generalize (lg_sl ([.ref q_t, .int p1, .int p2, .ref qo]) ++ List.replicate (5 - (lg_sl ([.ref q_t, .int p1, .int p2, .ref qo])).length) Slot.unset).toArray = ls at hl ⊢
  have hl : lv_has ls 5 [(0, .ref q_t), (1, .int p1), (2, .int p2), (3, .ref qo)] := hl
  have hS : ∀ H : Heap, s.heap = H → va_S A s.heap H [] := fun H h => h ▸ va_S.rf
  generalize hH : s.heap = H at hP ⊢
  have hS := hS H hH
  refine lv_aload_n hx hb dL_value_0 rfl (lv_at hl 3 rfl) ?_
  refine lv_iconst (v := 0) hx hb dL_value_1 (by decide) ?_
  refine lv_aload_n hx hb dL_value_2 rfl (lv_at hl 0 rfl) ?_
  refine lv_iload_n hx hb dL_value_3 rfl (lv_at hl 1 rfl) ?_
  refine lv_iload_n hx hb dL_value_4 rfl (lv_at hl 2 rfl) ?_
  refine xc2 (w1 := [ocell ct qo ov]) (vx_runV (As := [.int p1, .int p2]) (rest := [.int 0, .ref qo]) ⟨hx, hb, hml, hown, hts⟩ (hM H.size) (cwV 2 hts (goodIn_up gl9_value) rfl rfl rfl (by decide +kernel) ⟨Nat.le_of_ble_eq_true rfl, Nat.le_of_ble_eq_true rfl⟩) ⟨blindX, va_recv hE.1 (s2_P (w1 := [ocell ct qo ov]) hP) (ci := 9) (q0 := 0) rfl h0, mkpreX hE hSE hXE hS (s2_free (w1 := [ocell ct qo ov]) hD hS hA) (s2_P (w1 := [ocell ct qo ov]) hP) (s2_D (w1 := [ocell ct qo ov]) hD)⟩ rfl rfl hl.1 rfl (lv_room (Nat.le_of_ble_eq_true rfl)) dL_value_5 ⟨Nat.le_of_ble_eq_true rfl, Nat.le_of_ble_eq_true rfl⟩) hP hD hS hA h4 ?_ ?_
  · intro hc0 ce q9 H locs hP hD hS hce hcv hcl
    rw [if_neg hc0]
    have e9 : o_c = 1 := by omega
    have hcl : s.vm.findClass exI = some ce.cls := by rw [e9] at hcl; exact hcl
    refine cq_first (E := exI) hown htab rfl (by decide) (hts _ (List.mem_cons_of_mem _ cLI)) (cst_I hXE) hce hcv hcl ?_
    refine lv_astore (lv' := [(4, .ref q9), (0, .ref q_t), (1, .int p1), (2, .int p2), (3, .ref qo)]) hx hb dL_value_13 hl (by decide) rfl (fun ls hl => ?_)
    refine lv_iconst (v := 1) hx hb dL_value_15 (by decide) ?_
    exact W.iret hx hb hr (fun t ht hW => ⟨⟨_, (), rfl, (hk1 e9).symm, vaP_at ht hP⟩, hS.F ht⟩) hS.2.2 dL_value_16
  · intro hc0 H locs hP hD hS
    rw [if_pos hc0]
    refine lv_i2l (v := o_r.toInt64) hx hb dL_value_8 rfl ?_
    refine va_last hx hb hE.1 hP hD hS 0 1 rfl rfl vp1 dL_value_9 (fun H locs hP hD hS => ?_)
    have hP : va_P D vwCl (ocell ct qo (vp_updL ov 0 o_r.toInt64) :: wx') H := hP
    refine lv_goto (tgt := 17) hx hb dL_value_10 (by decide) ?_
    refine lv_iconst (v := 0) hx hb dL_value_17 (by decide) ?_
    exact W.iret hx hb hr (fun t ht hW => ⟨⟨_, (), rfl, (hk0 hc0).symm, vaP_at ht hP⟩, hS.F ht⟩) hS.2.2 dL_value_18
set_option maxHeartbeats 4000000 in
theorem wr_rule {l : Launch} {D : va_G} {ct : Nat → ClassId} {adK adV : Nat → Nat} {q_t qo : Nat} {fs : List Value} {ov : Nat → Int64} {wx wx' : va_W} {p1 : Int32} {o_c : Nat} {o_r k : Int32} (hM : CX l yX9_rule wvX9_rule ({ frames := 8, cells := 1, slots := 6, locals := 180 } : Room) [.ref q_t, .int p1] D ct adK adV wx wx' o_c o_r) (h0 : wx[0]? = some (q_t, .inr (9, fs))) (h4 : wx'.map Prod.fst = wx.map Prod.fst) (hk0 : o_c = 0 → k = 0) (hc : o_c = 0 ∨ o_c = 2) (hk2 : o_c = 2 → k = 1) :
    CW l yL_rule wvL_rule rmW [.ref q_t, .int p1, .ref qo] D ct adK adV (ocell ct qo ov) (ocell ct qo (if o_c = 0 then vp_updL ov 0 o_r.toInt64 else ov)) wx wx' k := by
  intro sz
  refine va_MetW (cc := cL_rule) (maxL := 4) (ret := (some .int)) (hh := [(0, 9, 12, 15)]) (by decide) rfl ?_
  intro p e s m args below meth c s₁ B hml hv
  obtain ⟨rfl, ⟨⟨⟨hsz, hP, hE, hD0⟩, hSE⟩, hXE⟩, hno⟩ := hv
  have hx := B.exec
  have hb := B.bytes
  have hr := B.returns
  have hts := atoms_spec (ws := wvL_rule) B.pre
  have hown : s.vm.findClass RL = some m.cls := findClass_of_methodNamed B.named
  have htab : c.exceptionTable.toList = tableOf [(0, 9, 12, 15)] := vx_table (x := yL_law) B (hts _ List.mem_cons_self)
  subst hsz
  have hD := hD0.self (sz := s.heap.size)
  generalize hAe : va_A (ocell ct qo ov :: wx) s.heap.size = A at hD hSE hXE ⊢
  have hA : ∀ q : Nat, s.heap.size ≤ q → A q := fun q h => by rw [← hAe]; exact Or.inr h
  have hl := lv_entry ([.ref q_t, .int p1, .ref qo]) (n := 4) (Nat.le_of_ble_eq_true rfl)
  rw [lg_entry_eq]
  generalize (lg_sl ([.ref q_t, .int p1, .ref qo]) ++ List.replicate (4 - (lg_sl ([.ref q_t, .int p1, .ref qo])).length) Slot.unset).toArray = ls at hl ⊢
  have hl : lv_has ls 4 [(0, .ref q_t), (1, .int p1), (2, .ref qo)] := hl
  have hS : ∀ H : Heap, s.heap = H → va_S A s.heap H [] := fun H h => h ▸ va_S.rf
  generalize hH : s.heap = H at hP ⊢
  have hS := hS H hH
  refine lv_aload_n hx hb dL_rule_0 rfl (lv_at hl 2 rfl) ?_
  refine lv_iconst (v := 0) hx hb dL_rule_1 (by decide) ?_
  refine lv_aload_n hx hb dL_rule_2 rfl (lv_at hl 0 rfl) ?_
  refine lv_iload_n hx hb dL_rule_3 rfl (lv_at hl 1 rfl) ?_
  refine xc2 (w1 := [ocell ct qo ov]) (vx_runV (As := [.int p1]) (rest := [.int 0, .ref qo]) ⟨hx, hb, hml, hown, hts⟩ (hM H.size) (cwV 1 hts (goodIn_up gl9_rule) rfl rfl rfl (by decide +kernel) ⟨Nat.le_of_ble_eq_true rfl, Nat.le_of_ble_eq_true rfl⟩) ⟨blindX, va_recv hE.1 (s2_P (w1 := [ocell ct qo ov]) hP) (ci := 9) (q0 := 0) rfl h0, mkpreX hE hSE hXE hS (s2_free (w1 := [ocell ct qo ov]) hD hS hA) (s2_P (w1 := [ocell ct qo ov]) hP) (s2_D (w1 := [ocell ct qo ov]) hD)⟩ rfl rfl hl.1 rfl (lv_room (Nat.le_of_ble_eq_true rfl)) dL_rule_4 ⟨Nat.le_of_ble_eq_true rfl, Nat.le_of_ble_eq_true rfl⟩) hP hD hS hA h4 ?_ ?_
  · intro hc0 ce q9 H locs hP hD hS hce hcv hcl
    rw [if_neg hc0]
    have e9 : o_c = 2 := by omega
    have hcl : s.vm.findClass exA = some ce.cls := by rw [e9] at hcl; exact hcl
    refine cq_first (E := exA) hown htab rfl (by decide) (hts _ (List.mem_cons_of_mem _ cLA)) (cst_A hXE) hce hcv hcl ?_
    refine lv_astore_n (lv' := [(3, .ref q9), (0, .ref q_t), (1, .int p1), (2, .ref qo)]) hx hb dL_rule_12 rfl hl (by decide) rfl (fun ls hl => ?_)
    refine lv_iconst (v := 1) hx hb dL_rule_13 (by decide) ?_
    exact W.iret hx hb hr (fun t ht hW => ⟨⟨_, (), rfl, (hk2 e9).symm, vaP_at ht hP⟩, hS.F ht⟩) hS.2.2 dL_rule_14
  · intro hc0 H locs hP hD hS
    rw [if_pos hc0]
    refine lv_i2l (v := o_r.toInt64) hx hb dL_rule_7 rfl ?_
    refine va_last hx hb hE.1 hP hD hS 0 1 rfl rfl vp1 dL_rule_8 (fun H locs hP hD hS => ?_)
    have hP : va_P D vwCl (ocell ct qo (vp_updL ov 0 o_r.toInt64) :: wx') H := hP
    refine lv_goto (tgt := 15) hx hb dL_rule_9 (by decide) ?_
    refine lv_iconst (v := 0) hx hb dL_rule_15 (by decide) ?_
    exact W.iret hx hb hr (fun t ht hW => ⟨⟨_, (), rfl, (hk0 hc0).symm, vaP_at ht hP⟩, hS.F ht⟩) hS.2.2 dL_rule_16
set_option maxHeartbeats 4000000 in
theorem wr_train {l : Launch} {D : va_G} {ct : Nat → ClassId} {adK adV : Nat → Nat} {q_t qo : Nat} {fs : List Value} {ov : Nat → Int64} {wx wx' : va_W} {p1 p2 : Int32} {o_c : Nat} {o_r k : Int32} (hM : CX l yX9_train wvX9_train ({ frames := 7, cells := 1, slots := 6, locals := 120 } : Room) [.ref q_t, .int p1, .int p2] D ct adK adV wx wx' o_c o_r) (h0 : wx[0]? = some (q_t, .inr (9, fs))) (h4 : wx'.map Prod.fst = wx.map Prod.fst) (hk0 : o_c = 0 → k = 0) (hc : o_c = 0 ∨ o_c = 2) (hk2 : o_c = 2 → k = 1) :
    CW l yL_train wvL_train rmW [.ref q_t, .int p1, .int p2, .ref qo] D ct adK adV (ocell ct qo ov) (ocell ct qo (if o_c = 0 then vp_updL ov 0 o_r.toInt64 else ov)) wx wx' k := by
  intro sz
  refine va_MetW (cc := cL_train) (maxL := 5) (ret := (some .int)) (hh := [(0, 10, 13, 15)]) (by decide) rfl ?_
  intro p e s m args below meth c s₁ B hml hv
  obtain ⟨rfl, ⟨⟨⟨hsz, hP, hE, hD0⟩, hSE⟩, hXE⟩, hno⟩ := hv
  have hx := B.exec
  have hb := B.bytes
  have hr := B.returns
  have hts := atoms_spec (ws := wvL_train) B.pre
  have hown : s.vm.findClass RL = some m.cls := findClass_of_methodNamed B.named
  have htab : c.exceptionTable.toList = tableOf [(0, 10, 13, 15)] := vx_table (x := yL_law) B (hts _ List.mem_cons_self)
  subst hsz
  have hD := hD0.self (sz := s.heap.size)
  generalize hAe : va_A (ocell ct qo ov :: wx) s.heap.size = A at hD hSE hXE ⊢
  have hA : ∀ q : Nat, s.heap.size ≤ q → A q := fun q h => by rw [← hAe]; exact Or.inr h
  have hl := lv_entry ([.ref q_t, .int p1, .int p2, .ref qo]) (n := 5) (Nat.le_of_ble_eq_true rfl)
  rw [lg_entry_eq]
  generalize (lg_sl ([.ref q_t, .int p1, .int p2, .ref qo]) ++ List.replicate (5 - (lg_sl ([.ref q_t, .int p1, .int p2, .ref qo])).length) Slot.unset).toArray = ls at hl ⊢
  have hl : lv_has ls 5 [(0, .ref q_t), (1, .int p1), (2, .int p2), (3, .ref qo)] := hl
  have hS : ∀ H : Heap, s.heap = H → va_S A s.heap H [] := fun H h => h ▸ va_S.rf
  generalize hH : s.heap = H at hP ⊢
  have hS := hS H hH
  refine lv_aload_n hx hb dL_train_0 rfl (lv_at hl 3 rfl) ?_
  refine lv_iconst (v := 0) hx hb dL_train_1 (by decide) ?_
  refine lv_aload_n hx hb dL_train_2 rfl (lv_at hl 0 rfl) ?_
  refine lv_iload_n hx hb dL_train_3 rfl (lv_at hl 1 rfl) ?_
  refine lv_iload_n hx hb dL_train_4 rfl (lv_at hl 2 rfl) ?_
  refine xc2 (w1 := [ocell ct qo ov]) (vx_runV (As := [.int p1, .int p2]) (rest := [.int 0, .ref qo]) ⟨hx, hb, hml, hown, hts⟩ (hM H.size) (cwV 2 hts (goodIn_up gl9_train) rfl rfl rfl (by decide +kernel) ⟨Nat.le_of_ble_eq_true rfl, Nat.le_of_ble_eq_true rfl⟩) ⟨blindX, va_recv hE.1 (s2_P (w1 := [ocell ct qo ov]) hP) (ci := 9) (q0 := 0) rfl h0, mkpreX hE hSE hXE hS (s2_free (w1 := [ocell ct qo ov]) hD hS hA) (s2_P (w1 := [ocell ct qo ov]) hP) (s2_D (w1 := [ocell ct qo ov]) hD)⟩ rfl rfl hl.1 rfl (lv_room (Nat.le_of_ble_eq_true rfl)) dL_train_5 ⟨Nat.le_of_ble_eq_true rfl, Nat.le_of_ble_eq_true rfl⟩) hP hD hS hA h4 ?_ ?_
  · intro hc0 ce q9 H locs hP hD hS hce hcv hcl
    rw [if_neg hc0]
    have e9 : o_c = 2 := by omega
    have hcl : s.vm.findClass exA = some ce.cls := by rw [e9] at hcl; exact hcl
    refine cq_first (E := exA) hown htab rfl (by decide) (hts _ (List.mem_cons_of_mem _ cLA)) (cst_A hXE) hce hcv hcl ?_
    refine lv_astore (lv' := [(4, .ref q9), (0, .ref q_t), (1, .int p1), (2, .int p2), (3, .ref qo)]) hx hb dL_train_13 hl (by decide) rfl (fun ls hl => ?_)
    refine lv_iconst (v := 1) hx hb dL_train_15 (by decide) ?_
    exact W.iret hx hb hr (fun t ht hW => ⟨⟨_, (), rfl, (hk2 e9).symm, vaP_at ht hP⟩, hS.F ht⟩) hS.2.2 dL_train_16
  · intro hc0 H locs hP hD hS
    rw [if_pos hc0]
    refine lv_i2l (v := o_r.toInt64) hx hb dL_train_8 rfl ?_
    refine va_last hx hb hE.1 hP hD hS 0 1 rfl rfl vp1 dL_train_9 (fun H locs hP hD hS => ?_)
    have hP : va_P D vwCl (ocell ct qo (vp_updL ov 0 o_r.toInt64) :: wx') H := hP
    refine lv_goto (tgt := 17) hx hb dL_train_10 (by decide) ?_
    refine lv_iconst (v := 0) hx hb dL_train_17 (by decide) ?_
    exact W.iret hx hb hr (fun t ht hW => ⟨⟨_, (), rfl, (hk0 hc0).symm, vaP_at ht hP⟩, hS.F ht⟩) hS.2.2 dL_train_18
set_option maxHeartbeats 4000000 in
theorem wr_range {l : Launch} {D : va_G} {ct : Nat → ClassId} {adK adV : Nat → Nat} {q_t qo : Nat} {fs : List Value} {ov : Nat → Int64} {wx wx' : va_W} {p1 p2 : Int32} {o_c : Nat} {o_r k : Int32} (hM : CX l yX9_range wvX9_range ({ frames := 8, cells := 1, slots := 6, locals := 146 } : Room) [.ref q_t, .int p1, .int p2] D ct adK adV wx wx' o_c o_r) (h0 : wx[0]? = some (q_t, .inr (9, fs))) (h4 : wx'.map Prod.fst = wx.map Prod.fst) (hk0 : o_c = 0 → k = 0) (hc : o_c ≤ 1) (hk1 : o_c = 1 → k = 1) :
    CW l yL_range wvL_range rmW [.ref q_t, .int p1, .int p2, .ref qo] D ct adK adV (ocell ct qo ov) (ocell ct qo (if o_c = 0 then vp_updL ov 0 o_r.toInt64 else ov)) wx wx' k := by
  intro sz
  refine va_MetW (cc := cL_range) (maxL := 5) (ret := (some .int)) (hh := [(0, 10, 13, 13)]) (by decide) rfl ?_
  intro p e s m args below meth c s₁ B hml hv
  obtain ⟨rfl, ⟨⟨⟨hsz, hP, hE, hD0⟩, hSE⟩, hXE⟩, hno⟩ := hv
  have hx := B.exec
  have hb := B.bytes
  have hr := B.returns
  have hts := atoms_spec (ws := wvL_range) B.pre
  have hown : s.vm.findClass RL = some m.cls := findClass_of_methodNamed B.named
  have htab : c.exceptionTable.toList = tableOf [(0, 10, 13, 13)] := vx_table (x := yL_law) B (hts _ List.mem_cons_self)
  subst hsz
  have hD := hD0.self (sz := s.heap.size)
  generalize hAe : va_A (ocell ct qo ov :: wx) s.heap.size = A at hD hSE hXE ⊢
  have hA : ∀ q : Nat, s.heap.size ≤ q → A q := fun q h => by rw [← hAe]; exact Or.inr h
  have hl := lv_entry ([.ref q_t, .int p1, .int p2, .ref qo]) (n := 5) (Nat.le_of_ble_eq_true rfl)
  rw [lg_entry_eq]
  generalize (lg_sl ([.ref q_t, .int p1, .int p2, .ref qo]) ++ List.replicate (5 - (lg_sl ([.ref q_t, .int p1, .int p2, .ref qo])).length) Slot.unset).toArray = ls at hl ⊢
  have hl : lv_has ls 5 [(0, .ref q_t), (1, .int p1), (2, .int p2), (3, .ref qo)] := hl
  have hS : ∀ H : Heap, s.heap = H → va_S A s.heap H [] := fun H h => h ▸ va_S.rf
  generalize hH : s.heap = H at hP ⊢
  have hS := hS H hH
  refine lv_aload_n hx hb dL_range_0 rfl (lv_at hl 3 rfl) ?_
  refine lv_iconst (v := 0) hx hb dL_range_1 (by decide) ?_
  refine lv_aload_n hx hb dL_range_2 rfl (lv_at hl 0 rfl) ?_
  refine lv_iload_n hx hb dL_range_3 rfl (lv_at hl 1 rfl) ?_
  refine lv_iload_n hx hb dL_range_4 rfl (lv_at hl 2 rfl) ?_
  refine xc2 (w1 := [ocell ct qo ov]) (vx_runV (As := [.int p1, .int p2]) (rest := [.int 0, .ref qo]) ⟨hx, hb, hml, hown, hts⟩ (hM H.size) (cwV 2 hts (goodIn_up gl9_range) rfl rfl rfl (by decide +kernel) ⟨Nat.le_of_ble_eq_true rfl, Nat.le_of_ble_eq_true rfl⟩) ⟨blindX, va_recv hE.1 (s2_P (w1 := [ocell ct qo ov]) hP) (ci := 9) (q0 := 0) rfl h0, mkpreX hE hSE hXE hS (s2_free (w1 := [ocell ct qo ov]) hD hS hA) (s2_P (w1 := [ocell ct qo ov]) hP) (s2_D (w1 := [ocell ct qo ov]) hD)⟩ rfl rfl hl.1 rfl (lv_room (Nat.le_of_ble_eq_true rfl)) dL_range_5 ⟨Nat.le_of_ble_eq_true rfl, Nat.le_of_ble_eq_true rfl⟩) hP hD hS hA h4 ?_ ?_
  · intro hc0 ce q9 H locs hP hD hS hce hcv hcl
    rw [if_neg hc0]
    have e9 : o_c = 1 := by omega
    have hcl : s.vm.findClass exI = some ce.cls := by rw [e9] at hcl; exact hcl
    refine cq_first (E := exI) hown htab rfl (by decide) (hts _ (List.mem_cons_of_mem _ cLI)) (cst_I hXE) hce hcv hcl ?_
    refine lv_astore (lv' := [(4, .ref q9), (0, .ref q_t), (1, .int p1), (2, .int p2), (3, .ref qo)]) hx hb dL_range_13 hl (by decide) rfl (fun ls hl => ?_)
    refine lv_iconst (v := 1) hx hb dL_range_15 (by decide) ?_
    exact W.iret hx hb hr (fun t ht hW => ⟨⟨_, (), rfl, (hk1 e9).symm, vaP_at ht hP⟩, hS.F ht⟩) hS.2.2 dL_range_16
  · intro hc0 H locs hP hD hS
    rw [if_pos hc0]
    refine lv_i2l (v := o_r.toInt64) hx hb dL_range_8 rfl ?_
    refine va_last hx hb hE.1 hP hD hS 0 1 rfl rfl vp1 dL_range_9 (fun H locs hP hD hS => ?_)
    have hP : va_P D vwCl (ocell ct qo (vp_updL ov 0 o_r.toInt64) :: wx') H := hP
    refine lv_goto (tgt := 17) hx hb dL_range_10 (by decide) ?_
    refine lv_iconst (v := 0) hx hb dL_range_17 (by decide) ?_
    exact W.iret hx hb hr (fun t ht hW => ⟨⟨_, (), rfl, (hk0 hc0).symm, vaP_at ht hP⟩, hS.F ht⟩) hS.2.2 dL_range_18
set_option maxHeartbeats 4000000 in
theorem wr_storm {l : Launch} {D : va_G} {ct : Nat → ClassId} {adK adV : Nat → Nat} {q_t qo : Nat} {fs : List Value} {ov : Nat → Int64} {wx wx' : va_W} {p1 p2 : Int32} {o_c : Nat} {o_r k : Int32} (hM : CX l yX9_storm wvX9_storm ({ frames := 7, cells := 1, slots := 6, locals := 167 } : Room) [.ref q_t, .int p1, .int p2] D ct adK adV wx wx' o_c o_r) (h0 : wx[0]? = some (q_t, .inr (9, fs))) (h4 : wx'.map Prod.fst = wx.map Prod.fst) (hk0 : o_c = 0 → k = 0) (hc : o_c = 0 ∨ o_c = 2) (hk2 : o_c = 2 → k = 1) :
    CW l yL_storm wvL_storm rmW [.ref q_t, .int p1, .int p2, .ref qo] D ct adK adV (ocell ct qo ov) (ocell ct qo (if o_c = 0 then vp_updL ov 0 o_r.toInt64 else ov)) wx wx' k := by
  intro sz
  refine va_MetW (cc := cL_storm) (maxL := 5) (ret := (some .int)) (hh := [(0, 10, 13, 15)]) (by decide) rfl ?_
  intro p e s m args below meth c s₁ B hml hv
  obtain ⟨rfl, ⟨⟨⟨hsz, hP, hE, hD0⟩, hSE⟩, hXE⟩, hno⟩ := hv
  have hx := B.exec
  have hb := B.bytes
  have hr := B.returns
  have hts := atoms_spec (ws := wvL_storm) B.pre
  have hown : s.vm.findClass RL = some m.cls := findClass_of_methodNamed B.named
  have htab : c.exceptionTable.toList = tableOf [(0, 10, 13, 15)] := vx_table (x := yL_law) B (hts _ List.mem_cons_self)
  subst hsz
  have hD := hD0.self (sz := s.heap.size)
  generalize hAe : va_A (ocell ct qo ov :: wx) s.heap.size = A at hD hSE hXE ⊢
  have hA : ∀ q : Nat, s.heap.size ≤ q → A q := fun q h => by rw [← hAe]; exact Or.inr h
  have hl := lv_entry ([.ref q_t, .int p1, .int p2, .ref qo]) (n := 5) (Nat.le_of_ble_eq_true rfl)
  rw [lg_entry_eq]
  generalize (lg_sl ([.ref q_t, .int p1, .int p2, .ref qo]) ++ List.replicate (5 - (lg_sl ([.ref q_t, .int p1, .int p2, .ref qo])).length) Slot.unset).toArray = ls at hl ⊢
  have hl : lv_has ls 5 [(0, .ref q_t), (1, .int p1), (2, .int p2), (3, .ref qo)] := hl
  have hS : ∀ H : Heap, s.heap = H → va_S A s.heap H [] := fun H h => h ▸ va_S.rf
  generalize hH : s.heap = H at hP ⊢
  have hS := hS H hH
  refine lv_aload_n hx hb dL_storm_0 rfl (lv_at hl 3 rfl) ?_
  refine lv_iconst (v := 0) hx hb dL_storm_1 (by decide) ?_
  refine lv_aload_n hx hb dL_storm_2 rfl (lv_at hl 0 rfl) ?_
  refine lv_iload_n hx hb dL_storm_3 rfl (lv_at hl 1 rfl) ?_
  refine lv_iload_n hx hb dL_storm_4 rfl (lv_at hl 2 rfl) ?_
  refine xc2 (w1 := [ocell ct qo ov]) (vx_runV (As := [.int p1, .int p2]) (rest := [.int 0, .ref qo]) ⟨hx, hb, hml, hown, hts⟩ (hM H.size) (cwV 2 hts (goodIn_up gl9_storm) rfl rfl rfl (by decide +kernel) ⟨Nat.le_of_ble_eq_true rfl, Nat.le_of_ble_eq_true rfl⟩) ⟨blindX, va_recv hE.1 (s2_P (w1 := [ocell ct qo ov]) hP) (ci := 9) (q0 := 0) rfl h0, mkpreX hE hSE hXE hS (s2_free (w1 := [ocell ct qo ov]) hD hS hA) (s2_P (w1 := [ocell ct qo ov]) hP) (s2_D (w1 := [ocell ct qo ov]) hD)⟩ rfl rfl hl.1 rfl (lv_room (Nat.le_of_ble_eq_true rfl)) dL_storm_5 ⟨Nat.le_of_ble_eq_true rfl, Nat.le_of_ble_eq_true rfl⟩) hP hD hS hA h4 ?_ ?_
  · intro hc0 ce q9 H locs hP hD hS hce hcv hcl
    rw [if_neg hc0]
    have e9 : o_c = 2 := by omega
    have hcl : s.vm.findClass exA = some ce.cls := by rw [e9] at hcl; exact hcl
    refine cq_first (E := exA) hown htab rfl (by decide) (hts _ (List.mem_cons_of_mem _ cLA)) (cst_A hXE) hce hcv hcl ?_
    refine lv_astore (lv' := [(4, .ref q9), (0, .ref q_t), (1, .int p1), (2, .int p2), (3, .ref qo)]) hx hb dL_storm_13 hl (by decide) rfl (fun ls hl => ?_)
    refine lv_iconst (v := 1) hx hb dL_storm_15 (by decide) ?_
    exact W.iret hx hb hr (fun t ht hW => ⟨⟨_, (), rfl, (hk2 e9).symm, vaP_at ht hP⟩, hS.F ht⟩) hS.2.2 dL_storm_16
  · intro hc0 H locs hP hD hS
    rw [if_pos hc0]
    refine lv_i2l (v := o_r.toInt64) hx hb dL_storm_8 rfl ?_
    refine va_last hx hb hE.1 hP hD hS 0 1 rfl rfl vp1 dL_storm_9 (fun H locs hP hD hS => ?_)
    have hP : va_P D vwCl (ocell ct qo (vp_updL ov 0 o_r.toInt64) :: wx') H := hP
    refine lv_goto (tgt := 17) hx hb dL_storm_10 (by decide) ?_
    refine lv_iconst (v := 0) hx hb dL_storm_17 (by decide) ?_
    exact W.iret hx hb hr (fun t ht hW => ⟨⟨_, (), rfl, (hk0 hc0).symm, vaP_at ht hP⟩, hS.F ht⟩) hS.2.2 dL_storm_18
set_option maxHeartbeats 4000000 in
theorem wr_changed {l : Launch} {D : va_G} {ct : Nat → ClassId} {adK adV : Nat → Nat} {q_t qo : Nat} {fs : List Value} {ov : Nat → Int64} {wx wx' : va_W} {p1 p2 : Int32} {o_c : Nat} {o_r k : Int32} (hM : CX l yX9_changed wvX9_changed ({ frames := 8, cells := 1, slots := 6, locals := 146 } : Room) [.ref q_t, .int p1, .int p2] D ct adK adV wx wx' o_c o_r) (h0 : wx[0]? = some (q_t, .inr (9, fs))) (h4 : wx'.map Prod.fst = wx.map Prod.fst) (hk0 : o_c = 0 → k = 0) (hc : o_c ≤ 1) (hk1 : o_c = 1 → k = 1) :
    CW l yL_changed wvL_changed rmW [.ref q_t, .int p1, .int p2, .ref qo] D ct adK adV (ocell ct qo ov) (ocell ct qo (if o_c = 0 then vp_updL ov 0 o_r.toInt64 else ov)) wx wx' k := by
  intro sz
  refine va_MetW (cc := cL_changed) (maxL := 5) (ret := (some .int)) (hh := [(0, 10, 13, 13)]) (by decide) rfl ?_
  intro p e s m args below meth c s₁ B hml hv
  obtain ⟨rfl, ⟨⟨⟨hsz, hP, hE, hD0⟩, hSE⟩, hXE⟩, hno⟩ := hv
  have hx := B.exec
  have hb := B.bytes
  have hr := B.returns
  have hts := atoms_spec (ws := wvL_changed) B.pre
  have hown : s.vm.findClass RL = some m.cls := findClass_of_methodNamed B.named
  have htab : c.exceptionTable.toList = tableOf [(0, 10, 13, 13)] := vx_table (x := yL_law) B (hts _ List.mem_cons_self)
  subst hsz
  have hD := hD0.self (sz := s.heap.size)
  generalize hAe : va_A (ocell ct qo ov :: wx) s.heap.size = A at hD hSE hXE ⊢
  have hA : ∀ q : Nat, s.heap.size ≤ q → A q := fun q h => by rw [← hAe]; exact Or.inr h
  have hl := lv_entry ([.ref q_t, .int p1, .int p2, .ref qo]) (n := 5) (Nat.le_of_ble_eq_true rfl)
  rw [lg_entry_eq]
  generalize (lg_sl ([.ref q_t, .int p1, .int p2, .ref qo]) ++ List.replicate (5 - (lg_sl ([.ref q_t, .int p1, .int p2, .ref qo])).length) Slot.unset).toArray = ls at hl ⊢
  have hl : lv_has ls 5 [(0, .ref q_t), (1, .int p1), (2, .int p2), (3, .ref qo)] := hl
  have hS : ∀ H : Heap, s.heap = H → va_S A s.heap H [] := fun H h => h ▸ va_S.rf
  generalize hH : s.heap = H at hP ⊢
  have hS := hS H hH
  refine lv_aload_n hx hb dL_changed_0 rfl (lv_at hl 3 rfl) ?_
  refine lv_iconst (v := 0) hx hb dL_changed_1 (by decide) ?_
  refine lv_aload_n hx hb dL_changed_2 rfl (lv_at hl 0 rfl) ?_
  refine lv_iload_n hx hb dL_changed_3 rfl (lv_at hl 1 rfl) ?_
  refine lv_iload_n hx hb dL_changed_4 rfl (lv_at hl 2 rfl) ?_
  refine xc2 (w1 := [ocell ct qo ov]) (vx_runV (As := [.int p1, .int p2]) (rest := [.int 0, .ref qo]) ⟨hx, hb, hml, hown, hts⟩ (hM H.size) (cwV 2 hts (goodIn_up gl9_changed) rfl rfl rfl (by decide +kernel) ⟨Nat.le_of_ble_eq_true rfl, Nat.le_of_ble_eq_true rfl⟩) ⟨blindX, va_recv hE.1 (s2_P (w1 := [ocell ct qo ov]) hP) (ci := 9) (q0 := 0) rfl h0, mkpreX hE hSE hXE hS (s2_free (w1 := [ocell ct qo ov]) hD hS hA) (s2_P (w1 := [ocell ct qo ov]) hP) (s2_D (w1 := [ocell ct qo ov]) hD)⟩ rfl rfl hl.1 rfl (lv_room (Nat.le_of_ble_eq_true rfl)) dL_changed_5 ⟨Nat.le_of_ble_eq_true rfl, Nat.le_of_ble_eq_true rfl⟩) hP hD hS hA h4 ?_ ?_
  · intro hc0 ce q9 H locs hP hD hS hce hcv hcl
    rw [if_neg hc0]
    have e9 : o_c = 1 := by omega
    have hcl : s.vm.findClass exI = some ce.cls := by rw [e9] at hcl; exact hcl
    refine cq_first (E := exI) hown htab rfl (by decide) (hts _ (List.mem_cons_of_mem _ cLI)) (cst_I hXE) hce hcv hcl ?_
    refine lv_astore (lv' := [(4, .ref q9), (0, .ref q_t), (1, .int p1), (2, .int p2), (3, .ref qo)]) hx hb dL_changed_13 hl (by decide) rfl (fun ls hl => ?_)
    refine lv_iconst (v := 1) hx hb dL_changed_15 (by decide) ?_
    exact W.iret hx hb hr (fun t ht hW => ⟨⟨_, (), rfl, (hk1 e9).symm, vaP_at ht hP⟩, hS.F ht⟩) hS.2.2 dL_changed_16
  · intro hc0 H locs hP hD hS
    rw [if_pos hc0]
    refine lv_i2l (v := o_r.toInt64) hx hb dL_changed_8 rfl ?_
    refine va_last hx hb hE.1 hP hD hS 0 1 rfl rfl vp1 dL_changed_9 (fun H locs hP hD hS => ?_)
    have hP : va_P D vwCl (ocell ct qo (vp_updL ov 0 o_r.toInt64) :: wx') H := hP
    refine lv_goto (tgt := 17) hx hb dL_changed_10 (by decide) ?_
    refine lv_iconst (v := 0) hx hb dL_changed_17 (by decide) ?_
    exact W.iret hx hb hr (fun t ht hW => ⟨⟨_, (), rfl, (hk0 hc0).symm, vaP_at ht hP⟩, hS.F ht⟩) hS.2.2 dL_changed_18
set_option maxHeartbeats 4000000 in
theorem wr_published {l : Launch} {D : va_G} {ct : Nat → ClassId} {adK adV : Nat → Nat} {q_t qo : Nat} {fs : List Value} {ov : Nat → Int64} {wx wx' : va_W} {p1 p2 : Int32} {o_c : Nat} {o_r k : Int32} (hM : CX l yX9_published wvX9_published ({ frames := 7, cells := 1, slots := 6, locals := 121 } : Room) [.ref q_t, .int p1, .int p2] D ct adK adV wx wx' o_c o_r) (h0 : wx[0]? = some (q_t, .inr (9, fs))) (h4 : wx'.map Prod.fst = wx.map Prod.fst) (hk0 : o_c = 0 → k = 0) (hc : o_c ≤ 1) (hk1 : o_c = 1 → k = 1) :
    CW l yL_published wvL_published rmW [.ref q_t, .int p1, .int p2, .ref qo] D ct adK adV (ocell ct qo ov) (ocell ct qo (if o_c = 0 then vp_updL ov 0 o_r.toInt64 else ov)) wx wx' k := by
  intro sz
  refine va_MetW (cc := cL_published) (maxL := 5) (ret := (some .int)) (hh := [(0, 10, 13, 13)]) (by decide) rfl ?_
  intro p e s m args below meth c s₁ B hml hv
  obtain ⟨rfl, ⟨⟨⟨hsz, hP, hE, hD0⟩, hSE⟩, hXE⟩, hno⟩ := hv
  have hx := B.exec
  have hb := B.bytes
  have hr := B.returns
  have hts := atoms_spec (ws := wvL_published) B.pre
  have hown : s.vm.findClass RL = some m.cls := findClass_of_methodNamed B.named
  have htab : c.exceptionTable.toList = tableOf [(0, 10, 13, 13)] := vx_table (x := yL_law) B (hts _ List.mem_cons_self)
  subst hsz
  have hD := hD0.self (sz := s.heap.size)
  generalize hAe : va_A (ocell ct qo ov :: wx) s.heap.size = A at hD hSE hXE ⊢
  have hA : ∀ q : Nat, s.heap.size ≤ q → A q := fun q h => by rw [← hAe]; exact Or.inr h
  have hl := lv_entry ([.ref q_t, .int p1, .int p2, .ref qo]) (n := 5) (Nat.le_of_ble_eq_true rfl)
  rw [lg_entry_eq]
  generalize (lg_sl ([.ref q_t, .int p1, .int p2, .ref qo]) ++ List.replicate (5 - (lg_sl ([.ref q_t, .int p1, .int p2, .ref qo])).length) Slot.unset).toArray = ls at hl ⊢
  have hl : lv_has ls 5 [(0, .ref q_t), (1, .int p1), (2, .int p2), (3, .ref qo)] := hl
  have hS : ∀ H : Heap, s.heap = H → va_S A s.heap H [] := fun H h => h ▸ va_S.rf
  generalize hH : s.heap = H at hP ⊢
  have hS := hS H hH
  refine lv_aload_n hx hb dL_published_0 rfl (lv_at hl 3 rfl) ?_
  refine lv_iconst (v := 0) hx hb dL_published_1 (by decide) ?_
  refine lv_aload_n hx hb dL_published_2 rfl (lv_at hl 0 rfl) ?_
  refine lv_iload_n hx hb dL_published_3 rfl (lv_at hl 1 rfl) ?_
  refine lv_iload_n hx hb dL_published_4 rfl (lv_at hl 2 rfl) ?_
  refine xc2 (w1 := [ocell ct qo ov]) (vx_runV (As := [.int p1, .int p2]) (rest := [.int 0, .ref qo]) ⟨hx, hb, hml, hown, hts⟩ (hM H.size) (cwV 2 hts (goodIn_up gl9_published) rfl rfl rfl (by decide +kernel) ⟨Nat.le_of_ble_eq_true rfl, Nat.le_of_ble_eq_true rfl⟩) ⟨blindX, va_recv hE.1 (s2_P (w1 := [ocell ct qo ov]) hP) (ci := 9) (q0 := 0) rfl h0, mkpreX hE hSE hXE hS (s2_free (w1 := [ocell ct qo ov]) hD hS hA) (s2_P (w1 := [ocell ct qo ov]) hP) (s2_D (w1 := [ocell ct qo ov]) hD)⟩ rfl rfl hl.1 rfl (lv_room (Nat.le_of_ble_eq_true rfl)) dL_published_5 ⟨Nat.le_of_ble_eq_true rfl, Nat.le_of_ble_eq_true rfl⟩) hP hD hS hA h4 ?_ ?_
  · intro hc0 ce q9 H locs hP hD hS hce hcv hcl
    rw [if_neg hc0]
    have e9 : o_c = 1 := by omega
    have hcl : s.vm.findClass exI = some ce.cls := by rw [e9] at hcl; exact hcl
    refine cq_first (E := exI) hown htab rfl (by decide) (hts _ (List.mem_cons_of_mem _ cLI)) (cst_I hXE) hce hcv hcl ?_
    refine lv_astore (lv' := [(4, .ref q9), (0, .ref q_t), (1, .int p1), (2, .int p2), (3, .ref qo)]) hx hb dL_published_13 hl (by decide) rfl (fun ls hl => ?_)
    refine lv_iconst (v := 1) hx hb dL_published_15 (by decide) ?_
    exact W.iret hx hb hr (fun t ht hW => ⟨⟨_, (), rfl, (hk1 e9).symm, vaP_at ht hP⟩, hS.F ht⟩) hS.2.2 dL_published_16
  · intro hc0 H locs hP hD hS
    rw [if_pos hc0]
    refine lv_i2l (v := o_r.toInt64) hx hb dL_published_8 rfl ?_
    refine va_last hx hb hE.1 hP hD hS 0 1 rfl rfl vp1 dL_published_9 (fun H locs hP hD hS => ?_)
    have hP : va_P D vwCl (ocell ct qo (vp_updL ov 0 o_r.toInt64) :: wx') H := hP
    refine lv_goto (tgt := 17) hx hb dL_published_10 (by decide) ?_
    refine lv_iconst (v := 0) hx hb dL_published_17 (by decide) ?_
    exact W.iret hx hb hr (fun t ht hW => ⟨⟨_, (), rfl, (hk0 hc0).symm, vaP_at ht hP⟩, hS.F ht⟩) hS.2.2 dL_published_18
