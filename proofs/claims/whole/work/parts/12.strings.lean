theorem sch_n : ∀ i, i < 7 → ∀ k, k < sLen.getD i 0 → narrow .char (.int (sch i k)) = .int (sch i k) := by decide +kernel
def SR (adK : Nat → Nat) (U : State) : Prop := vk_R RX4 73 "limit" (adK 0) U ∧ vk_R RX4 79 "near" (adK 1) U ∧ vk_R RX4 81 "share" (adK 2) U ∧ vk_R RX4 83 "window" (adK 3) U ∧ vk_R RX4 85 "storm" (adK 4) U ∧ vk_R RX4 87 "index" (adK 5) U ∧ vk_R RX4 104 "of" (adK 6) U ∧ vk_R RX10 234 "limit" (adK 0) U ∧ vk_R RX10 235 "near" (adK 1) U ∧ vk_R RX10 236 "share" (adK 2) U ∧ vk_R RX10 238 "window" (adK 3) U ∧ vk_R RX10 239 "storm" (adK 4) U ∧ vk_R RX10 240 "index" (adK 5) U ∧ vk_R RX10 273 "of" (adK 6) U
theorem SR_warm {adK : Nat → Nat} {s U : State} (hW : s.WarmedH U.vm) (h : SR adK s) : SR adK U := by
  obtain ⟨n0, n1, n2, n3, n4, n5, n6, n7, n8, n9, n10, n11, n12, n13⟩ := h
  exact ⟨vk_R.warm hW n0, vk_R.warm hW n1, vk_R.warm hW n2, vk_R.warm hW n3, vk_R.warm hW n4, vk_R.warm hW n5, vk_R.warm hW n6, vk_R.warm hW n7, vk_R.warm hW n8, vk_R.warm hW n9, vk_R.warm hW n10, vk_R.warm hW n11, vk_R.warm hW n12, vk_R.warm hW n13⟩
theorem SR_same {adK : Nat → Nat} {s U : State} (hW : s.vm = U.vm) (h : SR adK s) : SR adK U := by
  obtain ⟨n0, n1, n2, n3, n4, n5, n6, n7, n8, n9, n10, n11, n12, n13⟩ := h
  exact ⟨vk_R.same hW.symm n0, vk_R.same hW.symm n1, vk_R.same hW.symm n2, vk_R.same hW.symm n3, vk_R.same hW.symm n4, vk_R.same hW.symm n5, vk_R.same hW.symm n6, vk_R.same hW.symm n7, vk_R.same hW.symm n8, vk_R.same hW.symm n9, vk_R.same hW.symm n10, vk_R.same hW.symm n11, vk_R.same hW.symm n12, vk_R.same hW.symm n13⟩
theorem SR_0 {adK : Nat → Nat} {U : State} (h : SR adK U) : vk_R RX4 73 "limit" (adK 0) U := h.1
theorem SR_1 {adK : Nat → Nat} {U : State} (h : SR adK U) : vk_R RX4 79 "near" (adK 1) U := h.2.1
theorem SR_2 {adK : Nat → Nat} {U : State} (h : SR adK U) : vk_R RX4 81 "share" (adK 2) U := h.2.2.1
theorem SR_3 {adK : Nat → Nat} {U : State} (h : SR adK U) : vk_R RX4 83 "window" (adK 3) U := h.2.2.2.1
theorem SR_4 {adK : Nat → Nat} {U : State} (h : SR adK U) : vk_R RX4 85 "storm" (adK 4) U := h.2.2.2.2.1
theorem SR_5 {adK : Nat → Nat} {U : State} (h : SR adK U) : vk_R RX4 87 "index" (adK 5) U := h.2.2.2.2.2.1
theorem SR_6 {adK : Nat → Nat} {U : State} (h : SR adK U) : vk_R RX4 104 "of" (adK 6) U := h.2.2.2.2.2.2.1
theorem SR_7 {adK : Nat → Nat} {U : State} (h : SR adK U) : vk_R RX10 234 "limit" (adK 0) U := h.2.2.2.2.2.2.2.1
theorem SR_8 {adK : Nat → Nat} {U : State} (h : SR adK U) : vk_R RX10 235 "near" (adK 1) U := h.2.2.2.2.2.2.2.2.1
theorem SR_9 {adK : Nat → Nat} {U : State} (h : SR adK U) : vk_R RX10 236 "share" (adK 2) U := h.2.2.2.2.2.2.2.2.2.1
theorem SR_10 {adK : Nat → Nat} {U : State} (h : SR adK U) : vk_R RX10 238 "window" (adK 3) U := h.2.2.2.2.2.2.2.2.2.2.1
theorem SR_11 {adK : Nat → Nat} {U : State} (h : SR adK U) : vk_R RX10 239 "storm" (adK 4) U := h.2.2.2.2.2.2.2.2.2.2.2.1
theorem SR_12 {adK : Nat → Nat} {U : State} (h : SR adK U) : vk_R RX10 240 "index" (adK 5) U := h.2.2.2.2.2.2.2.2.2.2.2.2.1
theorem SR_13 {adK : Nat → Nat} {U : State} (h : SR adK U) : vk_R RX10 273 "of" (adK 6) U := h.2.2.2.2.2.2.2.2.2.2.2.2.2
def SE (adK adV : Nat → Nat) (A : Nat → Prop) (U : State) (H : Heap) : Prop := vk_S 7 sLen sByt adK adV A U H ∧ va_Z "java/lang/String" "COMPACT_STRINGS" "Z" (.int 1) A U H ∧ va_Zq "jdk/internal/util/Preconditions" "SIOOBE_FORMATTER" "Ljava/util/function/BiFunction;" A U H ∧ SR adK U
theorem SE.at {adK adV : Nat → Nat} {A B : Nat → Prop} {s U : State} {H0 H : Heap} {locs : List Loc} (h : SE adK adV A s H0) (hS : va_S A H0 H locs) (hAB : ∀ q, B q → A q) (hW : s.WarmedH U.vm) : SE adK adV B U H :=
  ⟨((h.1.kept hS.2.1).narrow hAB).moved hW.alike, ((h.2.1.kept hS.2.1).narrow hAB).moved hW.alike, ((h.2.2.1.kept hS.2.1).narrow hAB).moved hW.alike, SR_warm hW h.2.2.2⟩
def preS (D : va_G) (ct : Nat → ClassId) (sz : Nat) (ws : va_W) (adK adV : Nat → Nat) (U : State) : Prop := pre_ D ct sz ws U ∧ SE adK adV (va_A ws sz) U U.heap
theorem blindS {D : va_G} {ct : Nat → ClassId} {sz : Nat} {ws : va_W} {adK adV : Nat → Nat} {av : List Value} : FrameBlind (va_Pc av (preS D ct sz ws adK adV)) := fun a U g mk q => by
  obtain ⟨q0, ⟨q1, qP, qE, qD⟩, h⟩ := q
  exact ⟨q0, ⟨q1, qP, EN.same (s := U) (U := U.calling g mk a) qE rfl, qD⟩, h.1.moved (u := U) (U := U.calling g mk a) (Vm.Alike.refl U.vm), h.2.1.moved (u := U) (U := U.calling g mk a) (Vm.Alike.refl U.vm), h.2.2.1.moved (u := U) (U := U.calling g mk a) (Vm.Alike.refl U.vm), SR_same (s := U) (U := U.calling g mk a) rfl h.2.2.2⟩
theorem mkpreS {D : va_G} {ct : Nat → ClassId} {ws : va_W} {adK adV : Nat → Nat} {av : List Value} {s : State} {H : Heap} {A : Nat → Prop} {locs : List Loc} (hE : EN D ct s) (hSE : SE adK adV A s s.heap) (hS : va_S A s.heap H locs) (hF : ∀ q, va_A ws H.size q → A q) (hP : va_P D vwCl ws H) (hD : va_D A ws) : ∀ U : State, U.heap = H → s.WarmedH U.vm → va_Pc av (preS D ct H.size ws adK adV) av.toArray U :=
  fun U hU hW => ⟨rfl, ⟨by rw [hU], by rw [hU]; exact hP, hE.warm hW, hD.weaken (fun _ _ _ _ => trivial)⟩, by rw [hU]; exact hSE.at hS hF hW⟩
/-- the wide form of a String constant's load -/
theorem ldcSw_ {p : Program} {l : Launch} {e : Env} {R : Room} {s : State} {m : MethodId} {args : Array Value} {below : List Frame} {meth : Method} {c : Code} {T : State} {locs : List Loc} {cells slots : Nat} (X : Stand p l e R s m args below meth c T locs cells slots) (hexec : p.tables.exec = Jvm.exec) {own tx : String} {index q : Nat} (hown : s.vm.findClass own = some m.cls) (hZ : vk_R own index tx q s) {g : JFrame} (hg : g.method = m) (hdg : decode c.code g.pc = .ok (.ldc_w index, 3)) :
    ∀ target, Steps p.tables e below (T.setTop { g with pc := g.pc + 3, stack := .ref q :: g.stack }) target → Steps p.tables e below (T.setTop g) target := by
  intro target hrest
  subst hg
  obtain ⟨k0, cf, i, a0, hk, hcf, hcp, -, hr, hev⟩ := Cond.stringRef_spec hown hZ.1
  have hq : a0 = q := by
    have h9 := hZ.2.symm.trans hev
    simp at h9
    exact h9.symm
  subst hq
  obtain ⟨k1, hk1, he⟩ := X.warmed.alike.2.2 _ _ hk
  have hr1 : k1.resolved[index]? = some (some (.string a0)) := by
    rcases X.warmed.entry hk hk1 index with h | ⟨h, -⟩
    · rw [h]; exact hr
    · rw [hr] at h; cases h
  jvm_step X.here [hexec, hdg, ldc_w.wp_string (e := e) (s := T) (f := g) X.here.top hk1 (by rw [he]; exact hcf) hcp hr1]
  exact hrest
theorem va_ldcSw {p : Program} {l : Launch} {e : Env} {R : Room} {s : State} {m : MethodId} {args : Array Value} {below : List Frame} {meth : Method} {c : Code} {H : Heap} {locs : List Loc} {cells slots : Nat} {Q : State → Prop} {cc : ByteArray} {pc : Nat} {ls : Array Slot} {rest : List Value} (hexec : p.tables.exec = Jvm.exec) (hb : c.code = cc) {own tx : String} {index q : Nat} (hown : s.vm.findClass own = some m.cls) (hZ : vk_R own index tx q s) (hdg : decode cc pc = .ok (.ldc_w index, 3))
    (k : W p l e R s m args below meth c H locs cells slots Q (F0 m (pc + 3) ls (.ref q :: rest))) : W p l e R s m args below meth c H locs cells slots Q (F0 m pc ls rest) := by
  intro T hT X
  obtain ⟨t, a1, b1⟩ := k T hT X
  exact ⟨t, ldcSw_ X hexec hown hZ (g := F0 m pc ls rest) rfl (by rw [hb]; exact hdg) t a1, b1⟩
set_option maxHeartbeats 4000000 in
theorem met_J0_coder_7d493 (l : Launch) (D : va_G) (ct : Nat → ClassId) (adK adV : Nat → Nat) (sz : Nat) (i : Nat) (hi : i < 7) : Met l yJ0_coder_7d493 wsJ0_coder_7d493 ({ frames := 0, cells := 0, slots := 0, locals := 0 } : Room) (va_Pc [.ref (adK i)] (preS D ct sz [] adK adV)) (va_Qi (fun r (_ : Unit) => r = 0) (fun _ t => va_P D vwCl [] t.heap) (va_A [] sz)) 0 0 (va_A [] sz) := by
  refine va_MetF (cc := cJ0_coder_7d493) (maxL := 1) (ret := (some .byte)) (by decide +kernel) rfl ?_
  intro p e s m args below meth c s₁ B hml hv
  obtain ⟨rfl, ⟨hsz, hP, hE, hD0⟩, hSE⟩ := hv
  have hx := B.exec
  have hb := B.bytes
  have hr := B.returns
  have hts := atoms_spec (ws := wsJ0_coder_7d493) B.pre
  have hown : s.vm.findClass RJ0 = some m.cls := findClass_of_methodNamed B.named
  have hlocks := B.notSynchronized
  subst hsz
  have hD := hD0.self (sz := s.heap.size)
  generalize hAe : va_A [] s.heap.size = A at hD hSE ⊢
  have hA : ∀ q : Nat, s.heap.size ≤ q → A q := fun q h => by rw [← hAe]; exact Or.inr h
  have hl := lv_entry ([.ref (adK i)]) (n := 1) (Nat.le_of_ble_eq_true rfl)
  rw [lg_entry_eq]
  generalize (lg_sl ([.ref (adK i)]) ++ List.replicate (1 - (lg_sl ([.ref (adK i)])).length) Slot.unset).toArray = ls at hl ⊢
  have hl : lv_has ls 1 [(0, .ref (adK i))] := hl
  have hS : ∀ H : Heap, s.heap = H → va_S A s.heap H [] := fun H h => h ▸ va_S.rf
  generalize hH : s.heap = H at hP ⊢
  have hS := hS H hH
  refine va_gets hx hb hSE.2.1 hS hown (hts (.fieldLink RJ0 38 "java/lang/String" "COMPACT_STRINGS" "Z") (by decide +kernel)) (fun _ h9 => h9) dJ0_coder_7d493_0 ?_
  refine lv_if_eq (tgt := 13) hx hb dJ0_coder_7d493_3 (by decide) (fun c1 => ?_) (fun c1 => ?_)
  · exact absurd c1 (by decide)
  · refine lv_aload_n hx hb dJ0_coder_7d493_6 rfl (lv_at hl 0 rfl) ?_
    refine vk_getf hx hb ((hSE.1.1 i hi).2.1) hS hown (hts (.fieldLink RJ0 15 "java/lang/String" "coder" "B") (by decide +kernel)) (fun _ h9 => h9) dJ0_coder_7d493_7 ?_
    refine lv_goto (tgt := 14) hx hb dJ0_coder_7d493_10 (by decide) ?_
    exact W.zret hx hb hr rfl (fun t ht hW => ⟨⟨_, (), rfl, rfl, vaP_at ht hP⟩, hS.F ht⟩) hS.2.2 dJ0_coder_7d493_14
set_option maxHeartbeats 4000000 in
theorem met_J0_isLatin1_aae02 (l : Launch) (D : va_G) (ct : Nat → ClassId) (adK adV : Nat → Nat) (sz : Nat) (i : Nat) (hi : i < 7) : Met l yJ0_isLatin1_aae02 wsJ0_isLatin1_aae02 ({ frames := 0, cells := 0, slots := 0, locals := 0 } : Room) (va_Pc [.ref (adK i)] (preS D ct sz [] adK adV)) (va_Qi (fun r (_ : Unit) => r = 1) (fun _ t => va_P D vwCl [] t.heap) (va_A [] sz)) 0 0 (va_A [] sz) := by
  refine va_MetF (cc := cJ0_isLatin1_aae02) (maxL := 1) (ret := (some .boolean)) (by decide +kernel) rfl ?_
  intro p e s m args below meth c s₁ B hml hv
  obtain ⟨rfl, ⟨hsz, hP, hE, hD0⟩, hSE⟩ := hv
  have hx := B.exec
  have hb := B.bytes
  have hr := B.returns
  have hts := atoms_spec (ws := wsJ0_isLatin1_aae02) B.pre
  have hown : s.vm.findClass RJ0 = some m.cls := findClass_of_methodNamed B.named
  have hlocks := B.notSynchronized
  subst hsz
  have hD := hD0.self (sz := s.heap.size)
  generalize hAe : va_A [] s.heap.size = A at hD hSE ⊢
  have hA : ∀ q : Nat, s.heap.size ≤ q → A q := fun q h => by rw [← hAe]; exact Or.inr h
  have hl := lv_entry ([.ref (adK i)]) (n := 1) (Nat.le_of_ble_eq_true rfl)
  rw [lg_entry_eq]
  generalize (lg_sl ([.ref (adK i)]) ++ List.replicate (1 - (lg_sl ([.ref (adK i)])).length) Slot.unset).toArray = ls at hl ⊢
  have hl : lv_has ls 1 [(0, .ref (adK i))] := hl
  have hS : ∀ H : Heap, s.heap = H → va_S A s.heap H [] := fun H h => h ▸ va_S.rf
  generalize hH : s.heap = H at hP ⊢
  have hS := hS H hH
  refine va_gets hx hb hSE.2.1 hS hown (hts (.fieldLink RJ0 38 "java/lang/String" "COMPACT_STRINGS" "Z") (by decide +kernel)) (fun _ h9 => h9) dJ0_isLatin1_aae02_0 ?_
  refine lv_if_eq (tgt := 17) hx hb dJ0_isLatin1_aae02_3 (by decide) (fun c1 => ?_) (fun c1 => ?_)
  · exact absurd c1 (by decide)
  · refine lv_aload_n hx hb dJ0_isLatin1_aae02_6 rfl (lv_at hl 0 rfl) ?_
    refine vk_getf hx hb ((hSE.1.1 i hi).2.1) hS hown (hts (.fieldLink RJ0 15 "java/lang/String" "coder" "B") (by decide +kernel)) (fun _ h9 => h9) dJ0_isLatin1_aae02_7 ?_
    refine lv_if_ne (tgt := 17) hx hb dJ0_isLatin1_aae02_10 (by decide) (fun c2 => ?_) (fun c2 => ?_)
    · exact absurd rfl c2
    · refine lv_iconst (v := 1) hx hb dJ0_isLatin1_aae02_13 (by decide) ?_
      refine lv_goto (tgt := 18) hx hb dJ0_isLatin1_aae02_14 (by decide) ?_
      exact W.zret hx hb hr rfl (fun t ht hW => ⟨⟨_, (), rfl, rfl, vaP_at ht hP⟩, hS.F ht⟩) hS.2.2 dJ0_isLatin1_aae02_18
theorem sl_shr : ∀ i, i < 7 → (Int32.ofNat (sLen.getD i 0)) >>> ((0 : Int32) &&& 31) = nI (sLen.getD i 0) := by decide +kernel
set_option maxHeartbeats 4000000 in
theorem met_J0_length_8abf5 (l : Launch) (D : va_G) (ct : Nat → ClassId) (adK adV : Nat → Nat) (sz : Nat) (i : Nat) (hi : i < 7) : Met l yJ0_length_8abf5 wsJ0_length_8abf5 ({ frames := 1, cells := 0, slots := 0, locals := 20 } : Room) (va_Pc [.ref (adK i)] (preS D ct sz [] adK adV)) (va_Qi (fun r (_ : Unit) => r = nI (sLen.getD i 0)) (fun _ t => va_P D vwCl [] t.heap) (va_A [] sz)) 0 0 (va_A [] sz) := by
  refine va_MetF (cc := cJ0_length_8abf5) (maxL := 1) (ret := (some .int)) (by decide +kernel) rfl ?_
  intro p e s m args below meth c s₁ B hml hv
  obtain ⟨rfl, ⟨hsz, hP, hE, hD0⟩, hSE⟩ := hv
  have hx := B.exec
  have hb := B.bytes
  have hr := B.returns
  have hts := atoms_spec (ws := wsJ0_length_8abf5) B.pre
  have hown : s.vm.findClass RJ0 = some m.cls := findClass_of_methodNamed B.named
  have hlocks := B.notSynchronized
  subst hsz
  have hD := hD0.self (sz := s.heap.size)
  generalize hAe : va_A [] s.heap.size = A at hD hSE ⊢
  have hA : ∀ q : Nat, s.heap.size ≤ q → A q := fun q h => by rw [← hAe]; exact Or.inr h
  have hl := lv_entry ([.ref (adK i)]) (n := 1) (Nat.le_of_ble_eq_true rfl)
  rw [lg_entry_eq]
  generalize (lg_sl ([.ref (adK i)]) ++ List.replicate (1 - (lg_sl ([.ref (adK i)])).length) Slot.unset).toArray = ls at hl ⊢
  have hl : lv_has ls 1 [(0, .ref (adK i))] := hl
  have hS : ∀ H : Heap, s.heap = H → va_S A s.heap H [] := fun H h => h ▸ va_S.rf
  generalize hH : s.heap = H at hP ⊢
  have hS := hS H hH
  refine lv_aload_n hx hb dJ0_length_8abf5_0 rfl (lv_at hl 0 rfl) ?_
  refine vk_getf hx hb ((hSE.1.1 i hi).2.2.1) hS hown (hts (.fieldLink RJ0 9 "java/lang/String" "value" "[B") (by decide +kernel)) (fun _ h9 => h9) dJ0_length_8abf5_1 ?_
  refine va_tlen (v := Int32.ofNat (sLen.getD i 0)) hx hb ((hSE.1.1 i hi).2.2.2) hS rfl dJ0_length_8abf5_4 ?_
  refine lv_aload_n hx hb dJ0_length_8abf5_5 rfl (lv_at hl 0 rfl) ?_
  refine xiR (wc := []) (r1 := 0) (va_runV (As := []) (rest := [.int (Int32.ofNat (sLen.getD i 0))]) ⟨hx, hb, hml, hown, hts⟩ (met_J0_coder_7d493 l D ct adK adV H.size i hi) (cwV 0 hts gJ0_length_8abf5_J0_coder_7d493 rfl rfl rfl (by decide +kernel) ⟨Nat.le_of_ble_eq_true rfl, Nat.le_of_ble_eq_true rfl⟩) ⟨blindS, vk_recv hSE.1 hi hS, mkpreS hE hSE hS (va_free hD hS hA [] rfl) (hP.sub [] rfl) (hD.sub [] (by decide) rfl)⟩ rfl rfl hl.1 rfl (lv_room (Nat.le_of_ble_eq_true rfl)) dJ0_length_8abf5_6 ⟨Nat.le_of_ble_eq_true rfl, Nat.le_of_ble_eq_true rfl⟩) hP hD hS hA [] rfl (fun H locs hP hD hS => ?_)
  have hP : va_P D vwCl [] H := hP
  have hD : va_D A [] := hD
  refine lv_ishr hx hb dJ0_length_8abf5_9 ?_
  rw [sl_shr i hi]
  exact W.iret hx hb hr (fun t ht hW => ⟨⟨_, (), rfl, rfl, vaP_at ht hP⟩, hS.F ht⟩) hS.2.2 dJ0_length_8abf5_10
set_option maxHeartbeats 4000000 in
theorem met_J3_checkIndex_8e157_n (l : Launch) (D : va_G) (ct : Nat → ClassId) (adK adV : Nat → Nat) (sz : Nat) (k : Int32) (N : Int32) (h1 : ¬ k < 0) (h2 : k < N) : Met l yJ3_checkIndex_8e157 wsJ3_checkIndex_8e157 ({ frames := 0, cells := 0, slots := 0, locals := 0 } : Room) (va_Pc [.int k, .int N, .null] (preS D ct sz [] adK adV)) (va_Qi (fun r (_ : Unit) => r = k) (fun _ t => va_P D vwCl [] t.heap) (va_A [] sz)) 0 0 (va_A [] sz) := by
  refine va_MetF (cc := cJ3_checkIndex_8e157) (maxL := 3) (ret := (some .int)) (by decide +kernel) rfl ?_
  intro p e s m args below meth c s₁ B hml hv
  obtain ⟨rfl, ⟨hsz, hP, hE, hD0⟩, hSE⟩ := hv
  have hx := B.exec
  have hb := B.bytes
  have hr := B.returns
  have hts := atoms_spec (ws := wsJ3_checkIndex_8e157) B.pre
  have hown : s.vm.findClass RJ3 = some m.cls := findClass_of_methodNamed B.named
  have hlocks := B.notSynchronized
  subst hsz
  have hD := hD0.self (sz := s.heap.size)
  generalize hAe : va_A [] s.heap.size = A at hD hSE ⊢
  have hA : ∀ q : Nat, s.heap.size ≤ q → A q := fun q h => by rw [← hAe]; exact Or.inr h
  have hl := lv_entry ([.int k, .int N, .null]) (n := 3) (Nat.le_of_ble_eq_true rfl)
  rw [lg_entry_eq]
  generalize (lg_sl ([.int k, .int N, .null]) ++ List.replicate (3 - (lg_sl ([.int k, .int N, .null])).length) Slot.unset).toArray = ls at hl ⊢
  have hl : lv_has ls 3 [(0, .int k), (1, .int N), (2, .null)] := hl
  have hS : ∀ H : Heap, s.heap = H → va_S A s.heap H [] := fun H h => h ▸ va_S.rf
  generalize hH : s.heap = H at hP ⊢
  have hS := hS H hH
  refine lv_iload_n hx hb dJ3_checkIndex_8e157_0 rfl (lv_at hl 0 rfl) ?_
  refine lv_if_lt (tgt := 9) hx hb dJ3_checkIndex_8e157_1 (by decide) (fun c1 => ?_) (fun c1 => ?_)
  · exact absurd c1 h1
  · refine lv_iload_n hx hb dJ3_checkIndex_8e157_4 rfl (lv_at hl 0 rfl) ?_
    refine lv_iload_n hx hb dJ3_checkIndex_8e157_5 rfl (lv_at hl 1 rfl) ?_
    refine lv_icmp_lt (tgt := 16) hx hb dJ3_checkIndex_8e157_6 (by decide) (fun c2 => ?_) (fun c2 => ?_)
    · refine lv_iload_n hx hb dJ3_checkIndex_8e157_16 rfl (lv_at hl 0 rfl) ?_
      exact W.iret hx hb hr (fun t ht hW => ⟨⟨_, (), rfl, rfl, vaP_at ht hP⟩, hS.F ht⟩) hS.2.2 dJ3_checkIndex_8e157_17
    · exact absurd h2 c2
set_option maxHeartbeats 4000000 in
theorem met_J3_checkIndex_8e157_r (l : Launch) (D : va_G) (ct : Nat → ClassId) (adK adV : Nat → Nat) (sz : Nat) (tq : Nat) (k : Int32) (N : Int32) (h1 : ¬ k < 0) (h2 : k < N) : Met l yJ3_checkIndex_8e157 wsJ3_checkIndex_8e157 ({ frames := 0, cells := 0, slots := 0, locals := 0 } : Room) (va_Pc [.int k, .int N, .ref tq] (preS D ct sz [] adK adV)) (va_Qi (fun r (_ : Unit) => r = k) (fun _ t => va_P D vwCl [] t.heap) (va_A [] sz)) 0 0 (va_A [] sz) := by
  refine va_MetF (cc := cJ3_checkIndex_8e157) (maxL := 3) (ret := (some .int)) (by decide +kernel) rfl ?_
  intro p e s m args below meth c s₁ B hml hv
  obtain ⟨rfl, ⟨hsz, hP, hE, hD0⟩, hSE⟩ := hv
  have hx := B.exec
  have hb := B.bytes
  have hr := B.returns
  have hts := atoms_spec (ws := wsJ3_checkIndex_8e157) B.pre
  have hown : s.vm.findClass RJ3 = some m.cls := findClass_of_methodNamed B.named
  have hlocks := B.notSynchronized
  subst hsz
  have hD := hD0.self (sz := s.heap.size)
  generalize hAe : va_A [] s.heap.size = A at hD hSE ⊢
  have hA : ∀ q : Nat, s.heap.size ≤ q → A q := fun q h => by rw [← hAe]; exact Or.inr h
  have hl := lv_entry ([.int k, .int N, .ref tq]) (n := 3) (Nat.le_of_ble_eq_true rfl)
  rw [lg_entry_eq]
  generalize (lg_sl ([.int k, .int N, .ref tq]) ++ List.replicate (3 - (lg_sl ([.int k, .int N, .ref tq])).length) Slot.unset).toArray = ls at hl ⊢
  have hl : lv_has ls 3 [(0, .int k), (1, .int N), (2, .ref tq)] := hl
  have hS : ∀ H : Heap, s.heap = H → va_S A s.heap H [] := fun H h => h ▸ va_S.rf
  generalize hH : s.heap = H at hP ⊢
  have hS := hS H hH
  refine lv_iload_n hx hb dJ3_checkIndex_8e157_0 rfl (lv_at hl 0 rfl) ?_
  refine lv_if_lt (tgt := 9) hx hb dJ3_checkIndex_8e157_1 (by decide) (fun c1 => ?_) (fun c1 => ?_)
  · exact absurd c1 h1
  · refine lv_iload_n hx hb dJ3_checkIndex_8e157_4 rfl (lv_at hl 0 rfl) ?_
    refine lv_iload_n hx hb dJ3_checkIndex_8e157_5 rfl (lv_at hl 1 rfl) ?_
    refine lv_icmp_lt (tgt := 16) hx hb dJ3_checkIndex_8e157_6 (by decide) (fun c2 => ?_) (fun c2 => ?_)
    · refine lv_iload_n hx hb dJ3_checkIndex_8e157_16 rfl (lv_at hl 0 rfl) ?_
      exact W.iret hx hb hr (fun t ht hW => ⟨⟨_, (), rfl, rfl, vaP_at ht hP⟩, hS.F ht⟩) hS.2.2 dJ3_checkIndex_8e157_17
    · exact absurd h2 c2
set_option maxHeartbeats 4000000 in
theorem met_J0_checkIndex_df160 (l : Launch) (D : va_G) (ct : Nat → ClassId) (adK adV : Nat → Nat) (sz : Nat) (k : Int32) (N : Int32) (h1 : ¬ k < 0) (h2 : k < N) : Met l yJ0_checkIndex_df160 wsJ0_checkIndex_df160 ({ frames := 1, cells := 0, slots := 0, locals := 22 } : Room) (va_Pc [.int k, .int N] (preS D ct sz [] adK adV)) (va_Qv (fun (_ : Unit) => True) (fun _ t => va_P D vwCl [] t.heap) (va_A [] sz)) 0 0 (va_A [] sz) := by
  refine va_MetF (cc := cJ0_checkIndex_df160) (maxL := 2) (ret := none) (by decide +kernel) rfl ?_
  intro p e s m args below meth c s₁ B hml hv
  obtain ⟨rfl, ⟨hsz, hP, hE, hD0⟩, hSE⟩ := hv
  have hx := B.exec
  have hb := B.bytes
  have hr := B.returns
  have hts := atoms_spec (ws := wsJ0_checkIndex_df160) B.pre
  have hown : s.vm.findClass RJ0 = some m.cls := findClass_of_methodNamed B.named
  have hlocks := B.notSynchronized
  subst hsz
  have hD := hD0.self (sz := s.heap.size)
  generalize hAe : va_A [] s.heap.size = A at hD hSE ⊢
  have hA : ∀ q : Nat, s.heap.size ≤ q → A q := fun q h => by rw [← hAe]; exact Or.inr h
  have hl := lv_entry ([.int k, .int N]) (n := 2) (Nat.le_of_ble_eq_true rfl)
  rw [lg_entry_eq]
  generalize (lg_sl ([.int k, .int N]) ++ List.replicate (2 - (lg_sl ([.int k, .int N])).length) Slot.unset).toArray = ls at hl ⊢
  have hl : lv_has ls 2 [(0, .int k), (1, .int N)] := hl
  have hS : ∀ H : Heap, s.heap = H → va_S A s.heap H [] := fun H h => h ▸ va_S.rf
  generalize hH : s.heap = H at hP ⊢
  have hS := hS H hH
  refine lv_iload_n hx hb dJ0_checkIndex_df160_0 rfl (lv_at hl 0 rfl) ?_
  refine lv_iload_n hx hb dJ0_checkIndex_df160_1 rfl (lv_at hl 1 rfl) ?_
  obtain hz | ⟨tq, hz⟩ := hSE.2.2.1
  · refine va_gets hx hb hz hS hown (hts (.fieldLink RJ0 1053 "jdk/internal/util/Preconditions" "SIOOBE_FORMATTER" "Ljava/util/function/BiFunction;") (by decide +kernel)) (fun _ h9 => h9) dJ0_checkIndex_df160_2 ?_
    refine xiR (wc := []) (r1 := k) (va_runS (As := [.int k, .int N, .null]) (rest := []) ⟨hx, hb, hml, hown, hts⟩ (met_J3_checkIndex_8e157_n l D ct adK adV H.size k N h1 h2) (va_cwS 3 hts gJ0_checkIndex_df160_J3_checkIndex_8e157 rfl rfl rfl (by decide +kernel) ⟨Nat.le_of_ble_eq_true rfl, Nat.le_of_ble_eq_true rfl⟩) ⟨blindS, mkpreS hE hSE hS (va_free hD hS hA [] rfl) (hP.sub [] rfl) (hD.sub [] (by decide) rfl)⟩ rfl rfl hl.1 rfl (lv_room (Nat.le_of_ble_eq_true rfl)) dJ0_checkIndex_df160_5 ⟨Nat.le_of_ble_eq_true rfl, Nat.le_of_ble_eq_true rfl⟩) hP hD hS hA [] rfl (fun H locs hP hD hS => ?_)
    have hP : va_P D vwCl [] H := hP
    have hD : va_D A [] := hD
    refine lv_pop hx hb dJ0_checkIndex_df160_8 rfl ?_
    exact W.vret hx hb hr (fun t ht hW => ⟨⟨(), rfl, trivial, vaP_at ht hP⟩, hS.F ht⟩) hS.2.2 dJ0_checkIndex_df160_9
  · refine va_gets hx hb hz hS hown (hts (.fieldLink RJ0 1053 "jdk/internal/util/Preconditions" "SIOOBE_FORMATTER" "Ljava/util/function/BiFunction;") (by decide +kernel)) (fun _ h9 => h9) dJ0_checkIndex_df160_2 ?_
    refine xiR (wc := []) (r1 := k) (va_runS (As := [.int k, .int N, .ref tq]) (rest := []) ⟨hx, hb, hml, hown, hts⟩ (met_J3_checkIndex_8e157_r l D ct adK adV H.size tq k N h1 h2) (va_cwS 3 hts gJ0_checkIndex_df160_J3_checkIndex_8e157 rfl rfl rfl (by decide +kernel) ⟨Nat.le_of_ble_eq_true rfl, Nat.le_of_ble_eq_true rfl⟩) ⟨blindS, mkpreS hE hSE hS (va_free hD hS hA [] rfl) (hP.sub [] rfl) (hD.sub [] (by decide) rfl)⟩ rfl rfl hl.1 rfl (lv_room (Nat.le_of_ble_eq_true rfl)) dJ0_checkIndex_df160_5 ⟨Nat.le_of_ble_eq_true rfl, Nat.le_of_ble_eq_true rfl⟩) hP hD hS hA [] rfl (fun H locs hP hD hS => ?_)
    have hP : va_P D vwCl [] H := hP
    have hD : va_D A [] := hD
    refine lv_pop hx hb dJ0_checkIndex_df160_8 rfl ?_
    exact W.vret hx hb hr (fun t ht hW => ⟨⟨(), rfl, trivial, vaP_at ht hP⟩, hS.F ht⟩) hS.2.2 dJ0_checkIndex_df160_9
theorem sl_ci : ∀ i, i < 7 → ∀ k : Int32, vp_in k (sLen.getD i 0) → ¬ k < 0 ∧ k < Int32.ofNat (sLen.getD i 0) := by
  intro i hi k hk
  have hb : sLen.getD i 0 < 2 ^ 31 := by
    have : ∀ i, i < 7 → sLen.getD i 0 < 2 ^ 31 := by decide +kernel
    exact this i hi
  obtain ⟨j, hj, rfl⟩ := vp_in_of hk hb
  exact ⟨nI_pos (by omega), nI_lt hj hb⟩
set_option maxHeartbeats 4000000 in
theorem met_J1_charAt_3b067 (l : Launch) (D : va_G) (ct : Nat → ClassId) (adK adV : Nat → Nat) (sz : Nat) (i : Nat) (hi : i < 7) (k : Int32) (hk : vp_in k (sLen.getD i 0)) : Met l yJ1_charAt_3b067 wsJ1_charAt_3b067 ({ frames := 2, cells := 0, slots := 0, locals := 43 } : Room) (va_Pc [.ref (adV i), .int k] (preS D ct sz [] adK adV)) (va_Qi (fun r (_ : Unit) => r = sch i k.toNatClampNeg) (fun _ t => va_P D vwCl [] t.heap) (va_A [] sz)) 0 0 (va_A [] sz) := by
  refine va_MetF (cc := cJ1_charAt_3b067) (maxL := 2) (ret := (some .char)) (by decide +kernel) rfl ?_
  intro p e s m args below meth c s₁ B hml hv
  obtain ⟨rfl, ⟨hsz, hP, hE, hD0⟩, hSE⟩ := hv
  have hx := B.exec
  have hb := B.bytes
  have hr := B.returns
  have hts := atoms_spec (ws := wsJ1_charAt_3b067) B.pre
  have hown : s.vm.findClass RJ1 = some m.cls := findClass_of_methodNamed B.named
  have hlocks := B.notSynchronized
  subst hsz
  have hD := hD0.self (sz := s.heap.size)
  generalize hAe : va_A [] s.heap.size = A at hD hSE ⊢
  have hA : ∀ q : Nat, s.heap.size ≤ q → A q := fun q h => by rw [← hAe]; exact Or.inr h
  have hl := lv_entry ([.ref (adV i), .int k]) (n := 2) (Nat.le_of_ble_eq_true rfl)
  rw [lg_entry_eq]
  generalize (lg_sl ([.ref (adV i), .int k]) ++ List.replicate (2 - (lg_sl ([.ref (adV i), .int k])).length) Slot.unset).toArray = ls at hl ⊢
  have hl : lv_has ls 2 [(0, .ref (adV i)), (1, .int k)] := hl
  have hS : ∀ H : Heap, s.heap = H → va_S A s.heap H [] := fun H h => h ▸ va_S.rf
  generalize hH : s.heap = H at hP ⊢
  have hS := hS H hH
  refine lv_iload_n hx hb dJ1_charAt_3b067_0 rfl (lv_at hl 1 rfl) ?_
  refine lv_aload_n hx hb dJ1_charAt_3b067_1 rfl (lv_at hl 0 rfl) ?_
  refine va_tlen (v := Int32.ofNat (sLen.getD i 0)) hx hb ((hSE.1.1 i hi).2.2.2) hS rfl dJ1_charAt_3b067_2 ?_
  refine xvR (wc := []) (va_runS (As := [.int k, .int (Int32.ofNat (sLen.getD i 0))]) (rest := []) ⟨hx, hb, hml, hown, hts⟩ (met_J0_checkIndex_df160 l D ct adK adV H.size k (Int32.ofNat (sLen.getD i 0)) (sl_ci i hi k hk).1 (sl_ci i hi k hk).2) (va_cwS 2 hts gJ1_charAt_3b067_J0_checkIndex_df160 rfl rfl rfl (by decide +kernel) ⟨Nat.le_of_ble_eq_true rfl, Nat.le_of_ble_eq_true rfl⟩) ⟨blindS, mkpreS hE hSE hS (va_free hD hS hA [] rfl) (hP.sub [] rfl) (hD.sub [] (by decide) rfl)⟩ rfl rfl hl.1 rfl (lv_room (Nat.le_of_ble_eq_true rfl)) dJ1_charAt_3b067_3 ⟨Nat.le_of_ble_eq_true rfl, Nat.le_of_ble_eq_true rfl⟩) hP hD hS hA [] rfl (fun H locs hP hD hS => ?_)
  have hP : va_P D vwCl [] H := hP
  have hD : va_D A [] := hD
  refine lv_aload_n hx hb dJ1_charAt_3b067_6 rfl (lv_at hl 0 rfl) ?_
  refine lv_iload_n hx hb dJ1_charAt_3b067_7 rfl (lv_at hl 1 rfl) ?_
  refine va_tb hx hb ((hSE.1.1 i hi).2.2.2) hS hk rfl dJ1_charAt_3b067_8 ?_
  refine lv_sipush (v := 255) hx hb dJ1_charAt_3b067_9 (by decide) ?_
  refine lv_iand hx hb dJ1_charAt_3b067_12 ?_
  refine lv_i2c hx hb dJ1_charAt_3b067_13 rfl ?_
  exact W.zret hx hb hr (sch_n i hi _ (Nat.not_le.mp fun q => hk (Or.inr q))) (fun t ht hW => ⟨⟨_, (), rfl, rfl, vaP_at ht hP⟩, hS.F ht⟩) hS.2.2 dJ1_charAt_3b067_14
set_option maxHeartbeats 4000000 in
theorem met_J0_charAt_5068e (l : Launch) (D : va_G) (ct : Nat → ClassId) (adK adV : Nat → Nat) (sz : Nat) (i : Nat) (hi : i < 7) (k : Int32) (hk : vp_in k (sLen.getD i 0)) : Met l yJ0_charAt_5068e wsJ0_charAt_5068e ({ frames := 3, cells := 0, slots := 0, locals := 64 } : Room) (va_Pc [.ref (adK i), .int k] (preS D ct sz [] adK adV)) (va_Qi (fun r (_ : Unit) => r = sch i k.toNatClampNeg) (fun _ t => va_P D vwCl [] t.heap) (va_A [] sz)) 0 0 (va_A [] sz) := by
  refine va_MetF (cc := cJ0_charAt_5068e) (maxL := 2) (ret := (some .char)) (by decide +kernel) rfl ?_
  intro p e s m args below meth c s₁ B hml hv
  obtain ⟨rfl, ⟨hsz, hP, hE, hD0⟩, hSE⟩ := hv
  have hx := B.exec
  have hb := B.bytes
  have hr := B.returns
  have hts := atoms_spec (ws := wsJ0_charAt_5068e) B.pre
  have hown : s.vm.findClass RJ0 = some m.cls := findClass_of_methodNamed B.named
  have hlocks := B.notSynchronized
  subst hsz
  have hD := hD0.self (sz := s.heap.size)
  generalize hAe : va_A [] s.heap.size = A at hD hSE ⊢
  have hA : ∀ q : Nat, s.heap.size ≤ q → A q := fun q h => by rw [← hAe]; exact Or.inr h
  have hl := lv_entry ([.ref (adK i), .int k]) (n := 2) (Nat.le_of_ble_eq_true rfl)
  rw [lg_entry_eq]
  generalize (lg_sl ([.ref (adK i), .int k]) ++ List.replicate (2 - (lg_sl ([.ref (adK i), .int k])).length) Slot.unset).toArray = ls at hl ⊢
  have hl : lv_has ls 2 [(0, .ref (adK i)), (1, .int k)] := hl
  have hS : ∀ H : Heap, s.heap = H → va_S A s.heap H [] := fun H h => h ▸ va_S.rf
  generalize hH : s.heap = H at hP ⊢
  have hS := hS H hH
  refine lv_aload_n hx hb dJ0_charAt_5068e_0 rfl (lv_at hl 0 rfl) ?_
  refine xiR (wc := []) (r1 := 1) (va_runV (As := []) (rest := []) ⟨hx, hb, hml, hown, hts⟩ (met_J0_isLatin1_aae02 l D ct adK adV H.size i hi) (cwV 0 hts gJ0_charAt_5068e_J0_isLatin1_aae02 rfl rfl rfl (by decide +kernel) ⟨Nat.le_of_ble_eq_true rfl, Nat.le_of_ble_eq_true rfl⟩) ⟨blindS, vk_recv hSE.1 hi hS, mkpreS hE hSE hS (va_free hD hS hA [] rfl) (hP.sub [] rfl) (hD.sub [] (by decide) rfl)⟩ rfl rfl hl.1 rfl (lv_room (Nat.le_of_ble_eq_true rfl)) dJ0_charAt_5068e_1 ⟨Nat.le_of_ble_eq_true rfl, Nat.le_of_ble_eq_true rfl⟩) hP hD hS hA [] rfl (fun H locs hP hD hS => ?_)
  have hP : va_P D vwCl [] H := hP
  have hD : va_D A [] := hD
  refine lv_if_eq (tgt := 16) hx hb dJ0_charAt_5068e_4 (by decide) (fun c1 => ?_) (fun c1 => ?_)
  · exact absurd c1 (by decide)
  · refine lv_aload_n hx hb dJ0_charAt_5068e_7 rfl (lv_at hl 0 rfl) ?_
    refine vk_getf hx hb ((hSE.1.1 i hi).2.2.1) hS hown (hts (.fieldLink RJ0 9 "java/lang/String" "value" "[B") (by decide +kernel)) (fun _ h9 => h9) dJ0_charAt_5068e_8 ?_
    refine lv_iload_n hx hb dJ0_charAt_5068e_11 rfl (lv_at hl 1 rfl) ?_
    refine xiR (wc := []) (r1 := sch i k.toNatClampNeg) (va_runS (As := [.ref (adV i), .int k]) (rest := []) ⟨hx, hb, hml, hown, hts⟩ (met_J1_charAt_3b067 l D ct adK adV H.size i hi k hk) (va_cwS 2 hts gJ0_charAt_5068e_J1_charAt_3b067 rfl rfl rfl (by decide +kernel) ⟨Nat.le_of_ble_eq_true rfl, Nat.le_of_ble_eq_true rfl⟩) ⟨blindS, mkpreS hE hSE hS (va_free hD hS hA [] rfl) (hP.sub [] rfl) (hD.sub [] (by decide) rfl)⟩ rfl rfl hl.1 rfl (lv_room (Nat.le_of_ble_eq_true rfl)) dJ0_charAt_5068e_12 ⟨Nat.le_of_ble_eq_true rfl, Nat.le_of_ble_eq_true rfl⟩) hP hD hS hA [] rfl (fun H locs hP hD hS => ?_)
    have hP : va_P D vwCl [] H := hP
    have hD : va_D A [] := hD
    exact W.zret hx hb hr (sch_n i hi _ (Nat.not_le.mp fun q => hk (Or.inr q))) (fun t ht hW => ⟨⟨_, (), rfl, rfl, vaP_at ht hP⟩, hS.F ht⟩) hS.2.2 dJ0_charAt_5068e_15
