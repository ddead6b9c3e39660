/-! THE CLAIM OUT OF ONE WALK OF THE LAW'S BODY. Your part is whole_start (and what it stands on); all else here is the same for every law, but numbers. -/
def R_law : String := "NeedleHouseLaw"
def lw_P (b : Addr) (xs : List Int32) (args : Array Value) (s : State) : Prop := args = #[.ref b] ∧ s.IntsAt b xs ∧ xs.length ≤ 3584 ∧ (Jvm.Cond.and given_1 narrow_1).before args s = true
def lw_Q (_ : Array Value) (s : State) (o : Outcome) (t : State) : Prop := o = .returned (some (.int 1)) ∧ Framed s o t [] 601024 7293034
def lw_Z (below : List Frame) (a : Array Value) (s : State) : State → Prop := fun t => ∃ o, t.status = .running ∧ Ended t below o ∧ lw_Q a s o t
/-- the law's own end, with 1 on the stack, nothing written that was there before, its room as the claim has it -/
theorem lw_ret {p : Program} {l : Launch} {e : Env} {s : State} {m : MethodId} {below : List Frame} {meth : Method} {c : Code} {b : Nat} (hx : p.tables.exec = Jvm.exec) (hb : c.code = code) (hr : meth.sig.returnType = ret) (hlocks : meth.locks = false) {pc : Nat} {H : Heap} {ls : Array Slot} (hdg : decode code pc = .ok (.ireturn, 1)) : W p l e room_1 s m #[Value.ref b] below meth c H [] 601024 7293034 (lw_Z below #[Value.ref b] s) (F0 m pc ls [.int 1]) := by
  intro T hT X
  obtain ⟨fs, hret, hrun, hended, hW, hframe⟩ := X.leave (v := some (.int 1)) (hlocks := hlocks) (fun h => by rw [hr] at h; cases h)
  have hmeth' : T.vm.method? m = some meth := X.method'
  refine ⟨T.setFrames fs, ?_, .returned (some (.int 1)), hrun, hended, rfl, ⟨_, rfl⟩, hW, hframe⟩
  jvm_step X.here [X.here.top, hx, hb, hdg, hmeth', hr, ret, narrow_b1]
  (try refine ⟨rfl, ?_⟩); (try refine ⟨rfl, ?_⟩)
  first | (intro acts; rw [hret _ acts rfl rfl rfl]) | rw [hret _ _ rfl rfl rfl]
  exact Steps.refl _
/-- what holds at the law's entry: the machine, the code, the tables' words (any of lw_tbl by 'hts w (by decide +kernel)'), the script of L ints xs at the cell b, what the Statement gives of the start (any of its parts by flat_of_before) -/
def lw_At (p : Program) (s : State) (m : MethodId) (meth : Method) (c : Code) (b L : Nat) (xs : Nat → Int32) : Prop :=
  p.tables.exec = Jvm.exec ∧ c.code = code ∧ meth.sig.returnType = ret ∧ c.maxLocals = 7 ∧ s.vm.findClass R_law = some m.cls ∧ (∀ w ∈ lw_tbl, w.before #[Value.ref b] s = true) ∧ va_X b L xs s s.heap ∧ b < s.heap.size ∧ meth.locks = false ∧ (Jvm.Cond.and given_1 narrow_1).before #[Value.ref b] s = true
/-! the law's own walk: what its pieces share -/
abbrev AA (s : State) : Nat → Prop := fun q => s.heap.size ≤ q
def LC (p : Program) (s : State) (m : MethodId) (meth : Method) (c : Code) (b L : Nat) (xs : Nat → Int32) (D : va_G) (ct : Nat → ClassId) (adK adV : Nat → Nat) : Prop :=
  lw_At p s m meth c b L xs ∧ EN D ct s ∧ SE adK adV (AA s) s s.heap ∧ XE (AA s) s s.heap ∧ va_Nc exA exI s
section LAW
variable {p : Program} {l : Launch} {e : Env} {s : State} {m : MethodId} {below : List Frame} {meth : Method} {c : Code} {b L : Nat} {xs : Nat → Int32} {D : va_G} {ct : Nat → ClassId} {adK adV : Nat → Nat} {H : Heap} {locs : List Loc} {cells slots : Nat} {ls : Array Slot} {st : List Value} {j : Nat} {Q : State → Prop}
theorem vin {k : Nat} (hj : j + 7 ≤ L) (hL : L ≤ 3584) (hk : k ≤ 6) : vp_in (nI j + nI k) L := by rw [nI_add]; exact vp_in_nI (by omega) (by omega)
/-- the script's int k behind the place j -/
theorem ldA (C : LC p s m meth c b L xs D ct adK adV) (hj : j + 7 ≤ L) (hL : L ≤ 3584) {k : Nat} {ki : Int} {v : Int32} (hk : k ≤ 6) (hv : v = nI k) (hki : Int32.ofInt ki = v) {pc : Nat} (d0 : decode code pc = .ok (.aload_n 0, 1)) (d1 : decode code (pc + 1) = .ok (.iload 4, 2)) (d2 : decode code (pc + 3) = .ok (.iconst ki, 1)) (d3 : decode code (pc + 4) = .ok (.iadd, 1)) (d4 : decode code (pc + 5) = .ok (.iaload, 1)) (hS : va_S (AA s) s.heap H locs) (h0 : ls[0]? = some (.val (.ref b))) (h4 : ls[4]? = some (.val (.int (nI j))))
    (kk : W p l e room_1 s m #[Value.ref b] below meth c H locs cells slots Q (F0 m (pc + 6) ls (.int (xs (nI j + v).toNatClampNeg) :: st))) : W p l e room_1 s m #[Value.ref b] below meth c H locs cells slots Q (F0 m pc ls st) := by
  obtain ⟨⟨hx, hb, hr, hml, hown, hts, hX, hbl, hlocks, hgv⟩, hE, hSE, hXE, hno⟩ := C
  refine lv_aload_n hx hb d0 rfl h0 ?_
  refine lv_iload hx hb d1 h4 ?_
  refine lv_iconst (v := v) hx hb d2 hki ?_
  refine lv_iadd hx hb d3 ?_
  exact va_sld (A := AA s) hx hb hX hbl (Nat.not_le.mpr hbl) hS (by rw [hv]; exact vin hj hL hk) d4 kk
theorem ldB (C : LC p s m meth c b L xs D ct adK adV) (hj : j + 7 ≤ L) (hL : L ≤ 3584) {k : Nat} {ki : Int} {v : Int32} (hk : k ≤ 6) (hv : v = nI k) (hki : (Int8.ofInt ki).toInt32 = v) {pc : Nat} (d0 : decode code pc = .ok (.aload_n 0, 1)) (d1 : decode code (pc + 1) = .ok (.iload 4, 2)) (d2 : decode code (pc + 3) = .ok (.bipush ki, 2)) (d3 : decode code (pc + 5) = .ok (.iadd, 1)) (d4 : decode code (pc + 6) = .ok (.iaload, 1)) (hS : va_S (AA s) s.heap H locs) (h0 : ls[0]? = some (.val (.ref b))) (h4 : ls[4]? = some (.val (.int (nI j))))
    (kk : W p l e room_1 s m #[Value.ref b] below meth c H locs cells slots Q (F0 m (pc + 7) ls (.int (xs (nI j + v).toNatClampNeg) :: st))) : W p l e room_1 s m #[Value.ref b] below meth c H locs cells slots Q (F0 m pc ls st) := by
  obtain ⟨⟨hx, hb, hr, hml, hown, hts, hX, hbl, hlocks, hgv⟩, hE, hSE, hXE, hno⟩ := C
  refine lv_aload_n hx hb d0 rfl h0 ?_
  refine lv_iload hx hb d1 h4 ?_
  refine lv_bipush (v := v) hx hb d2 hki ?_
  refine lv_iadd hx hb d3 ?_
  exact va_sld (A := AA s) hx hb hX hbl (Nat.not_le.mpr hbl) hS (by rw [hv]; exact vin hj hL hk) d4 kk
theorem lgc_self (x : Int64) : lg_cmp x x = 0 := by
  unfold lg_cmp
  rw [if_neg (fun h => Int64.lt_irrefl h), if_pos rfl]
/-- the end of a case: what was thrown, and the answer -/
theorem tlT {qx qm qo : Nat} {fs : List Value} {k th rb : Int32} {ov : Nat → Int64} {wx wm : va_W} (C : LC p s m meth c b L xs D ct adK adV) {pc : Nat} {off : Int} (d0 : decode code pc = .ok (.aload_n 2, 1)) (d1 : decode code (pc + 1) = .ok (.invokevirtual 85, 3)) (d4 : decode code (pc + 4) = .ok (.iload 5, 2)) (d6 : decode code (pc + 6) = .ok (.if_icmp .eq 5, 3)) (d11 : decode code (pc + 11) = .ok (.iload 5, 2)) (d13 : decode code (pc + 13) = .ok (.ifCond .ne 15, 3)) (d16 : decode code (pc + 16) = .ok (.aload_n 3, 1)) (d17 : decode code (pc + 17) = .ok (.iconst 0, 1)) (d18 : decode code (pc + 18) = .ok (.laload, 1)) (d19 : decode code (pc + 19) = .ok (.iload 6, 2)) (d21 : decode code (pc + 21) = .ok (.i2l, 1)) (d22 : decode code (pc + 22) = .ok (.lcmp, 1)) (d23 : decode code (pc + 23) = .ok (.ifCond .eq 5, 3)) (d28 : decode code (pc + 28) = .ok (.goto off, 3)) (hoff : ((pc + 28 : Nat) : Int) + off = ((1732 : Nat) : Int))
    (ht : CI l yX10_thrown wvX10_thrown ({ frames := 0, cells := 0, slots := 0, locals := 0 } : Room) [.ref qm] D ct adK adV wm wm th) (h0m : wm[0]? = some (qm, .inr (10, fs))) (hk : th = k) (ho : k = 0 → ov 0 = rb.toInt64) (hP : va_P D vwCl ((ocell ct qo ov :: wx) ++ wm) H) (hD : va_D (AA s) ((ocell ct qo ov :: wx) ++ wm)) (hS : va_S (AA s) s.heap H locs) (hl : lv_has ls 7 [(6, .int rb), (5, .int k), (0, .ref b), (1, .ref qx), (2, .ref qm), (3, .ref qo), (4, .int (nI j))]) (hrm : cells ≤ room_1.cells ∧ slots ≤ room_1.slots)
    (kk : ∀ (H1 : Heap) (locs1 : List Loc), va_P D vwCl ((ocell ct qo ov :: wx) ++ wm) H1 → va_D (AA s) ((ocell ct qo ov :: wx) ++ wm) → va_S (AA s) s.heap H1 locs1 → W p l e room_1 s m #[Value.ref b] below meth c H1 locs1 cells slots Q (F0 m 1732 ls [])) : W p l e room_1 s m #[Value.ref b] below meth c H locs cells slots Q (F0 m pc ls []) := by
  obtain ⟨⟨hx, hb, hr, hml, hown, hts, hX, hbl, hlocks, hgv⟩, hE, hSE, hXE, hno⟩ := id C
  have hA : ∀ q : Nat, s.heap.size ≤ q → AA s q := fun _ h => h
  refine lv_aload_n hx hb d0 rfl (lv_at hl 4 rfl) ?_
  refine xi2 (w1 := ocell ct qo ov :: wx) (va_runV (As := []) (rest := []) ⟨hx, hb, hml, hown, hts⟩ (ht H.size) (cwV 0 hts (gdown gl10_thrown) rfl rfl rfl (by decide +kernel) ⟨Nat.le_of_ble_eq_true rfl, Nat.le_of_ble_eq_true rfl⟩) ⟨blindS, va_recv hE.1 (s2_P hP) (ci := 10) (q0 := 0) rfl h0m, mkpreS hE hSE hS (s2_free hD hS hA) (s2_P hP) (s2_D hD)⟩ rfl rfl hl.1 rfl (lv_room (Nat.le_of_ble_eq_true rfl)) d1 hrm) hP hD hS hA rfl (fun H locs hP hD hS => ?_)
  refine lv_iload hx hb d4 (lv_at hl 1 rfl) ?_
  refine lv_icmp_eq (tgt := pc + 11) hx hb d6 (by omega) (fun _ => ?_) (fun h9 => absurd hk h9)
  refine lv_iload hx hb d11 (lv_at hl 1 rfl) ?_
  refine lv_if_ne (tgt := pc + 28) hx hb d13 (by omega) (fun h9 => ?_) (fun h9 => ?_)
  · exact lv_goto (tgt := 1732) hx hb d28 hoff (kk H locs hP hD hS)
  · refine lv_aload_n hx hb d16 rfl (lv_at hl 5 rfl) ?_
    refine lv_iconst (v := 0) hx hb d17 (by decide) ?_
    refine va_lald hx hb hE.1 hP 0 1 rfl rfl vp1 d18 ?_
    refine lv_iload hx hb d19 (lv_at hl 0 rfl) ?_
    refine lv_i2l (v := rb.toInt64) hx hb d21 rfl ?_
    refine W.lcmp hx hb d22 ?_
    refine lv_if_eq (tgt := pc + 28) hx hb d23 (by omega) (fun _ => ?_) (fun h8 => ?_)
    · exact lv_goto (tgt := 1732) hx hb d28 hoff (kk H locs hP hD hS)
    · exact absurd (by rw [show ov ((0 : Int32).toNatClampNeg) = rb.toInt64 from ho h9]; exact lgc_self _) h8
end LAW
