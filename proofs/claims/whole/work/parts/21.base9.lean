/-! what a throw needs: two statics of Throwable, three texts, words of the tables -/
def exI : String := "java/lang/IndexOutOfBoundsException"
def exA : String := "java/lang/IllegalArgumentException"
def exN (c : Nat) : String := if c = 1 then exI else exA
def XT (U : State) : Prop := (∃ q, vk_R RX9 229 "no such SET" q U) ∧ (∃ q, vk_R RX9 234 "no such TRACE" q U) ∧ (∃ q, vk_R RX9 263 "an argument is outside its bounds" q U) ∧ va_Nw (.declares (Bundle.initS "java/lang/RuntimeException")) U ∧ va_Nw (.declares (Bundle.initS "java/lang/Exception")) U ∧ va_Nw (.declares (Bundle.initS "java/lang/Throwable")) U ∧ va_Nw (.castable "java/lang/IndexOutOfBoundsException" "java/lang/IndexOutOfBoundsException") U ∧ va_Nw (.castable "java/lang/IllegalArgumentException" "java/lang/IllegalArgumentException") U
theorem XT_warm {s U : State} (hW : s.WarmedH U.vm) (h : XT s) : XT U := by
  obtain ⟨⟨q1, h1⟩, ⟨q2, h2⟩, ⟨q3, h3⟩, h4, h5, h6, h7, h8⟩ := h
  exact ⟨⟨q1, vk_R.warm hW h1⟩, ⟨q2, vk_R.warm hW h2⟩, ⟨q3, vk_R.warm hW h3⟩, va_Nw.warmD hW h4, va_Nw.warmD hW h5, va_Nw.warmD hW h6, va_Nw.warmC hW h7, va_Nw.warmC hW h8⟩
theorem XT_same {s U : State} (hW : s.vm = U.vm) (h : XT s) : XT U := by
  obtain ⟨⟨q1, h1⟩, ⟨q2, h2⟩, ⟨q3, h3⟩, h4, h5, h6, h7, h8⟩ := h
  exact ⟨⟨q1, vk_R.same hW.symm h1⟩, ⟨q2, vk_R.same hW.symm h2⟩, ⟨q3, vk_R.same hW.symm h3⟩, va_Nw.same rfl hW h4, va_Nw.same rfl hW h5, va_Nw.same rfl hW h6, va_Nw.same rfl hW h7, va_Nw.same rfl hW h8⟩
def XE (A : Nat → Prop) (U : State) (H : Heap) : Prop := vx_Zq Bundle.tN "UNASSIGNED_STACK" Bundle.steD A U H ∧ vx_Zq Bundle.tN "SUPPRESSED_SENTINEL" Bundle.listD A U H ∧ XT U
theorem XE.at {A B : Nat → Prop} {s U : State} {H0 H : Heap} {locs : List Loc} (h : XE A s H0) (hS : va_S A H0 H locs) (hAB : ∀ q, B q → A q) (hW : s.WarmedH U.vm) : XE B U H :=
  ⟨((h.1.kept hS.2.1).narrow hAB).moved hW.alike, ((h.2.1.kept hS.2.1).narrow hAB).moved hW.alike, XT_warm hW h.2.2⟩
def preX (D : va_G) (ct : Nat → ClassId) (sz : Nat) (ws : va_W) (adK adV : Nat → Nat) (U : State) : Prop := preS D ct sz ws adK adV U ∧ XE (va_A ws sz) U U.heap
theorem blindX {D : va_G} {ct : Nat → ClassId} {sz : Nat} {ws : va_W} {adK adV : Nat → Nat} {av : List Value} : FrameBlind (va_Pc av (preX D ct sz ws adK adV)) := fun a U g mk q => by
  obtain ⟨q0, h1, h2⟩ := q
  exact ⟨q0, (blindS (av := av) a U g mk ⟨q0, h1⟩).2, h2.1.moved (u := U) (U := U.calling g mk a) (Vm.Alike.refl U.vm), h2.2.1.moved (u := U) (U := U.calling g mk a) (Vm.Alike.refl U.vm), XT_same (s := U) (U := U.calling g mk a) rfl h2.2.2⟩
theorem mkpreX {D : va_G} {ct : Nat → ClassId} {ws : va_W} {adK adV : Nat → Nat} {av : List Value} {s : State} {H : Heap} {A : Nat → Prop} {locs : List Loc} (hE : EN D ct s) (hSE : SE adK adV A s s.heap) (hXE : XE A s s.heap) (hS : va_S A s.heap H locs) (hF : ∀ q, va_A ws H.size q → A q) (hP : va_P D vwCl ws H) (hD : va_D A ws) : ∀ U : State, U.heap = H → s.WarmedH U.vm → va_Pc av (preX D ct H.size ws adK adV) av.toArray U :=
  fun U hU hW => ⟨rfl, (mkpreS (av := av) hE hSE hS hF hP hD U hU hW).2, by rw [hU]; exact hXE.at hS hF hW⟩
/-- the row of three references -/
def trk (a b c : Nat) : Nat → Option Nat := fun i => if i = 0 then some a else if i = 1 then some b else some c
theorem vp3_0 : vp_in (0 : Int32) 3 := by unfold vp_in; decide
theorem vp3_1 : vp_in (1 : Int32) 3 := by unfold vp_in; decide
theorem vp3_2 : vp_in (2 : Int32) 3 := by unfold vp_in; decide
section XTH
variable {p : Program} {l : Launch} {e : Env} {R : Room} {s : State} {m : MethodId} {args : Array Value} {below : List Frame} {meth : Method} {c : Code} {H : Heap} {locs : List Loc}
variable {D : va_G} {ws wc : va_W} {A : Nat → Prop} {a : Array Value} {pc : Nat} {ls : Array Slot} {st0 rest : List Value}
/-- a callee that throws, not caught here -/
theorem xthr {E0 : String} {Pr : String → Prop} {Qc : Array Value → State → Outcome → State → Prop} (hr : vx_Run p l e R s m args below meth c H locs 0 0 1 6 (F0 m pc ls st0) rest (fun _ _ _ => False) (vx_X (fun (_ : Unit) => True) (fun E _ t => E = E0 ∧ va_P D vwCl wc t.heap) (va_A wc H.size)) (va_A wc H.size)) (hP : va_P D vwCl ws H) (hD : va_D A ws) (hS : va_S A s.heap H locs) (hA : ∀ q, s.heap.size ≤ q → A q) (isC : List Nat) (hC : isC.map (fun i => ws[i]?) = wc.map some) (hno : ∀ x ∈ c.exceptionTable.toList, False) (hlocks : meth.locks = false) (hE1 : Pr E0) :
    W p l e R s m args below meth c H locs 0 0 (vx_MQ below Qc (vx_X (fun (_ : Unit) => True) (fun E _ t => Pr E ∧ va_P D vwCl ws t.heap) A) args s 1 6 A) (F0 m pc ls st0) := by
  have hF := va_free hD hS hA isC hC
  intro T hT X
  rcases hr T hT X with ⟨v, st₀, t, T', L, h0, X', hL, e1, e2, hq, st⟩ | ⟨q, st₀, t, T', L, E, ce, h0, X', hL, e1, e2, ⟨u, _, ⟨hE, hB⟩, hFr⟩, hce, hcv, hcl, st⟩
  · exact hq.elim
  · subst hE
    obtain ⟨k1, k2, k3⟩ := vx_keep h0 e1 hS (fun q _ h => hF q h) hF hL hFr
    have hP1 : va_P D vwCl ws T'.heap := r_back hP hD isC hC k2 (by rw [e1]; exact hB)
    have kx : vx_W p l e R s m args below meth c T'.heap (locs ++ L) (0 + 1) (0 + 6) (vx_MQ below Qc (vx_X (fun (_ : Unit) => True) (fun E' _ t => Pr E' ∧ va_P D vwCl ws t.heap) A) args s 1 6 A) (F0 m pc ls rest) q := vx_out (fun x hx => (hno x hx).elim) hlocks (by rw [e1]; exact hce) hcv hcl (fun t ht _ => ⟨(), trivial, ⟨hE1, vaP_at ht hP1⟩, k3.F ht⟩) k3.2.2 (Nat.le_refl _) (Nat.le_refl _)
    obtain ⟨t2, a1, b1⟩ := kx T' rfl X'
    exact ⟨t2, st.trans a1, b1⟩
theorem thr_x {E0 : String} {Pr : String → Prop} (hP : va_P D vwCl ws H) (hS : va_S A s.heap H locs) (hPr : Pr E0) : ∀ t : State, s.vm.Alike t.vm → H.size ≤ t.heap.size → (∀ q : Nat, q < H.size → t.heap[q]? = H[q]?) → vx_X (fun (_ : Unit) => True) (fun E _ t => Pr E ∧ va_P D vwCl ws t.heap) A E0 s t :=
  fun t _ h2 h3 => ⟨(), trivial, ⟨hPr, fun k q hq => (hP k q hq).kept (h3 q.1 (hP k q hq).lt)⟩, ⟨Nat.le_trans hS.1 h2, fun q h4 h5 => by rw [h3 q (Nat.lt_of_lt_of_le h4 hS.1)]; exact hS.2.1 q h4 h5⟩⟩
end XTH
