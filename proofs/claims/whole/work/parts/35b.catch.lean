/-! an exception caught by a row of the method's own table (the tables may be warmed by the search) -/
/-- the search ends at this handler, and leaves these tables -/
def Fto (e : Env) (s : State) (f : JFrame) (a : Addr) (pc : Nat) (vm' : Vm) : Prop :=
  ∀ (Q : Handler → Jvm.Pre) (E : Jvm.CtlPost) (d : Bool) (acts : List Action), Sem.wp (findHandler f a) Q E e d acts s ↔ Q (.found pc) d acts (s.setVm vm')
theorem ft_link {Q : Handler → Jvm.Pre} {E : Jvm.CtlPost} {e : Env} {d : Bool} {acts : List Action} {s : State} {f : JFrame} {a : Addr} {x : ExceptionTableEntry} {t : List ExceptionTableEntry} {c : ClassId} {cell : Cell} (hx : covers x f.pc = true) (h0 : x.catchType ≠ 0)
    (hl : s.vm.ClassLinks e.platform f.method.cls x.catchType c) (hcell : s.heap[a]? = some cell) (hobj : ∀ k, cell.vm ≠ .statics k) (hk : ∃ k, s.vm.classes[cell.cls]? = some k) (hc : ∃ k, s.vm.classes[c]? = some k) :
    Sem.wp (findHandler.go f a (x :: t)) Q E e d acts s ↔ if s.vm.assignable cell.cls c = true then Q (.found x.handlerPc) d acts (s.setVm (s.vm.noted f.method.cls x.catchType (.cls c))) else Sem.wp (findHandler.go f a t) Q E e d acts (s.setVm (s.vm.noted f.method.cls x.catchType (.cls c))) := by
  simp only [covers] at hx
  obtain ⟨ha, ht⟩ := (resolveClass_links e.toSetting hl).op (op := VmOp.resolveClass f.method.cls x.catchType) rfl
  have hal : s.vm.Alike (s.vm.noted f.method.cls x.catchType (.cls c)) := (Vm.Alike.refl s.vm).noted _ _ _
  obtain ⟨k1, hk1⟩ := hk
  obtain ⟨k2, hk2⟩ := hc
  obtain ⟨k3, hk3, -⟩ := hal.2.2 _ _ hk1
  obtain ⟨k4, hk4, -⟩ := hal.2.2 _ _ hk2
  have has : (s.vm.noted f.method.cls x.catchType (.cls c)).assignable cell.cls c = s.vm.assignable cell.cls c := hal.assignable ..
  cases hfit : s.vm.assignable cell.cls c
  · rw [hfit] at has
    simp [findHandler.go, hx, h0, ha, ht, hcell, hobj, hk3, hk4, has, VmOp.dirties, VmOp.acts]
  · rw [hfit] at has
    simp [findHandler.go, hx, h0, ha, ht, hcell, hobj, hk3, hk4, has, VmOp.dirties, VmOp.acts]
/-- what the machine does with a find -/
theorem ft_steps {tb : Tables} {e : Env} {s target : State} {g : JFrame} {c : Code} {below : List Frame} {a : Addr} (h : At s g.method c below) {pc : Nat} {vm' : Vm}
    (hfind : Fto e ((s.setTop g).pushFrame (.throwing a)) g a pc vm') (hrest : Steps tb e below ((s.setVm vm').setTop { g with pc := pc, stack := [.ref a] }) target) : Steps tb e below ((s.setTop g).pushFrame (.throwing a)) target := by
  obtain ⟨hgo, hw⟩ := h.throwing a
  have hone : (stepThrowing e ((s.setTop g).pushFrame (.throwing a)) a (.java g :: s.frames.tail)).1 = ((((s.setTop g).pushFrame (.throwing a)).setVm vm').setFrames (.java { g with pc := pc, stack := [.ref a] } :: s.frames.tail)) := by
    simp only [stepThrowing, searchFrame, vmDo]
    generalize hr : Sem.go _ e false [] ((s.setTop g).pushFrame (.throwing a)) = res
    obtain ⟨as, rfl, ha⟩ := Sem.eq_ok_of hr (a := Handler.found pc) (s' := ((s.setTop g).pushFrame (.throwing a)).setVm vm') (acts' := []) (by simp [hfind _ _ _ _])
    rfl
  refine Steps.head hgo hw ?_
  rw [stepThread_throwing (frames_entered h.top _), hone]
  obtain ⟨g₀, hg⟩ := Option.isSome_iff_exists.mp h.top
  obtain ⟨r, hr⟩ := State.topJava?_eq_some.mp hg
  have hr' : (s.setVm vm').frames = .java g₀ :: r := hr
  rw [State.setTop_of_frames _ hr'] at hrest
  have sw : ∀ (u : State) (F G : List Frame), ((u.setFrames F).setVm vm').setFrames G = (u.setVm vm').setFrames G := fun u F G => by
    rw [show (u.setFrames F).setVm vm' = (u.setVm vm').setFrames F from rfl, State.setFrames_setFrames]
  rw [hr, List.tail_cons, State.pushFrame, sw, State.setTop_of_frames _ hr, sw]
  exact hrest
section CATCH
variable {p : Program} {l : Launch} {e : Env} {R : Room} {s : State} {m : MethodId} {args : Array Value} {below : List Frame} {meth : Method} {c : Code} {H : Heap} {locs : List Loc} {cells slots : Nat} {Q : State → Prop} {pc : Nat} {ls : Array Slot} {rest : List Value}
/-- a find in the table of the walked method, and the walk goes on at the handler -/
theorem ft_W {hpc : Nat} {q : Addr} (hf : ∀ T : State, T.heap = H → Stand p l e R s m args below meth c T locs cells slots → ∃ vm', s.WarmedH vm' ∧ Fto e ((T.setTop (F0 m pc ls rest)).pushFrame (.throwing q)) (F0 m pc ls rest) q hpc vm')
    (kk : W p l e R s m args below meth c H locs cells slots Q (F0 m hpc ls [.ref q])) : vx_W p l e R s m args below meth c H locs cells slots Q (F0 m pc ls rest) q := by
  intro T hT X
  obtain ⟨vm', hW, hF⟩ := hf T hT X
  obtain ⟨t, a1, b1⟩ := kk (T.setVm vm') hT (X.noted hW)
  refine ⟨t, ?_, b1⟩
  exact ft_steps (tb := p.tables) (g := F0 m pc ls rest) X.here hF a1
/-- what a link says of the class that a row names, at a later state -/
theorem ft_cl {own nm : String} {k : Nat} (hown : s.vm.findClass own = some m.cls) (hl : (Cond.classLink own k nm).before args s = true) (hpl : e.platform.magicAccessors = ({} : Platform).magicAccessors) : ∃ c5, s.vm.findClass nm = some c5 ∧ s.vm.ClassLinks e.platform m.cls k c5 := Cond.classLink_spec hown hl e.platform hpl
/-- the first row takes it -/
theorem cq_first {own nm E : String} {ce : Cell} {q : Addr} (hown : s.vm.findClass own = some m.cls) {x : ExceptionTableEntry} {suf : List ExceptionTableEntry} (hsplit : c.exceptionTable.toList = x :: suf) (hx : covers x pc = true) (h0 : x.catchType ≠ 0)
    (hlink : (Cond.classLink own x.catchType nm).before args s = true) (hcast : (Cond.castable E nm).before args s = true) (hcell : H[q]? = some ce) (hv : ce.vm = .none) (hcl : s.vm.findClass E = some ce.cls)
    (kk : W p l e R s m args below meth c H locs cells slots Q (F0 m x.handlerPc ls [.ref q])) : vx_W p l e R s m args below meth c H locs cells slots Q (F0 m pc ls rest) q := by
  refine ft_W (fun T hT X => ?_) kk
  have hpl : e.platform.magicAccessors = ({} : Platform).magicAccessors := by rw [X.admits.platform]
  obtain ⟨c3, c4, hc3, hc4, hasg⟩ := Cond.castable_spec hcast
  cases Option.some.inj (hc3.symm.trans hcl)
  obtain ⟨c5, hc5, hcl5⟩ := ft_cl hown hlink hpl
  cases Option.some.inj (hc4.symm.trans hc5)
  obtain ⟨dk, _, _, kt, hd, _, _, _, _, hkt, _, hopen⟩ := hcl5.here
  obtain ⟨k9, h9, -⟩ := Vm.findClass_spec hcl
  obtain ⟨k1, hk1, -⟩ := X.warmed.alike.2.2 _ _ h9
  obtain ⟨k2, hk2, -⟩ := X.warmed.alike.2.2 _ _ hkt
  refine ⟨_, X.warmed.noted hd hopen (State.rightAt_cls hcl5), fun Q E d acts => ?_⟩
  have hm9 : ((T.setTop (F0 m pc ls rest)).pushFrame (.throwing q)).vm.method? (F0 m pc ls rest).method = some meth := X.method'
  rw [Jvm.W.findHandler_eq hm9 X.code, hsplit, ft_link (s := (T.setTop (F0 m pc ls rest)).pushFrame (.throwing q)) (f := F0 m pc ls rest) (cell := ce) hx h0 (X.warmed.classLinks hcl5) (by rw [← hT] at hcell; exact hcell) (VmData.ne_statics_of (by rw [hv]; rfl)) ⟨k1, hk1⟩ ⟨k2, hk2⟩, if_pos (by rw [← hasg]; exact X.warmed.alike.assignable ..)]
  exact Iff.rfl
/-- the first row names another class, the second takes it -/
theorem cq_second {own nm nm0 E : String} {ce : Cell} {q : Addr} (hown : s.vm.findClass own = some m.cls) {x0 x : ExceptionTableEntry} {suf : List ExceptionTableEntry} (hsplit : c.exceptionTable.toList = x0 :: x :: suf) (hx0 : covers x0 pc = true) (h00 : x0.catchType ≠ 0) (hlink0 : (Cond.classLink own x0.catchType nm0).before args s = true) (hno : va_Nc E nm0 s) (hx : covers x pc = true) (h0 : x.catchType ≠ 0)
    (hlink : (Cond.classLink own x.catchType nm).before args s = true) (hcast : (Cond.castable E nm).before args s = true) (hcell : H[q]? = some ce) (hv : ce.vm = .none) (hcl : s.vm.findClass E = some ce.cls)
    (kk : W p l e R s m args below meth c H locs cells slots Q (F0 m x.handlerPc ls [.ref q])) : vx_W p l e R s m args below meth c H locs cells slots Q (F0 m pc ls rest) q := by
  refine ft_W (fun T hT X => ?_) kk
  have hpl : e.platform.magicAccessors = ({} : Platform).magicAccessors := by rw [X.admits.platform]
  obtain ⟨c3, c4, hc3, hc4, hasg⟩ := Cond.castable_spec hcast
  cases Option.some.inj (hc3.symm.trans hcl)
  obtain ⟨c5, hc5, hcl5⟩ := ft_cl hown hlink hpl
  cases Option.some.inj (hc4.symm.trans hc5)
  obtain ⟨c6, hc6, hcl6⟩ := ft_cl hown hlink0 hpl
  obtain ⟨a8, b8, n1, n2, n3⟩ := hno
  cases Option.some.inj (n1.symm.trans hcl)
  cases Option.some.inj (n2.symm.trans hc6)
  obtain ⟨dk, _, _, kt, hd, _, _, _, _, hkt, _, hopen⟩ := hcl5.here
  obtain ⟨dk', _, _, kt', hd', _, _, _, _, hkt', _, hopen'⟩ := hcl6.here
  obtain ⟨k9, h9, -⟩ := Vm.findClass_spec hcl
  have W1 := X.warmed
  have W2 := X.warmed.noted hd' hopen' (State.rightAt_cls hcl6)
  obtain ⟨k1, hk1, -⟩ := W1.alike.2.2 _ _ h9
  obtain ⟨k3, hk3, -⟩ := W1.alike.2.2 _ _ hkt'
  obtain ⟨k2, hk2, -⟩ := W2.alike.2.2 _ _ hkt
  obtain ⟨k4, hk4, -⟩ := W2.alike.2.2 _ _ h9
  refine ⟨_, W2.noted hd hopen (State.rightAt_cls hcl5), fun Q E d acts => ?_⟩
  have hm9 : ((T.setTop (F0 m pc ls rest)).pushFrame (.throwing q)).vm.method? (F0 m pc ls rest).method = some meth := X.method'
  have hcT : T.heap[q]? = some ce := by rw [hT]; exact hcell
  rw [Jvm.W.findHandler_eq hm9 X.code, hsplit, ft_link (s := (T.setTop (F0 m pc ls rest)).pushFrame (.throwing q)) (f := F0 m pc ls rest) (cell := ce) hx0 h00 (W1.classLinks hcl6) hcT (VmData.ne_statics_of (by rw [hv]; rfl)) ⟨k1, hk1⟩ ⟨k3, hk3⟩, if_neg (by
    rw [show ((T.setTop (F0 m pc ls rest)).pushFrame (.throwing q)).vm.assignable ce.cls c6 = s.vm.assignable ce.cls c6 from W1.alike.assignable .., n3]; decide)]
  refine (ft_link (s := ((T.setTop (F0 m pc ls rest)).pushFrame (.throwing q)).setVm (T.vm.noted m.cls x0.catchType (.cls c6))) (f := F0 m pc ls rest) (cell := ce) hx h0 (W2.classLinks hcl5) hcT (VmData.ne_statics_of (by rw [hv]; rfl)) ⟨k4, hk4⟩ ⟨k2, hk2⟩).trans ?_
  rw [if_pos (show (((T.setTop (F0 m pc ls rest)).pushFrame (.throwing q)).setVm (T.vm.noted m.cls x0.catchType (.cls c6))).vm.assignable ce.cls c4 = true from by rw [← hasg]; exact W2.alike.assignable ..)]
  exact Iff.rfl
end CATCH
