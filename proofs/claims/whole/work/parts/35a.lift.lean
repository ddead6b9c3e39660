/-! what a contract over a few cells says over more -/
theorem fm_of {α β : Type} (f : α → Option β) : ∀ (is : List α) (w : List β), is.map f = w.map some → is.filterMap f = w
  | [], [], _ => rfl
  | [], _ :: _, h => by cases h
  | _ :: _, [], h => by cases h
  | i :: is, b :: w, h => by
    have h1 : f i = some b := (List.cons.inj h).1
    rw [List.filterMap_cons_some h1, fm_of f is w (List.cons.inj h).2]
section LIFT
variable {l : Launch} {y : MethodName} {cw : List Cond} {rm : Room} {av : List Value} {D : va_G} {ct : Nat → ClassId} {sz : Nat} {adK adV : Nat → Nat} {ws ws1 wc wc' : va_W}
theorem A_sub {isC : List Nat} (hC : isC.map (fun i => ws[i]?) = wc.map some) : ∀ q, va_A wc sz q → va_A ws sz q := by
  rintro q (⟨k, e, h⟩ | h)
  · have h1 : (isC.map (fun i => ws[i]?))[k]? = some (some (q, e)) := by rw [hC, List.getElem?_map, h]; rfl
    rw [List.getElem?_map] at h1
    obtain ⟨i, hi, h2⟩ := Option.map_eq_some_iff.mp h1
    exact Or.inl ⟨i, e, h2⟩
  · exact Or.inr h
theorem pre_sub {isC : List Nat} {U : State} (hC : isC.map (fun i => ws[i]?) = wc.map some) (hnd : va_nd isC = true) (h : pre_ D ct sz ws U) : pre_ D ct sz wc U :=
  ⟨h.1, h.2.1.sub isC (fm_of _ _ _ hC), h.2.2.1, h.2.2.2.sub isC hnd hC⟩
theorem SE_narrow {A B : Nat → Prop} {U : State} {H : Heap} (h : SE adK adV A U H) (hAB : ∀ q, B q → A q) : SE adK adV B U H := ⟨h.1.narrow hAB, h.2.1.narrow hAB, h.2.2.1.narrow hAB, h.2.2.2⟩
theorem XE_narrow {A B : Nat → Prop} {U : State} {H : Heap} (h : XE A U H) (hAB : ∀ q, B q → A q) : XE B U H := ⟨h.1.narrow hAB, h.2.1.narrow hAB, h.2.2⟩
theorem preS_sub {isC : List Nat} {U : State} (hC : isC.map (fun i => ws[i]?) = wc.map some) (hnd : va_nd isC = true) (h : preS D ct sz ws adK adV U) : preS D ct sz wc adK adV U :=
  ⟨pre_sub hC hnd h.1, SE_narrow h.2 (A_sub hC)⟩
theorem preX_sub {isC : List Nat} {U : State} (hC : isC.map (fun i => ws[i]?) = wc.map some) (hnd : va_nd isC = true) (h : preX D ct sz ws adK adV U) : preX D ct sz wc adK adV U :=
  ⟨preS_sub hC hnd h.1, XE_narrow h.2 (A_sub hC)⟩
/-- a call that answers r, over the world wx -/
def CI (l : Launch) (y : MethodName) (cw : List Cond) (rm : Room) (av : List Value) (D : va_G) (ct : Nat → ClassId) (adK adV : Nat → Nat) (wx wx' : va_W) (r : Int32) : Prop :=
  ∀ sz : Nat, Met l y cw rm (va_Pc av (preS D ct sz wx adK adV)) (va_Qi (fun q (_ : Unit) => q = r) (fun _ t => va_P D vwCl wx' t.heap) (va_A wx sz)) 0 0 (va_A wx sz)
/-- a call that answers r (c = 0), or throws, over the world wx -/
def CX (l : Launch) (y : MethodName) (cw : List Cond) (rm : Room) (av : List Value) (D : va_G) (ct : Nat → ClassId) (adK adV : Nat → Nat) (wx wx' : va_W) (c : Nat) (r : Int32) : Prop :=
  ∀ sz : Nat, vx_Met l y cw rm (va_Pc av (preX D ct sz wx adK adV)) (va_Qi (fun q (_ : Unit) => c = 0 ∧ q = r) (fun _ t => va_P D vwCl wx' t.heap) (va_A wx sz)) (vx_X (fun (_ : Unit) => True) (fun E _ t => (E = exN c ∧ ¬ c = 0) ∧ va_P D vwCl wx' t.heap) (va_A wx sz)) 1 6 (va_A wx sz)
theorem liftI {r1 : Int32} (hM : ∀ sz : Nat, Met l y cw rm (va_Pc av (pre_ D ct sz wc)) (va_Qi (fun r (_ : Unit) => r = r1) (fun _ t => va_P D vwCl wc' t.heap) (va_A wc sz)) 0 0 (va_A wc sz)) (isC isR : List Nat) (n : Nat) (hC : isC.map (fun i => ws[i]?) = wc.map some) (h1 : isC.map (fun i => ws1[i]?) = wc'.map some) (h2 : isR.map (fun i => ws1[i]?) = pick ws isR) (hn : ws1.length = n) (h3 : ∀ k, k < n → k ∈ isC ∨ (k ∈ isR ∧ k ∉ isC)) (hnd : va_nd isC = true) : CI l y cw rm av D ct adK adV ws ws1 r1 := by
  intro sz p e a1 a2 a3 s m args below hf ha hp hk
  obtain ⟨hav, hp, hSE⟩ := hp
  obtain ⟨n9, o, w1, w2, w3, ⟨⟨r, u, ho, hr, hB⟩, hF⟩, L, hFE, hL⟩ := hM sz p e a1 a2 a3 s m args below hf ha ⟨hav, pre_sub hC hnd hp⟩ trivial
  obtain ⟨hsz, hP, hE, hD⟩ := hp
  refine ⟨n9, o, w1, w2, w3, ⟨⟨r, u, ho, hr, m_back hP hD isC isR hC h1 (h2.trans (pick_map isR)) hn h3 (fun q hq hA => hF.2 q hq (by rw [← hsz]; exact hA)) hB⟩, hF.1, fun q hq hA => hF.2 q hq (fun h => hA (A_sub hC q h))⟩, L, hFE, fun q hq => A_sub hC _ (hL q hq)⟩
theorem liftS {r1 : Int32} (hM : ∀ sz : Nat, Met l y cw rm (va_Pc av (preS D ct sz wc adK adV)) (va_Qi (fun r (_ : Unit) => r = r1) (fun _ t => va_P D vwCl wc' t.heap) (va_A wc sz)) 0 0 (va_A wc sz)) (isC isR : List Nat) (n : Nat) (hC : isC.map (fun i => ws[i]?) = wc.map some) (h1 : isC.map (fun i => ws1[i]?) = wc'.map some) (h2 : isR.map (fun i => ws1[i]?) = pick ws isR) (hn : ws1.length = n) (h3 : ∀ k, k < n → k ∈ isC ∨ (k ∈ isR ∧ k ∉ isC)) (hnd : va_nd isC = true) : CI l y cw rm av D ct adK adV ws ws1 r1 := by
  intro sz p e a1 a2 a3 s m args below hf ha hp hk
  obtain ⟨hav, hp⟩ := hp
  obtain ⟨n9, o, w1, w2, w3, ⟨⟨r, u, ho, hr, hB⟩, hF⟩, L, hFE, hL⟩ := hM sz p e a1 a2 a3 s m args below hf ha ⟨hav, preS_sub hC hnd hp⟩ trivial
  obtain ⟨⟨hsz, hP, hE, hD⟩, hSE⟩ := hp
  refine ⟨n9, o, w1, w2, w3, ⟨⟨r, u, ho, hr, m_back hP hD isC isR hC h1 (h2.trans (pick_map isR)) hn h3 (fun q hq hA => hF.2 q hq (by rw [← hsz]; exact hA)) hB⟩, hF.1, fun q hq hA => hF.2 q hq (fun h => hA (A_sub hC q h))⟩, L, hFE, fun q hq => A_sub hC _ (hL q hq)⟩
theorem liftX {c : Nat} {r1 : Int32} (hM : ∀ sz : Nat, vx_Met l y cw rm (va_Pc av (preX D ct sz wc adK adV)) (va_Qi (fun r (_ : Unit) => c = 0 ∧ r = r1) (fun _ t => va_P D vwCl wc' t.heap) (va_A wc sz)) (vx_X (fun (_ : Unit) => True) (fun E _ t => (E = exN c ∧ ¬ c = 0) ∧ va_P D vwCl wc' t.heap) (va_A wc sz)) 1 6 (va_A wc sz)) (isC isR : List Nat) (n : Nat) (hC : isC.map (fun i => ws[i]?) = wc.map some) (h1 : isC.map (fun i => ws1[i]?) = wc'.map some) (h2 : isR.map (fun i => ws1[i]?) = pick ws isR) (hn : ws1.length = n) (h3 : ∀ k, k < n → k ∈ isC ∨ (k ∈ isR ∧ k ∉ isC)) (hnd : va_nd isC = true) : CX l y cw rm av D ct adK adV ws ws1 c r1 := by
  intro sz p e a1 a2 a3 s m args below hf ha hp hk
  obtain ⟨hav, hp⟩ := hp
  obtain ⟨n9, o, w1, w2, w3, hq⟩ := hM sz p e a1 a2 a3 s m args below hf ha ⟨hav, preX_sub hC hnd hp⟩ trivial
  obtain ⟨⟨⟨hsz, hP, hE, hD⟩, hSE⟩, hXE⟩ := hp
  refine ⟨n9, o, w1, w2, w3, ?_⟩
  rcases hq with ⟨⟨⟨r, u, ho, hr, hB⟩, hF⟩, L, hFE, hL⟩ | ⟨q, ho, E, ce, L, ⟨u, hpx, ⟨hE9, hB⟩, hF⟩, z1, z2, z3, z4, z5, hL⟩
  · exact Or.inl ⟨⟨⟨r, u, ho, hr, m_back hP hD isC isR hC h1 (h2.trans (pick_map isR)) hn h3 (fun q hq hA => hF.2 q hq (by rw [← hsz]; exact hA)) hB⟩, hF.1, fun q hq hA => hF.2 q hq (fun h => hA (A_sub hC q h))⟩, L, hFE, fun q hq => A_sub hC _ (hL q hq)⟩
  · exact Or.inr ⟨q, ho, E, ce, L, ⟨u, hpx, ⟨hE9, m_back hP hD isC isR hC h1 (h2.trans (pick_map isR)) hn h3 (fun q hq hA => hF.2 q hq (by rw [← hsz]; exact hA)) hB⟩, hF.1, fun q hq hA => hF.2 q hq (fun h => hA (A_sub hC q h))⟩, z1, z2, z3, z4, z5, fun z hz => A_sub hC _ (hL z hz)⟩
end LIFT
/-! three stretches of a world, the middle one's cells changed by a call -/
section SEG
variable {D : va_G} {cl : List vw_C} {A : Nat → Prop} {w1 w2 wc wc' : va_W} {H H1 : Heap}
theorem sg_at {k : Nat} {q : Nat × va_E} (h : wc[k]? = some q) : (w1 ++ (wc ++ w2))[w1.length + k]? = some q := by
  have hk : k < wc.length := (List.getElem?_eq_some_iff.mp h).1
  rw [List.getElem?_append_right (by omega), show w1.length + k - w1.length = k by omega, List.getElem?_append_left hk]
  exact h
theorem sg_P (hP : va_P D cl (w1 ++ (wc ++ w2)) H) : va_P D cl wc H := fun k q h => hP _ q (sg_at h)
theorem sg_D (hD : va_D A (w1 ++ (wc ++ w2))) : va_D A wc :=
  ⟨fun i j p q h1 h2 h3 => by have := hD.1 _ _ p q (sg_at h1) (sg_at h2) h3; omega, fun k q h => hD.2 _ q (sg_at h)⟩
theorem sg_free {H0 : Heap} {locs : List Loc} (hD : va_D A (w1 ++ (wc ++ w2))) (hS : va_S A H0 H locs) (hA : ∀ q, H0.size ≤ q → A q) : ∀ q, va_A wc H.size q → A q := by
  rintro q (⟨k, e, h⟩ | h)
  · exact hD.2 _ _ (sg_at h)
  · exact hA q (Nat.le_trans hS.1 h)
theorem sg_back (hP : va_P D cl (w1 ++ (wc ++ w2)) H) (hD : va_D A (w1 ++ (wc ++ w2))) (h4 : wc'.map Prod.fst = wc.map Prod.fst) (hk : ∀ q : Nat, q < H.size → ¬ va_A wc H.size q → H1[q]? = H[q]?) (hP1 : va_P D cl wc' H1) : va_P D cl (w1 ++ (wc' ++ w2)) H1 := by
  have hlen : wc'.length = wc.length := by have := congrArg List.length h4; rw [List.length_map, List.length_map] at this; exact this
  have same : ∀ (i : Nat) (q : Nat × va_E), (w1 ++ (wc ++ w2))[i]? = some q → (i < w1.length ∨ w1.length + wc.length ≤ i) → va_at D cl q H1 := by
    intro i q hq hi
    have h0 := hP i q hq
    refine h0.kept (hk q.1 h0.lt ?_)
    rintro (⟨k, e, h⟩ | h)
    · have h9 := hD.1 _ _ _ _ hq (sg_at h) rfl
      have : k < wc.length := (List.getElem?_eq_some_iff.mp h).1
      omega
    · have := h0.lt; omega
  intro i q hq
  by_cases c1 : i < w1.length
  · refine same i q ?_ (Or.inl c1)
    rw [List.getElem?_append_left c1] at hq ⊢
    exact hq
  · rw [List.getElem?_append_right (by omega)] at hq
    by_cases c2 : i - w1.length < wc'.length
    · rw [List.getElem?_append_left c2] at hq
      exact hP1 _ q hq
    · refine same i q ?_ (Or.inr (by omega))
      rw [List.getElem?_append_right (by omega)] at hq ⊢
      rw [List.getElem?_append_right (by omega)]
      rw [hlen] at hq
      exact hq
theorem sg_fst (h4 : wc'.map Prod.fst = wc.map Prod.fst) : (w1 ++ (wc' ++ w2)).map Prod.fst = (w1 ++ (wc ++ w2)).map Prod.fst := by
  rw [List.map_append, List.map_append, List.map_append, List.map_append, h4]
end SEG
/-! calls over a stretch -/
section XS
variable {p : Program} {l : Launch} {e : Env} {R : Room} {s : State} {m : MethodId} {args : Array Value} {below : List Frame} {meth : Method} {c : Code} {H : Heap} {locs : List Loc} {cells slots mc ms : Nat} {Q : State → Prop}
variable {D : va_G} {w1 w2 wc wc' : va_W} {A : Nat → Prop} {H0 : Heap} {a : Array Value} {pc : Nat} {ls : Array Slot} {st0 rest : List Value}
theorem xi3 {r1 : Int32} (hr : va_Run p l e R s m args below meth c H locs cells slots mc ms (F0 m pc ls st0) rest (va_Qi (fun r (_ : Unit) => r = r1) (fun _ t => va_P D vwCl wc' t.heap) (va_A wc H.size) a) (va_A wc H.size)) (hP : va_P D vwCl (w1 ++ (wc ++ w2)) H) (hD : va_D A (w1 ++ (wc ++ w2))) (hS : va_S A H0 H locs) (hA : ∀ q, H0.size ≤ q → A q) (h4 : wc'.map Prod.fst = wc.map Prod.fst)
    (kk : ∀ (H1 : Heap) (locs1 : List Loc), va_P D vwCl (w1 ++ (wc' ++ w2)) H1 → va_D A (w1 ++ (wc' ++ w2)) → va_S A H0 H1 locs1 → W p l e R s m args below meth c H1 locs1 (cells + mc) (slots + ms) Q (F0 m (pc + 3) ls (.int r1 :: rest))) : W p l e R s m args below meth c H locs cells slots Q (F0 m pc ls st0) := by
  have hF := sg_free hD hS hA
  refine va_calli hr hS (fun q _ h => hF q h) hF (fun r u t H1 locs1 ht _ hw hB _ hk hS1 => ?_)
  subst hw
  exact kk H1 locs1 (sg_back hP hD h4 hk (by rw [← ht]; exact hB)) (vaD_fst (sg_fst h4) hD) hS1
theorem xc3 {cc : Nat} {r1 : Int32} (hr : vx_Run p l e R s m args below meth c H locs cells slots mc ms (F0 m pc ls st0) rest (va_Qi (fun r (_ : Unit) => cc = 0 ∧ r = r1) (fun _ t => va_P D vwCl wc' t.heap) (va_A wc H.size) a) (vx_X (fun (_ : Unit) => True) (fun E _ t => (E = exN cc ∧ ¬ cc = 0) ∧ va_P D vwCl wc' t.heap) (va_A wc H.size)) (va_A wc H.size)) (hP : va_P D vwCl (w1 ++ (wc ++ w2)) H) (hD : va_D A (w1 ++ (wc ++ w2))) (hS : va_S A H0 H locs) (hA : ∀ q, H0.size ≤ q → A q) (h4 : wc'.map Prod.fst = wc.map Prod.fst)
    (kx : ¬ cc = 0 → ∀ (ce : Cell) (q9 : Addr) (H1 : Heap) (locs1 : List Loc), va_P D vwCl (w1 ++ (wc' ++ w2)) H1 → va_D A (w1 ++ (wc' ++ w2)) → va_S A H0 H1 locs1 → H1[q9]? = some ce → ce.vm = .none → s.vm.findClass (exN cc) = some ce.cls → vx_W p l e R s m args below meth c H1 locs1 (cells + mc) (slots + ms) Q (F0 m pc ls rest) q9)
    (kk : cc = 0 → ∀ (H1 : Heap) (locs1 : List Loc), va_P D vwCl (w1 ++ (wc' ++ w2)) H1 → va_D A (w1 ++ (wc' ++ w2)) → va_S A H0 H1 locs1 → W p l e R s m args below meth c H1 locs1 (cells + mc) (slots + ms) Q (F0 m (pc + 3) ls (.int r1 :: rest))) : W p l e R s m args below meth c H locs cells slots Q (F0 m pc ls st0) := by
  have hF := sg_free hD hS hA
  refine vx_calli hr hS (fun q _ h => hF q h) hF (fun q _ h => hF q h) ?_ ?_
  · intro E ce q9 u t H1 locs1 ht _ _ hB _ hk hS1 hce hcv hcl
    obtain ⟨⟨rfl, hc0⟩, hB⟩ := hB
    exact kx hc0 ce q9 H1 locs1 (sg_back hP hD h4 hk (by rw [← ht]; exact hB)) (vaD_fst (sg_fst h4) hD) hS1 hce hcv hcl
  · intro r u t H1 locs1 ht _ hw hB _ hk hS1
    obtain ⟨hc0, rfl⟩ := hw
    exact kk hc0 H1 locs1 (sg_back hP hD h4 hk (by rw [← ht]; exact hB)) (vaD_fst (sg_fst h4) hD) hS1
end XS
