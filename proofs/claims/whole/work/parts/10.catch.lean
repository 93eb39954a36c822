/-! A CALLEE'S EXCEPTION, CAUGHT HERE: the search through the table, with rows that are passed -/
section MX
/-- a row that doesn't take the class thrown -/
def mx_pass (pl : Platform) (s0 : State) (dc : ClassId) (pc : Nat) (cls : ClassId) (z : ExceptionTableEntry) : Prop := covers z pc = false ∨ (z.catchType ≠ 0 ∧ ∃ k, s0.vm.ClassLinks pl dc z.catchType k ∧ s0.vm.assignable cls k = false)
theorem mx_row {e : Env} {S s0 : State} {f : JFrame} {a : Addr} {cell : Cell} {z : ExceptionTableEntry} {k : ClassId} (hW : s0.WarmedH S.vm) (hcell : S.heap[a]? = some cell) (hobj : ∀ j, cell.vm ≠ .statics j) (hk0 : ∃ j, s0.vm.classes[cell.cls]? = some j) (hcov : covers z f.pc = true) (h0 : z.catchType ≠ 0) (hl : s0.vm.ClassLinks e.platform f.method.cls z.catchType k) :
    ∃ vm', s0.WarmedH vm' ∧ ∀ (tl : List ExceptionTableEntry) (Q : Handler → Pre) (E : CtlPost) (d : Bool) (acts : List Action), wp (findHandler.go f a (z :: tl)) Q E e d acts S ↔ if s0.vm.assignable cell.cls k = true then Q (.found z.handlerPc) d acts (S.setVm vm') else wp (findHandler.go f a tl) Q E e d acts (S.setVm vm') := by
  obtain ⟨dk, _, _, kt, hd, _, _, _, _, hkt, _, hopen⟩ := hl.here
  have hl' := hW.classLinks hl
  obtain ⟨ha, ht⟩ := (resolveClass_links e.toSetting hl').op (op := VmOp.resolveClass f.method.cls z.catchType) rfl
  have hal : S.vm.Alike (S.vm.noted f.method.cls z.catchType (.cls k)) := (Vm.Alike.refl S.vm).noted _ _ _
  obtain ⟨k0, hk0⟩ := hk0
  obtain ⟨k1, hk1, -⟩ := hW.alike.2.2 _ _ hk0
  obtain ⟨k2, hk2, -⟩ := hW.alike.2.2 _ _ hkt
  obtain ⟨k3, hk3, -⟩ := hal.2.2 _ _ hk1
  obtain ⟨k4, hk4, -⟩ := hal.2.2 _ _ hk2
  refine ⟨_, hW.noted hd hopen (State.rightAt_cls hl), fun tl Q E d acts => ?_⟩
  have hasg : (S.vm.noted f.method.cls z.catchType (.cls k)).assignable cell.cls k = s0.vm.assignable cell.cls k := by rw [hal.assignable, hW.alike.assignable]
  simp only [covers] at hcov
  cases hfit : s0.vm.assignable cell.cls k <;> rw [hfit] at hasg <;> simp [findHandler.go, hcov, h0, ha, ht, hcell, hobj, hk3, hk4, hasg, VmOp.dirties, VmOp.acts]
theorem mx_find {e : Env} {s0 : State} {f : JFrame} {a : Addr} {cell : Cell} (hobj : ∀ j, cell.vm ≠ .statics j) (hk0 : ∃ j, s0.vm.classes[cell.cls]? = some j) (x : ExceptionTableEntry) (suf : List ExceptionTableEntry) (hx : covers x f.pc = true) (h0 : x.catchType ≠ 0) {k : ClassId} (hl : s0.vm.ClassLinks e.platform f.method.cls x.catchType k) (hfit : s0.vm.assignable cell.cls k = true) :
    ∀ (pre : List ExceptionTableEntry) (S : State), s0.WarmedH S.vm → S.heap[a]? = some cell → (∀ z ∈ pre, mx_pass e.platform s0 f.method.cls f.pc cell.cls z) →
      ∃ vm', s0.WarmedH vm' ∧ ∀ (Q : Handler → Pre) (E : CtlPost) (d : Bool) (acts : List Action), wp (findHandler.go f a (pre ++ x :: suf)) Q E e d acts S ↔ Q (.found x.handlerPc) d acts (S.setVm vm') := by
  intro pre
  induction pre with
  | nil =>
    intro S hW hcell _
    obtain ⟨vm', hW', hq⟩ := mx_row (f := f) (z := x) hW hcell hobj hk0 hx h0 hl
    exact ⟨vm', hW', fun Q E d acts => by rw [List.nil_append, hq, if_pos hfit]⟩
  | cons z pre ih =>
    intro S hW hcell hp
    have hp' : ∀ y ∈ pre, mx_pass e.platform s0 f.method.cls f.pc cell.cls y := fun y hy => hp y (List.mem_cons_of_mem _ hy)
    by_cases hcov : covers z f.pc = true
    · rcases hp z List.mem_cons_self with h | ⟨hz0, kz, hlz, hno⟩
      · rw [h] at hcov; cases hcov
      · obtain ⟨vm1, hW1, hq1⟩ := mx_row (f := f) (z := z) hW hcell hobj hk0 hcov hz0 hlz
        obtain ⟨vm2, hW2, hq2⟩ := ih (S.setVm vm1) hW1 hcell hp'
        exact ⟨vm2, hW2, fun Q E d acts => by rw [List.cons_append, hq1, if_neg (by rw [hno]; decide)]; exact hq2 Q E d acts⟩
    · obtain ⟨vm2, hW2, hq2⟩ := ih S hW hcell hp'
      exact ⟨vm2, hW2, fun Q E d acts => by rw [List.cons_append, W.findHandler_go_skip (by simpa using hcov)]; exact hq2 Q E d acts⟩
variable {p : Program} {l : Launch} {e : Env} {R : Room} {s : State} {m : MethodId} {args : Array Value} {below : List Frame} {meth : Method} {c : Code} {T : State} {locs : List Loc} {cells slots : Nat}
theorem mx_caught (X : Stand p l e R s m args below meth c T locs cells slots) (a : Addr) {g : JFrame} (hg : g.method = m) {cell : Cell} (hcell : T.heap[a]? = some cell) (hobj : cell.vm.isStatics = false) (hk0 : ∃ j, s.vm.classes[cell.cls]? = some j)
    (pre : List ExceptionTableEntry) (x : ExceptionTableEntry) (suf : List ExceptionTableEntry) (hsplit : c.exceptionTable.toList = pre ++ x :: suf) (hp : ∀ z ∈ pre, mx_pass e.platform s m.cls g.pc cell.cls z) (hx : covers x g.pc = true) (h0 : x.catchType ≠ 0) {k : ClassId} (hl : s.vm.ClassLinks e.platform m.cls x.catchType k) (hfit : s.vm.assignable cell.cls k = true) :
    ∃ vm', Stand p l e R s m args below meth c (T.setVm vm') locs cells slots ∧ Steps p.tables e below ((T.setTop g).pushFrame (.throwing a)) ((T.setVm vm').setTop { g with pc := x.handlerPc, stack := [.ref a] }) := by
  subst hg
  obtain ⟨vm', hW', hq⟩ := mx_find (e := e) (s0 := s) (f := g) (a := a) (cell := cell) (VmData.ne_statics_of hobj) hk0 x suf hx h0 hl hfit pre ((T.setTop g).pushFrame (.throwing a)) (by rw [throwing_vm]; exact X.warmed) (by rw [throwing_heap]; exact hcell) hp
  refine ⟨vm', X.noted hW', ?_⟩
  have h := X.here
  obtain ⟨hgo, hw⟩ := h.throwing a (g := g)
  refine Steps.head hgo hw ?_
  rw [stepThread_throwing (frames_entered h.top _)]
  obtain ⟨g0, hg0⟩ := Option.isSome_iff_exists.mp h.top
  obtain ⟨r, hr⟩ := State.topJava?_eq_some.mp hg0
  have hmeth : ((T.setTop g).pushFrame (.throwing a)).vm.method? g.method = some meth := by rw [throwing_vm]; exact X.method'
  have hst : (stepThrowing e ((T.setTop g).pushFrame (.throwing a)) a (.java g :: r)).1 = (((T.setTop g).pushFrame (.throwing a)).setVm vm').setFrames (.java { g with pc := x.handlerPc, stack := [.ref a] } :: r) := by
    simp only [stepThrowing, searchFrame, vmDo]
    generalize hres : Sem.go _ e false [] ((T.setTop g).pushFrame (.throwing a)) = res
    obtain ⟨as, rfl, ha⟩ := Sem.eq_ok_of hres (a := Handler.found x.handlerPc) (s' := ((T.setTop g).pushFrame (.throwing a)).setVm vm') (acts' := []) (by
      have := hq (fun h d acts s' => h = Handler.found x.handlerPc ∧ s' = ((T.setTop g).pushFrame (.throwing a)).setVm vm' ∧ True)
      simp [W.findHandler_eq hmeth X.code, hsplit, hq])
    rfl
  rw [hr, List.tail_cons, hst]
  have hr' : (T.setVm vm').frames = .java g0 :: r := hr
  rw [State.setTop_of_frames _ hr']
  have e1 : (((T.setTop g).pushFrame (.throwing a)).setVm vm').setFrames (.java { g with pc := x.handlerPc, stack := [.ref a] } :: r) = (T.setVm vm').setFrames (.java { g with pc := x.handlerPc, stack := [.ref a] } :: r) := by
    have hsv : ∀ (u : State) (F1 F2 : List Frame), ((u.setFrames F1).setVm vm').setFrames F2 = (u.setVm vm').setFrames F2 := fun u F1 F2 => by rw [show (u.setFrames F1).setVm vm' = (u.setVm vm').setFrames F1 from rfl, State.setFrames_setFrames]
    rw [State.pushFrame, State.setTop_of_frames _ hr, hsv, hsv]
  rw [e1]
  exact Steps.refl _
end MX
section VXC
variable {p : Program} {l : Launch} {e : Env} {R : Room} {s : State} {m : MethodId} {args : Array Value} {below : List Frame} {meth : Method} {c : Code} {H : Heap} {locs : List Loc} {cells slots : Nat} {Q : State → Prop}
variable {mc ms : Nat} {free : Addr → Prop} {A0 A1 : Nat → Prop} {H0 : Heap} {a : Array Value} {pc : Nat} {ls : Array Slot} {st0 rest : List Value}
theorem vx_catch {own name : String} {E : String} {ce : Cell} {q : Addr} (hown : s.vm.findClass own = some m.cls) (pre : List ExceptionTableEntry) (x : ExceptionTableEntry) (suf : List ExceptionTableEntry) (hsplit : c.exceptionTable.toList = pre ++ x :: suf)
    (hpass : ∀ z ∈ pre, covers z pc = false ∨ (z.catchType ≠ 0 ∧ ∃ nm : String, (Cond.classLink own z.catchType nm).before args s = true ∧ va_Nc E nm s)) (hx : covers x pc = true) (h0 : x.catchType ≠ 0)
    (hlink : (Cond.classLink own x.catchType name).before args s = true) (hcast : (Cond.castable E name).before args s = true) (hcell : H[q]? = some ce) (hv : ce.vm = .none) (hcl : s.vm.findClass E = some ce.cls)
    (kk : W p l e R s m args below meth c H locs cells slots Q (F0 m x.handlerPc ls [.ref q])) : vx_W p l e R s m args below meth c H locs cells slots Q (F0 m pc ls rest) q := by
  intro T hT X
  have hpl : e.platform.magicAccessors = ({} : Platform).magicAccessors := by rw [X.admits.platform]
  obtain ⟨c3, c4, hc3, hc4, hasg⟩ := Cond.castable_spec hcast
  cases Option.some.inj (hc3.symm.trans hcl)
  obtain ⟨c5, hc5, hcl5⟩ := Cond.classLink_spec hown hlink e.platform hpl
  cases Option.some.inj (hc4.symm.trans hc5)
  obtain ⟨vm', X', st⟩ := mx_caught X q (g := F0 m pc ls rest) rfl (by rw [hT]; exact hcell) (by rw [hv]; rfl) (by obtain ⟨k9, h9, -⟩ := Vm.findClass_spec hcl; exact ⟨k9, h9⟩) pre x suf hsplit
    (fun z hz => by
      rcases hpass z hz with h | ⟨hz0, nm, hl1, hn1⟩
      · exact Or.inl h
      · obtain ⟨c6, hc6, hcl6⟩ := Cond.classLink_spec hown hl1 e.platform hpl
        obtain ⟨a8, b8, h1, h2, h3⟩ := hn1
        cases Option.some.inj (h1.symm.trans hcl)
        cases Option.some.inj (h2.symm.trans hc6)
        exact Or.inr ⟨hz0, _, hcl6, h3⟩) hx h0 hcl5 hasg
  obtain ⟨t, a1, b1⟩ := kk (T.setVm vm') hT X'
  exact ⟨t, st.trans a1, b1⟩
end VXC
