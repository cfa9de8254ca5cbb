/-! a throw that a row of the method's own table catches; the rows ahead of it may cover the place and name another class -/
/-- the search down the rows ys ends at the handler h -/
def bk_F (pl : Platform) (s₀ : State) (d : ClassId) (pc : Nat) (thrown : ClassId) (h : Nat) : List ExceptionTableEntry → Prop
  | [] => False
  | y :: ys => (covers y pc = false ∧ bk_F pl s₀ d pc thrown h ys) ∨ (covers y pc = true ∧ y.catchType ≠ 0 ∧ ∃ cT, s₀.vm.ClassLinks pl d y.catchType cT ∧ ((s₀.vm.assignable thrown cT = true ∧ y.handlerPc = h) ∨ (s₀.vm.assignable thrown cT = false ∧ bk_F pl s₀ d pc thrown h ys)))
theorem bk_go {e : Env} {s₀ : State} {f : JFrame} {a : Addr} {ce : Cell} (hv : ce.vm = .none) (hk : ∃ k, s₀.vm.classes[ce.cls]? = some k) {h : Nat} : ∀ ys : List ExceptionTableEntry, bk_F e.platform s₀ f.method.cls f.pc ce.cls h ys → ∀ S : State, s₀.WarmedH S.vm → S.heap[a]? = some ce →
    ∃ vm', s₀.WarmedH vm' ∧ ∀ (Q : Handler → Pre) (E : CtlPost) (d : Bool) (acts : List Action), wp (findHandler.go f a ys) Q E e d acts S ↔ Q (.found h) d acts (S.setVm vm') := by
  intro ys
  induction ys with
  | nil => exact fun hF => hF.elim
  | cons y ys ih =>
    intro hF S hW hcell
    rcases hF with ⟨hc, hF⟩ | ⟨hc, h0, cT, hl, hF⟩
    · obtain ⟨vm', hW', q⟩ := ih hF S hW hcell
      refine ⟨vm', hW', fun Q E d acts => ?_⟩
      rw [W.findHandler_go_skip hc]
      exact q Q E d acts
    · have hobj : ∀ k, ce.vm ≠ .statics k := fun k => by rw [hv]; exact fun z => by cases z
      obtain ⟨ha, ht⟩ := (resolveClass_links e.toSetting (hW.classLinks hl)).op (op := VmOp.resolveClass f.method.cls y.catchType) rfl
      obtain ⟨dk, _, _, kt, hd, _, _, _, _, hkt, _, hopen⟩ := hl.here
      have hW1 : s₀.WarmedH (S.vm.noted f.method.cls y.catchType (.cls cT)) := hW.noted hd hopen (State.rightAt_cls hl)
      obtain ⟨k1, hk1⟩ := hk
      obtain ⟨k1', hk1', -⟩ := hW1.alike.2.2 _ _ hk1
      obtain ⟨k2', hk2', -⟩ := hW1.alike.2.2 _ _ hkt
      have hcv := hc
      simp only [covers] at hcv
      rcases hF with ⟨hfit, rfl⟩ | ⟨hno, hF⟩
      · have hfit' : (S.vm.noted f.method.cls y.catchType (.cls cT)).assignable ce.cls cT = true := by rw [hW1.alike.assignable]; exact hfit
        refine ⟨_, hW1, fun Q E d acts => ?_⟩
        simp [findHandler.go, hcv, h0, ha, ht, hcell, hobj, hk1', hk2', hfit', VmOp.dirties, VmOp.acts]
      · have hno' : (S.vm.noted f.method.cls y.catchType (.cls cT)).assignable ce.cls cT = false := by rw [hW1.alike.assignable]; exact hno
        obtain ⟨vm', hW', q⟩ := ih hF (S.setVm (S.vm.noted f.method.cls y.catchType (.cls cT))) hW1 hcell
        refine ⟨vm', hW', fun Q E d acts => Iff.trans ?_ (q Q E d acts)⟩
        simp [findHandler.go, hcv, h0, ha, ht, hcell, hobj, hk1', hk2', hno', VmOp.dirties, VmOp.acts]
section BK
variable {p : Program} {l : Launch} {e : Env} {R : Room} {s : State} {m : MethodId} {args : Array Value} {below : List Frame} {meth : Method} {c : Code} {H : Heap} {locs : List Loc} {cells slots : Nat} {Q : State → Prop} {pc : Nat} {ls : Array Slot} {rest : List Value}
theorem bk_step {T : State} (X : Stand p l e R s m args below meth c T locs cells slots) {a : Addr} {ce : Cell} {h : Nat} {g : JFrame} (hg : g.method = m) (hcell : T.heap[a]? = some ce) (hv : ce.vm = .none) (hk : ∃ k, s.vm.classes[ce.cls]? = some k) (hF : bk_F e.platform s m.cls g.pc ce.cls h c.exceptionTable.toList) :
    ∃ vm', Stand p l e R s m args below meth c (T.setVm vm') locs cells slots ∧ Steps p.tables e below ((T.setTop g).pushFrame (.throwing a)) ((T.setVm vm').setTop { g with pc := h, stack := [.ref a] }) := by
  subst hg
  obtain ⟨vm', hW', q⟩ := bk_go (e := e) (s₀ := s) (f := g) (a := a) hv hk (h := h) c.exceptionTable.toList hF ((T.setTop g).pushFrame (.throwing a)) (by rw [Stand.throwing_vm]; exact X.warmed) (by rw [Stand.throwing_heap]; exact hcell)
  have hfind : ∀ (Q : Handler → Pre) (E : CtlPost) (d : Bool) (acts : List Action), wp (findHandler g a) Q E e d acts ((T.setTop g).pushFrame (.throwing a)) ↔ Q (.found h) d acts (((T.setTop g).pushFrame (.throwing a)).setVm vm') := fun Q E d acts => by
    rw [W.findHandler_eq (s := (T.setTop g).pushFrame (.throwing a)) (meth := meth) (code := c) (by rw [Stand.throwing_vm]; exact X.method') X.code]
    exact q Q E d acts
  refine ⟨vm', X.noted hW', ?_⟩
  obtain ⟨hgo, hw⟩ := X.here.throwing (g := g) a
  refine Steps.head hgo hw ?_
  rw [stepThread_throwing (frames_entered X.here.top _)]
  have hone : (stepThrowing e ((T.setTop g).pushFrame (.throwing a)) a (.java g :: T.frames.tail)).1 = (((T.setTop g).pushFrame (.throwing a)).setVm vm').setFrames (.java { g with pc := h, stack := [.ref a] } :: T.frames.tail) := by
    simp only [stepThrowing, searchFrame, vmDo]
    generalize hr : Sem.go _ e false [] ((T.setTop g).pushFrame (.throwing a)) = res
    obtain ⟨as, rfl, -⟩ := Sem.eq_ok_of hr (a := Handler.found h) (s' := ((T.setTop g).pushFrame (.throwing a)).setVm vm') (acts' := []) (by simp [hfind])
    rfl
  rw [hone]
  obtain ⟨g₀, hg0⟩ := Option.isSome_iff_exists.mp X.here.top
  obtain ⟨r, hr⟩ := State.topJava?_eq_some.mp hg0
  have hr' : (T.setVm vm').frames = .java g₀ :: r := hr
  rw [State.setTop_of_frames _ hr', hr, List.tail_cons]
  have e1 : (((T.setTop g).pushFrame (.throwing a)).setVm vm').setFrames (.java { g with pc := h, stack := [.ref a] } :: r) = (T.setVm vm').setFrames (.java { g with pc := h, stack := [.ref a] } :: r) := by
    have z : ∀ (u : State) (F G : List Frame), ((u.setFrames F).setVm vm').setFrames G = (u.setVm vm').setFrames G := fun u F G => by
      show ((u.setVm vm').setFrames F).setFrames G = _
      rw [State.setFrames_setFrames]
    rw [State.pushFrame, z, State.setTop_of_frames _ hr, z]
  rw [e1]
  exact Steps.refl _
theorem bk_catch {E : String} {ce : Cell} {q : Addr} {h : Nat} (hcell : H[q]? = some ce) (hv : ce.vm = .none) (hcl : s.vm.findClass E = some ce.cls) (hF : ∀ pl : Platform, pl.magicAccessors = ({} : Platform).magicAccessors → bk_F pl s m.cls pc ce.cls h c.exceptionTable.toList)
    (kk : W p l e R s m args below meth c H locs cells slots Q (F0 m h ls [.ref q])) : vx_W p l e R s m args below meth c H locs cells slots Q (F0 m pc ls rest) q := by
  intro T hT X
  obtain ⟨k9, h9, -⟩ := Vm.findClass_spec hcl
  obtain ⟨vm', X', st⟩ := bk_step X (g := F0 m pc ls rest) (h := h) rfl (by rw [hT]; exact hcell) hv ⟨k9, h9⟩ (hF e.platform (by rw [X.admits.platform]))
  obtain ⟨t, a1, b1⟩ := kk (T.setVm vm') hT X'
  exact ⟨t, st.trans a1, b1⟩
/-- the first row takes it -/
theorem bk_one {pl : Platform} (hpl : pl.magicAccessors = ({} : Platform).magicAccessors) {own E name : String} {thrown : ClassId} {y : ExceptionTableEntry} {ys : List ExceptionTableEntry} {h : Nat} (hown : s.vm.findClass own = some m.cls) (hth : s.vm.findClass E = some thrown) (hc : covers y pc = true) (h0 : y.catchType ≠ 0) (hlink : (Cond.classLink own y.catchType name).before args s = true) (hcast : (Cond.castable E name).before args s = true) (hh : y.handlerPc = h) : bk_F pl s m.cls pc thrown h (y :: ys) := by
  obtain ⟨c3, c4, hc3, hc4, hasg⟩ := Cond.castable_spec hcast
  cases Option.some.inj (hc3.symm.trans hth)
  obtain ⟨c5, hc5, hcl5⟩ := Cond.classLink_spec hown hlink pl hpl
  cases Option.some.inj (hc4.symm.trans hc5)
  exact Or.inr ⟨hc, h0, c4, hcl5, Or.inl ⟨hasg, hh⟩⟩
/-- the first row is passed: it names a class that the thrown one isn't of -/
theorem bk_pass {pl : Platform} (hpl : pl.magicAccessors = ({} : Platform).magicAccessors) {own E name : String} {thrown : ClassId} {y : ExceptionTableEntry} {ys : List ExceptionTableEntry} {h : Nat} (hown : s.vm.findClass own = some m.cls) (hth : s.vm.findClass E = some thrown) (hc : covers y pc = true) (h0 : y.catchType ≠ 0) (hlink : (Cond.classLink own y.catchType name).before args s = true) (hno : va_Nc E name s) (hF : bk_F pl s m.cls pc thrown h ys) : bk_F pl s m.cls pc thrown h (y :: ys) := by
  obtain ⟨c6, hc6, hcl6⟩ := Cond.classLink_spec hown hlink pl hpl
  obtain ⟨a8, b8, h1, h2, h3⟩ := hno
  cases Option.some.inj (h1.symm.trans hth)
  cases Option.some.inj (h2.symm.trans hc6)
  exact Or.inr ⟨hc, h0, _, hcl6, Or.inr ⟨h3, hF⟩⟩
end BK
