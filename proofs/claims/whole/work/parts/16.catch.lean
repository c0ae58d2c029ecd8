/-! an exception that is caught in the walked method: its handlers' classes may be resolved by the search itself -/
theorem av_go_class {e : Env} {d : Bool} {acts : List Action} {s : State} {f : JFrame} {a : Addr} {Q : Handler → Pre} {E : CtlPost} {x : ExceptionTableEntry} {t : List ExceptionTableEntry} {c : ClassId} {cell : Cell} {vm' : Vm} (hx : covers x f.pc = true) (h0 : x.catchType ≠ 0)
    (hg : (Jvm.resolveClass f.method.cls x.catchType).Gives e.toSetting s.vm (.ok c) vm') (hsz : vm'.classes.size ≤ s.vm.classes.size) (hcell : s.heap[a]? = some cell) (hobj : ∀ k, cell.vm ≠ .statics k)
    (hk : ∃ k, vm'.classes[cell.cls]? = some k) (hc : ∃ k, vm'.classes[c]? = some k) :
    wp (findHandler.go f a (x :: t)) Q E e d acts s ↔
      if vm'.assignable cell.cls c = true then Q (.found x.handlerPc) d acts (s.setVm vm') else wp (findHandler.go f a t) Q E e d acts (s.setVm vm') := by
  simp only [covers] at hx
  have hop : (VmOp.resolveClass f.method.cls x.catchType).answer e s.vm = .ok c ∧ (VmOp.resolveClass f.method.cls x.catchType).tables e s.vm = vm' := hg.op rfl
  have hl : (VmOp.resolveClass f.method.cls x.catchType).lands e s = .done (s.setVm vm') := by
    rw [VmOp.lands_same (by rw [hop.2]; exact hsz), hop.2]
  cases hfit : vm'.assignable cell.cls c <;>
    simp [findHandler.go, hx, h0, hop.1, hl, hcell, hobj, hk, hc, hfit, VmOp.dirties, VmOp.acts]
theorem av_selfA (vm : Vm) (c : ClassId) : vm.assignable c c = true := by
  show (c == c || _) = true
  rw [beq_self_eq_true]
  rfl
theorem av_stepCatch {e : Env} {s : State} {a : Addr} {f : JFrame} {r : List Frame} {pc : Nat} {vm' : Vm} (hfind : ∀ (Q : Handler → Pre) (E : CtlPost) (d : Bool) (acts : List Action), wp (findHandler f a) Q E e d acts s ↔ Q (.found pc) d acts (s.setVm vm')) :
    (stepThrowing e s a (.java f :: r)).Is ((s.setVm vm').setFrames (.java { f with pc := pc, stack := [.ref a] } :: r)) [] := by
  simp only [stepThrowing, searchFrame, vmDo]
  generalize hr : Sem.go _ e false [] s = res
  obtain ⟨as, rfl, ha⟩ := Sem.eq_ok_of hr (a := Handler.found pc) (s' := s.setVm vm') (acts' := []) (by simp [hfind _ _ _ _])
  exact ⟨rfl, ha⟩
theorem av_finds {D : va_G} {tA : Nat → ClassId} {e : Env} {s : State} {f : JFrame} {a : Addr} {args : Array Value} {o kd hp : Nat} {cell : Cell} (hpl : e.platform.magicAccessors = ({} : Platform).magicAccessors) (hown : s.vm.findClass (tl_cn.getD o "") = some f.method.cls) (hts : ∀ w ∈ lw_tbl, w.before args s = true) (hK : av_K D tA s) (hN : ∀ i j, 9 ≤ i → i < 14 → 9 ≤ j → j < 14 → i ≠ j → s.vm.assignable (D.1 i) (D.1 j) = false) (hk9 : 9 ≤ kd) (hk14 : kd < 14) (hcls : cell.cls = D.1 kd) (hobj : ∀ k, cell.vm ≠ .statics k) :
    ∀ (hs : List (Nat × Nat × Nat × Nat)), (∀ h ∈ hs, ∃ ci, tl_newq o h.2.2.2 = some ci ∧ 9 ≤ ci ∧ ci < 14 ∧ h.2.2.2 ≠ 0) → av_hdl hs o f.pc kd = some hp → ∀ S : State, s.WarmedH S.vm → S.heap[a]? = some cell →
      ∃ vm', s.WarmedH vm' ∧ ∀ (Q : Handler → Pre) (E : CtlPost) (d : Bool) (acts : List Action), wp (findHandler.go f a (tableOf hs)) Q E e d acts S ↔ Q (.found hp) d acts (S.setVm vm') := by
  intro hs
  induction hs with
  | nil => intro _ h; cases h
  | cons h t ih =>
    intro hall hd S hW hcell
    have hall' := fun x hx => hall x (List.mem_cons_of_mem _ hx)
    unfold av_hdl at hd
    by_cases hcov : h.1 ≤ f.pc ∧ f.pc < h.2.1
    · rw [if_pos hcov] at hd
      obtain ⟨ci, hq, h9, h14, hne⟩ := hall h List.mem_cons_self
      obtain ⟨c, hfc, hcl⟩ := Cond.classLink_spec hown (hts _ (tl_newq_ok hq)) e.platform hpl
      have hc : c = D.1 ci := Option.some.inj (hfc.symm.trans (hK.2.1 ci h9 h14))
      subst hc
      obtain ⟨hg₁, hwarm₁, -⟩ := State.classEntry (e := e) hW hcl
      have hal := hwarm₁.alike
      obtain ⟨k1, hk1⟩ := Vm.classAt_of_findClass (hK.2.1 kd hk9 hk14)
      obtain ⟨k1', hk1', -⟩ := hal.2.2 _ _ hk1
      obtain ⟨k2, hk2⟩ := Vm.classAt_of_findClass hfc
      obtain ⟨k2', hk2', -⟩ := hal.2.2 _ _ hk2
      have hsz : (S.vm.noted f.method.cls h.2.2.2 (.cls (D.1 ci))).classes.size ≤ S.vm.classes.size := by simp [Vm.noted]
      have hx : covers ⟨h.1, h.2.1, h.2.2.1, h.2.2.2⟩ f.pc = true := by simp [covers, hcov.1, hcov.2]
      have hstep := fun (Q : Handler → Pre) (E : CtlPost) (d : Bool) (acts : List Action) => av_go_class (e := e) (d := d) (acts := acts) (s := S) (f := f) (a := a) (Q := Q) (E := E) (x := ⟨h.1, h.2.1, h.2.2.1, h.2.2.2⟩) (t := tableOf t) hx hne hg₁ hsz hcell hobj ⟨k1', by rw [hcls]; exact hk1'⟩ ⟨k2', hk2'⟩
      by_cases e1 : ci = kd
      · subst e1
        rw [if_pos hq] at hd
        cases hd
        refine ⟨_, hwarm₁, fun Q E d acts => ?_⟩
        have hs := hstep Q E d acts
        rw [if_pos (by rw [hcls]; exact av_selfA _ _)] at hs
        exact hs
      · rw [if_neg (by rw [hq]; exact fun z => e1 (Option.some.inj z))] at hd
        obtain ⟨vm', hv1, hv2⟩ := ih hall' hd (S.setVm (S.vm.noted f.method.cls h.2.2.2 (.cls (D.1 ci)))) hwarm₁ hcell
        refine ⟨vm', hv1, fun Q E d acts => ?_⟩
        have hs := hstep Q E d acts
        rw [if_neg (by rw [hcls, hal.assignable, hN kd ci hk9 hk14 h9 h14 (Ne.symm e1)]; decide)] at hs
        exact hs.trans (hv2 Q E d acts)
    · rw [if_neg hcov] at hd
      obtain ⟨vm', hv1, hv2⟩ := ih hall' hd S hW hcell
      refine ⟨vm', hv1, fun Q E d acts => ?_⟩
      have hx : covers ⟨h.1, h.2.1, h.2.2.1, h.2.2.2⟩ f.pc = false := by
        cases hcv : covers ⟨h.1, h.2.1, h.2.2.1, h.2.2.2⟩ f.pc with
        | false => rfl
        | true => exact absurd (by simpa [covers] using hcv) hcov
      show wp (findHandler.go f a (⟨h.1, h.2.1, h.2.2.1, h.2.2.2⟩ :: tableOf t)) Q E e d acts S ↔ _
      rw [W.findHandler_go_skip hx]
      exact hv2 Q E d acts
section Catch16
variable {p : Program} {l : Launch} {e : Env} {R : Room} {s : State} {m : MethodId} {args : Array Value} {below : List Frame} {meth : Method} {c : Code} {T : State} {locs : List Loc} {cells slots : Nat}
theorem av_catch {D : va_G} {tA : Nat → ClassId} {a : Addr} {o kd hp : Nat} {cell : Cell} {hs : List (Nat × Nat × Nat × Nat)} (X : Stand p l e R s m args below meth c T locs cells slots) (hown : s.vm.findClass (tl_cn.getD o "") = some m.cls) (hts : ∀ w ∈ lw_tbl, w.before args s = true) (hK : av_K D tA s) (hN : ∀ i j, 9 ≤ i → i < 14 → 9 ≤ j → j < 14 → i ≠ j → s.vm.assignable (D.1 i) (D.1 j) = false) (hk9 : 9 ≤ kd) (hk14 : kd < 14) (hcls : cell.cls = D.1 kd) (hobj : cell.vm.isStatics = false) (hcell : T.heap[a]? = some cell)
    (htab : c.exceptionTable.toList = tableOf hs) (hall : ∀ h ∈ hs, ∃ ci, tl_newq o h.2.2.2 = some ci ∧ 9 ≤ ci ∧ ci < 14 ∧ h.2.2.2 ≠ 0) {g : JFrame} (hg : g.method = m) (hd : av_hdl hs o g.pc kd = some hp) :
    ∃ vm', Stand p l e R s m args below meth c (T.setVm vm') locs cells slots ∧ ∀ target, Steps p.tables e below ((T.setVm vm').setTop { g with pc := hp, stack := [.ref a] }) target → Steps p.tables e below ((T.setTop g).pushFrame (.throwing a)) target := by
  have hpl : e.platform.magicAccessors = ({} : Platform).magicAccessors := by rw [X.admits.platform]
  have h : At T g.method c below := by rw [hg]; exact X.here
  have hvm : ((T.setTop g).pushFrame (.throwing a)).vm = T.vm := Stand.throwing_vm T g a
  have hheap : ((T.setTop g).pushFrame (.throwing a)).heap = T.heap := Stand.throwing_heap T g a
  obtain ⟨vm', hv1, hv2⟩ := av_finds (tA := tA) (f := g) (a := a) (hp := hp) hpl (by rw [hg]; exact hown) hts hK hN hk9 hk14 hcls (fun k hk => by rw [hk] at hobj; cases hobj) hs hall hd ((T.setTop g).pushFrame (.throwing a)) (by rw [hvm]; exact X.warmed) (by rw [hheap]; exact hcell)
  refine ⟨vm', X.noted hv1, fun target hrest => ?_⟩
  obtain ⟨hgo, hw⟩ := h.throwing a
  refine Steps.head hgo hw ?_
  have hfind : ∀ (Q : Handler → Pre) (E : CtlPost) (d : Bool) (acts : List Action), wp (findHandler g a) Q E e d acts ((T.setTop g).pushFrame (.throwing a)) ↔ Q (.found hp) d acts (((T.setTop g).pushFrame (.throwing a)).setVm vm') := fun Q E d acts => by
    rw [W.findHandler_eq (meth := meth) (code := c) (by rw [hvm, hg]; exact X.method') X.code, htab]
    exact hv2 Q E d acts
  rw [stepThread_throwing (frames_entered h.top _), (av_stepCatch hfind).1]
  obtain ⟨g₀, hg0⟩ := Option.isSome_iff_exists.mp h.top
  obtain ⟨r, hr⟩ := State.topJava?_eq_some.mp hg0
  have hr' : (T.setVm vm').frames = .java g₀ :: r := hr
  rw [State.setTop_of_frames _ hr'] at hrest
  rw [State.pushFrame, State.setTop_of_frames _ hr, hr]
  show Steps p.tables e below ((((T.setVm vm').setFrames (.java g :: r)).setFrames (.throwing a :: (T.setFrames (.java g :: r)).frames)).setFrames (.java { g with pc := hp, stack := [.ref a] } :: r)) target
  rw [State.setFrames_setFrames, State.setFrames_setFrames]
  exact hrest
end Catch16
