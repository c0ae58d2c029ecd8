/-! the three ways to invoke, up to the callee's first frame -/
def tl_isc : Cond → Bool
  | .code _ _ _ _ => true
  | _ => false
set_option maxRecDepth 40000 in
theorem tl_isc_ok : ∀ z, z < 169 → tl_hh z = [] → tl_isc (tl_word z) = true := by decide +kernel
section Link17
variable {p : Program} {l : Launch} {e : Env} {R : Room} {s : State} {m : MethodId} {args : Array Value} {below : List Frame} {meth : Method} {c : Code} {T : State} {locs : List Loc} {cells slots : Nat}
def av_Lk (p : Program) (l : Launch) (e : Env) (R : Room) (s : State) (m : MethodId) (args : Array Value) (below : List Frame) (meth : Method) (c : Code) (T : State) (locs : List Loc) (cells slots z : Nat) (g : JFrame) (rest vs : List Value) : Prop :=
  ∃ (mk : MethodId) (vm₁ : Vm), s.methodNamed? (tl_name z) = some mk ∧ Stand p l e R s m args below meth c (T.setVm vm₁) locs cells slots ∧ ∀ target, (∀ acts, Steps p.tables e below (doInvoke e ((T.setVm vm₁).setTop { g with stack := rest }) acts mk vs.toArray).1 target) → Steps p.tables e below (T.setTop g) target
theorem av_linkS (X : Stand p l e R s m args below meth c T locs cells slots) {o idx z n : Nat} (hexec : p.tables.exec = Jvm.exec) (hown : s.vm.findClass (tl_cn.getD o "") = some m.cls) (hts : ∀ w ∈ lw_tbl, w.before args s = true) (hq : tl_invq o idx = some (z, n)) (hz : z < 169) (hst : tl_stq z = 1) {g : JFrame} (hg : g.method = m) {vs rest : List Value} (hlen : vs.length = n) (hstack : g.stack = vs.reverse ++ rest) (hdg : decode c.code g.pc = .ok (.invokestatic idx, 3)) : av_Lk p l e R s m args below meth c T locs cells slots z g rest vs := by
  obtain ⟨hl, hn⟩ := tl_invq_ok hq
  rw [tl_nmz_lt hz] at hl hn
  obtain ⟨mk, methM, cM, hnamed, hmethM, -, -, -, -, -, -, hsigM⟩ := tl_word_spec hz (hts _ (tl_word_eq hz).2)
  have hsti := tl_sti_ok z hz
  rw [if_pos hst] at hsti
  have hstatic : methM.isStatic = true := Cond.static_spec hnamed hmethM (hts _ (tl_at hsti))
  obtain ⟨kP, hkP, -⟩ := className_of_methodNamed hnamed
  have hini := hts _ (tl_at (tl_ini_ok (tl_own z) (tl_nm_ok z hz).2.1))
  rw [← (tl_nm_ok z hz).1] at hini
  have hinitP : kP.init = .initialized := Cond.initialized_spec (findClass_of_methodNamed hnamed) hkP hini
  rcases hl with hl | hl
  · obtain ⟨vm₁, X₁, hstep₁⟩ := X.invokestatic hexec hown (hts _ hl) hnamed hmethM hstatic hkP hinitP (tl_nm_ok z hz).2.2.2 (g := g) hg (argsL := vs) (rest := rest) (hlen.trans (hn _ hsigM)) hstack hdg
    exact ⟨mk, vm₁, hnamed, X₁, hstep₁⟩
  · obtain ⟨vm₁, X₁, hstep₁⟩ := X.invokestaticNest hexec hown (hts _ hl) hnamed hmethM hstatic hkP hinitP (tl_nm_ok z hz).2.2.2 (g := g) hg (argsL := vs) (rest := rest) (hlen.trans (hn _ hsigM)) hstack hdg
    exact ⟨mk, vm₁, hnamed, X₁, hstep₁⟩
theorem av_linkV (X : Stand p l e R s m args below meth c T locs cells slots) {o idx z n : Nat} (hexec : p.tables.exec = Jvm.exec) (hown : s.vm.findClass (tl_cn.getD o "") = some m.cls) (hts : ∀ w ∈ lw_tbl, w.before args s = true) (hq : tl_invq o idx = some (z, n)) (hz : z < 169) (hst : tl_stq z = 0) (hni : av_isInit z = false) {b : Addr} {cellB : Cell} (hcell : T.heap[b]? = some cellB) (hobj : cellB.vm.isStatics = false) (hcls : s.vm.findClass (tl_cn.getD (tl_own z) "") = some cellB.cls)
    {g : JFrame} (hg : g.method = m) {vs rest : List Value} (hlen : vs.length = n) (hstack : g.stack = vs.reverse ++ .ref b :: rest) (hdg : decode c.code g.pc = .ok (.invokevirtual idx, 3)) : av_Lk p l e R s m args below meth c T locs cells slots z g rest (.ref b :: vs) := by
  obtain ⟨hl, hn⟩ := tl_invq_ok hq
  rw [tl_nmz_lt hz] at hl hn
  obtain ⟨mkA, methA, cM, hnamed, hmethM, -, -, -, -, -, -, hsigM⟩ := tl_word_spec hz (hts _ (tl_word_eq hz).2)
  have hsti := tl_sti_ok z hz
  rw [if_neg (by omega)] at hsti
  obtain ⟨mk0, methM0, hnamed0, hmethM0, hstM, habM⟩ := Cond.instanceMethod_spec (hts _ (tl_at hsti))
  cases hnamed0.symm.trans hnamed
  cases hmethM0.symm.trans hmethM
  obtain ⟨c2, r2, m2, q1, q2, q3, q4, kP, hkP, hkPi⟩ := Cond.selects_spec (hts _ (tl_lw (tl_sel_ok z hz hst hni)))
  cases hcls.symm.trans q1
  cases (State.methodFound?_of_named hnamed (tl_nm_ok z hz).2.2.2).symm.trans q2
  cases hnamed.symm.trans q3
  have hselP : selectMethod e.platform s.vm cellB.cls mkA = .method mkA := by rw [Launch.admits_selectMethod X.admits]; exact q4
  rcases hl with hl | hl
  · obtain ⟨vm₁, X₁, hstep₁⟩ := X.invokevirtual hexec hown (hts _ hl) hnamed hmethM hstM hkP hkPi (tl_nm_ok z hz).2.2.2 (a := b) (cell := cellB) hcell
      (fun z h => by rw [h] at hobj; cases hobj) hselP hmethM habM hkP hkPi (g := g) hg (argsL := vs) (rest := rest) (hlen.trans (hn _ hsigM)) hstack hdg
    exact ⟨mkA, vm₁, hnamed, X₁, hstep₁⟩
  · obtain ⟨vm₁, X₁, hstep₁⟩ := X.invokevirtualNest hexec hown (hts _ hl) hnamed hmethM hstM hkP hkPi (tl_nm_ok z hz).2.2.2 (a := b) (cell := cellB) hcell
      (fun z h => by rw [h] at hobj; cases hobj) hselP hmethM habM hkP hkPi (g := g) hg (argsL := vs) (rest := rest) (hlen.trans (hn _ hsigM)) hstack hdg
    exact ⟨mkA, vm₁, hnamed, X₁, hstep₁⟩
theorem av_linkI (X : Stand p l e R s m args below meth c T locs cells slots) {o idx z n : Nat} (hexec : p.tables.exec = Jvm.exec) (hown : s.vm.findClass (tl_cn.getD o "") = some m.cls) (hts : ∀ w ∈ lw_tbl, w.before args s = true) (hq : tl_invq o idx = some (z, n)) (hz : z < 169) (hst : tl_stq z = 0) (hni : av_isInit z = true) (hrt : tl_ret z = none) (hhh : tl_hh z = []) {b : Addr}
    {g : JFrame} (hg : g.method = m) {vs rest : List Value} (hlen : vs.length = n) (hstack : g.stack = vs.reverse ++ .ref b :: rest) (hdg : decode c.code g.pc = .ok (.invokespecial idx, 3)) : av_Lk p l e R s m args below meth c T locs cells slots z g rest (.ref b :: vs) := by
  obtain ⟨hl, hn⟩ := tl_invq_ok hq
  rw [tl_nmz_lt hz] at hl hn
  have hsti := tl_sti_ok z hz
  rw [if_neg (by omega)] at hsti
  have hinst := hts _ (tl_at hsti)
  have hin : (tl_name z).name = "<init>" := by simpa [av_isInit] using hni
  have hcode : (Cond.code (tl_name z) (tl_byt z) (tl_max z) none).before args s = true := by
    have h := hts _ (tl_word_eq hz).2
    rcases (tl_word_eq hz).1 with ⟨h1, -⟩ | h1
    · rw [h1, hrt] at h; exact h
    · have h9 := tl_isc_ok z hz hhh
      rw [h1] at h9
      cases h9
  have hpl : e.platform.magicAccessors = ({} : Platform).magicAccessors := by rw [X.admits.platform]
  subst hg
  rcases hl with hl | hl
  · obtain ⟨mk, methM, cM, kP, vm₁, hnamed, hmethM, hcodeM, -, hlocalsM, -, hkP, -, hW₁, hstep₁⟩ := Steps.initColdArgs (e := e) X.here hexec X.warmed hpl hown hin (tl_nm_ok z hz).2.2.2 (hts _ hl) hinst hcode (f := g) rfl (fun sig hs => hlen.trans (hn sig hs)) hstack hdg
    exact ⟨mk, vm₁, hnamed, X.noted hW₁, hstep₁⟩
  · obtain ⟨mk, methM, cM, kP, vm₁, hnamed, hmethM, hcodeM, -, hlocalsM, -, hkP, -, hW₁, hstep₁⟩ := Steps.initColdArgsNest (e := e) X.here hexec X.warmed hpl hown hin (tl_nm_ok z hz).2.2.2 (hts _ hl) hinst hcode (f := g) rfl (fun sig hs => hlen.trans (hn sig hs)) hstack hdg
    exact ⟨mk, vm₁, hnamed, X.noted hW₁, hstep₁⟩
end Link17
