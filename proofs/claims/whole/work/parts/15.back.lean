/-! behind a call -/
section Back15
variable {p : Program} {l : Launch} {e : Env} {R : Room} {s : State} {m : MethodId} {args : Array Value} {below : List Frame} {meth : Method} {c : Code} {U : State} {locs : List Loc} {cells slots : Nat}
def av_to (U' : State) (g : JFrame) : Outcome → State
  | .returned v => U'.setTop { g with pc := g.pc + 3, stack := v.toList ++ g.stack }
  | .threw x => (U'.setTop g).pushFrame (.throwing x)
theorem av_back {D : va_G} {tA : Nat → ClassId} {B0 : Nat} {SS : State} {A : Array Value} {z : Nat} {as : List av_V} {μ μ' : av_M} {o : av_O} {ad : Nat → Nat → Nat} (X : Stand p l e R s m args below meth c U locs cells slots) (hB : av_B D tA B0 SS A) (hz : z < 169) (hM : av_Met D tA B0 SS l z as μ o μ') (hlv : ∀ v ∈ as, av_live μ v) (hWd : av_W D tA B0 ad μ U.heap) (hP : av_P SS U)
    {g : JFrame} (hg : g.method = m) (hsize : g.locals.size = c.maxLocals) {ig : Instr} (hdg : decode c.code g.pc = .ok (ig, 3)) (hw : 2 * g.monitorRoom + (g.stack.map fun v => v.category).sum ≤ 8) {mk : MethodId} (hn : U.methodNamed? (tl_name z) = some mk)
    (hfr : tl_fr z + 1 ≤ R.frames) (hlo : 8 + (tl_max z + 11) + tl_lo z ≤ R.locals) (hcc : cells + (μ'.1.1 - μ.1.1) ≤ R.cells) (hss : slots + (μ'.1.2 - μ.1.2) ≤ R.slots) :
    ∃ (oc : Outcome) (U' : State) (L : List Loc), Stand p l e R s m args below meth c U' (locs ++ L) (cells + (μ'.1.1 - μ.1.1)) (slots + (μ'.1.2 - μ.1.2)) ∧ (∀ q ∈ L, B0 ≤ q.base) ∧ av_Qc D tA B0 (av_cnt μ) ad o μ' oc U' ∧
      Steps p.tables e below (doInvoke e (U.setTop g) [] mk (as.map (av_vm ad)).toArray).1 (av_to U' g oc) := by
  obtain ⟨hts, -⟩ := hB.at (a := (as.map (av_vm ad)).toArray) hP
  have hword := hts _ (tl_word_eq hz).2
  obtain ⟨m0, methY, cY, h0, hmY, hcY, -, hlY, -⟩ := tl_word_spec hz hword
  cases hn.symm.trans h0
  obtain ⟨kY, hkY, -⟩ := className_of_methodNamed hn
  have hini := hts _ (tl_at (tl_ini_ok (tl_own z) (tl_nm_ok z hz).2.1))
  rw [← (tl_nm_ok z hz).1] at hini
  have hinitY : kY.init = .initialized := Cond.initialized_spec (findClass_of_methodNamed hn) hkY hini
  have h : At U g.method c below := by rw [hg]; exact X.here
  have hpre : (headSpec [tl_word z] (av_rm z μ μ')).pre.before (as.map (av_vm ad)).toArray U = true := atoms_intro (fun w hw' => by rw [List.mem_singleton.mp hw']; exact hword)
  have happ : (headSpec [tl_word z] (av_rm z μ μ')).appliesLoose (tl_name z) e.platform (U.calling g mk (as.map (av_vm ad)).toArray) = true :=
    Spec.appliesLoose_calling (g := g) h hdg hn hkY hinitY
      (X.room_calling (g := g) (R' := av_rm z μ μ') hsize hmY hcY hfr (by rw [hlY]; show _ + _ + tl_lo z ≤ _; omega) hcc hss) hpre
  obtain ⟨mid, hmid⟩ := h.above
  have hfrm : (U.setTop g).frames = (.java g :: mid) ++ below := by rw [State.frames_setTop' g h.top, hmid]; rfl
  obtain ⟨oc, s₂, hsteps, -, hend, hq⟩ := Steps.callFree (hM ad hlv) p X.admits X.cas X.clock (acts := []) hfrm happ ⟨rfl, hP, hWd⟩ trivial
  have hq' : av_Qd D tA B0 ad μ o μ' (as.map (av_vm ad)).toArray (U.calling g mk (as.map (av_vm ad)).toArray) oc s₂ := hq
  rw [State.frames_setTop' g h.top] at hend
  obtain ⟨hQ, hW₂, L, ⟨e2, q2, q3, q4, q5, q6⟩, hL⟩ := hq'
  have e3 : s₂ = ({ (U.calling g mk (as.map (av_vm ad)).toArray).setFrames s₂.frames with heap := s₂.heap, slotsUsed := s₂.slotsUsed } : State).setVm s₂.vm := by
    have : s₂ = ({ s₂ with vm := (U.calling g mk (as.map (av_vm ad)).toArray).vm } : State).setVm s₂.vm := rfl
    rw [e2] at this
    exact this
  have hW' : U.WarmedH s₂.vm := hW₂
  obtain ⟨g₀, hg0⟩ := Option.isSome_iff_exists.mp h.top
  obtain ⟨r, hr⟩ := State.topJava?_eq_some.mp hg0
  have hr' : (({ U with heap := s₂.heap, slotsUsed := s₂.slotsUsed } : State).setVm s₂.vm).frames = .java g₀ :: r := hr
  have hsame : U.sameButNew ({ U with heap := s₂.heap, slotsUsed := s₂.slotsUsed } : State) L (μ'.1.1 - μ.1.1) (μ'.1.2 - μ.1.2) := by
    refine ⟨?_, q2, q3, q4, q5, q6⟩
    obtain ⟨t, ht, -⟩ := State.frames_cons hr
    show ({ U with heap := s₂.heap, slotsUsed := s₂.slotsUsed } : State) = { U.setFrames U.frames with heap := s₂.heap, slotsUsed := s₂.slotsUsed }
    rw [State.setFrames_self ht]
  have hs₂ : s₂ = av_to (({ U with heap := s₂.heap, slotsUsed := s₂.slotsUsed } : State).setVm s₂.vm) g oc := by
    cases oc with
    | returned v =>
      obtain ⟨c₂, i₂, len₂, hc₂, hd₂, hf₂⟩ := hend
      have hcc2 : c₂ = c := by
        have h1 : s₂.code? g.method = U.code? g.method := by
          rw [State.code?_eq, State.code?_eq, hW'.alike.method?]
        exact Option.some.inj (hc₂.symm.trans (h1.trans h.code))
      subst hcc2
      have hlen : len₂ = 3 := by rw [hdg] at hd₂; cases hd₂; rfl
      subst hlen
      refine e3.trans ?_
      show _ = (({ U with heap := s₂.heap, slotsUsed := s₂.slotsUsed } : State).setVm s₂.vm).setTop { g with pc := g.pc + 3, stack := v.toList ++ g.stack }
      rw [hf₂, State.calling_eq h.top, State.setFrames_setFrames, State.setTop_of_frames _ hr', hr]
      rfl
    | threw x =>
      have hf₂ : s₂.frames = .throwing x :: .java g :: U.frames.tail := hend
      refine e3.trans ?_
      show _ = ((({ U with heap := s₂.heap, slotsUsed := s₂.slotsUsed } : State).setVm s₂.vm).setTop g).pushFrame (.throwing x)
      rw [hf₂, State.calling_eq h.top, State.setFrames_setFrames, State.pushFrame, State.frames_setTop _ hr', State.setTop_of_frames _ hr', State.setFrames_setFrames, hr]
      rfl
  subst hg
  refine ⟨oc, ({ U with heap := s₂.heap, slotsUsed := s₂.slotsUsed } : State).setVm s₂.vm, L,
    ⟨X.admits, X.cas, X.clock, X.frames, X.room, X.hears, X.method, X.code, (X.here.setHeapUsed s₂.heap s₂.slotsUsed).setVm hW'.alike, X.tail, State.WarmedH.trans X.warmed hW', X.limits, X.bytes, X.same.trans (hsame.setVm s.vm)⟩, hL, hQ, ?_⟩
  rw [← hs₂]
  exact hsteps
end Back15
