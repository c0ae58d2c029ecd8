/-! the words at every later state; a call, whichever way it ends -/
def av_mv (w : Cond) : Bool := match w with
  | .arrayOver (.object _) => true
  | .methodLinkNest _ _ _ _ => true
  | .castable _ _ => true
  | .declares _ => true
  | .privateMethod _ => true
  | .laysStatic _ _ _ => true
  | .stringRef _ _ _ => true
  | w => goodWord w
set_option maxRecDepth 40000 in
theorem av_mv_tab : tables_1.all av_mv = true := by decide +kernel
theorem av_mv_all : ∀ w ∈ lw_tbl, av_mv w = true := by
  intro w hw
  rcases List.mem_append.mp hw with h | h
  · obtain ⟨q, -, rfl⟩ := List.mem_map.mp h
    rfl
  · exact List.all_eq_true.mp av_mv_tab w h
theorem av_move {SS U : State} {A a : Array Value} (hW : SS.WarmedH U.vm) (hH : ∀ q, q < SS.heap.size → U.heap[q]? = SS.heap[q]?) {w : Cond} (hw : av_mv w = true) (h : w.before A SS = true) : w.before a U = true := by
  cases w with
  | arrayOver t =>
    cases t with
    | object C => exact va_AO.use (va_AO.moved hW.alike (va_AO.of h))
    | _ => exact word_at hW (good_of_word hw) h
  | methodLinkNest cl i x host => exact va_Nw.use rfl (va_Nw.warmM hW (va_any (A' := #[]) rfl h))
  | castable C T => exact va_Nw.use rfl (va_Nw.warmC hW (va_any (A' := #[]) rfl h))
  | declares x => exact va_Nw.use rfl (va_Nw.warmD hW (va_any (A' := #[]) rfl h))
  | privateMethod x => exact Cond.privateMethod_warm hW h
  | stringRef cl i t => exact Cond.stringRef_warmed hW h
  | laysStatic o n d =>
    have h2 := Cond.laysStatic_setVm hW.alike h
    obtain ⟨c, k, i, f, ad, cell, hc, hi, hst, ha, hcell, hs, hcls, hlt, hty⟩ := Cond.laysStatic_spec h2
    have hcell' : SS.heap[ad]? = some cell := hcell
    refine Cond.laysStatic_of (s := U) hc hi hst ha (cell := cell) ?_ hs hcls hlt hty
    rw [hH ad (Array.getElem?_eq_some_iff.mp hcell').1]
    exact hcell'
  | _ => exact word_at hW (good_of_word hw) h
theorem av_K.moved {D : va_G} {tA : Nat → ClassId} {u U : State} (hal : u.vm.Alike U.vm) (h : av_K D tA u) : av_K D tA U := by
  obtain ⟨h1, h2, h3⟩ := h
  refine ⟨va_K.moved hal h1, fun ci a b => by rw [hal.findClass]; exact h2 ci a b, fun kd hk => ?_⟩
  obtain ⟨k, comp, g1, g2, g3, g4⟩ := h3 kd hk
  obtain ⟨k', hk', he⟩ := hal.2.2 _ _ g1
  exact ⟨k', comp, hk', by rw [he]; exact g2, fun z => by rw [hal.findClass]; exact g3 z, g4⟩
def av_e1 : Cond := .isRef (.static "java/lang/Throwable" "UNASSIGNED_STACK" "[Ljava/lang/StackTraceElement;")
def av_e2 : Cond := .isRef (.static "java/lang/Throwable" "SUPPRESSED_SENTINEL" "Ljava/util/List;")
theorem av_moveS {SS U : State} {A a : Array Value} (hW : SS.WarmedH U.vm) (hH : ∀ q, q < SS.heap.size → U.heap[q]? = SS.heap[q]?) {C n d : String} (h : (Cond.isRef (.static C n d)).before A SS = true) : (Cond.isRef (.static C n d)).before a U = true := by
  have h' : (Cond.isRef (.static C n d)).before A (SS.setVm U.vm) = true := Cond.holds_shifted (State.Shifted.of_warmed hW) _ [] rfl h
  simp only [Cond.before, Cond.holds, Cond.value, Term.eval] at h' ⊢
  have e1 : (SS.setVm U.vm).fieldNamed? C n d true = U.fieldNamed? C n d true := rfl
  have e2 : (SS.setVm U.vm).heap = SS.heap := rfl
  rw [e1, e2] at h'
  cases hf : U.fieldNamed? C n d true with
  | none => simp [hf] at h'
  | some q =>
    obtain ⟨q1, k, slot⟩ := q
    cases hk : k.statics with
    | none => simp [hf, hk] at h'
    | some ad =>
      cases hc : SS.heap[ad]? with
      | none => simp [hf, hk, hc] at h'
      | some cl =>
        have hh := hH ad (Array.getElem?_eq_some_iff.mp hc).1
        rw [hc] at hh
        simp [hf, hk, hc] at h'
        simp [hf, hk, hh]
        exact h'
/-- the start: all words, the classes' numbers, which exceptions are none of the others, what the Statement says of Throwable's statics; and what every later state keeps of it -/
def av_B (D : va_G) (tA : Nat → ClassId) (B0 : Nat) (SS : State) (A : Array Value) : Prop := (∀ w ∈ lw_tbl, w.before A SS = true) ∧ av_K D tA SS ∧ B0 = SS.heap.size ∧ (∀ i j, 9 ≤ i → i < 14 → 9 ≤ j → j < 14 → i ≠ j → SS.vm.assignable (D.1 i) (D.1 j) = false) ∧ av_e1.before A SS = true ∧ av_e2.before A SS = true
def av_P (SS U : State) : Prop := SS.WarmedH U.vm ∧ ∀ q, q < SS.heap.size → U.heap[q]? = SS.heap[q]?
theorem av_B.at {D : va_G} {tA : Nat → ClassId} {B0 : Nat} {SS U : State} {A a : Array Value} (h : av_B D tA B0 SS A) (hP : av_P SS U) : (∀ w ∈ lw_tbl, w.before a U = true) ∧ av_K D tA U :=
  ⟨fun w hw => av_move hP.1 hP.2 (av_mv_all w hw) (h.1 w hw), h.2.1.moved hP.1.alike⟩
theorem av_B.na {D : va_G} {tA : Nat → ClassId} {B0 : Nat} {SS U : State} {A : Array Value} (h : av_B D tA B0 SS A) (hP : av_P SS U) : ∀ i j, 9 ≤ i → i < 14 → 9 ≤ j → j < 14 → i ≠ j → U.vm.assignable (D.1 i) (D.1 j) = false := fun i j a b c d e => by
  rw [hP.1.alike.assignable]; exact h.2.2.2.1 i j a b c d e
theorem av_B.es {D : va_G} {tA : Nat → ClassId} {B0 : Nat} {SS U : State} {A a : Array Value} (h : av_B D tA B0 SS A) (hP : av_P SS U) : av_e1.before a U = true ∧ av_e2.before a U = true :=
  ⟨av_moveS hP.1 hP.2 h.2.2.2.2.1, av_moveS hP.1 hP.2 h.2.2.2.2.2⟩
section Agree
variable {p : Program} {l : Launch} {e : Env} {R : Room} {s : State} {m : MethodId} {args : Array Value} {below : List Frame} {meth : Method} {c : Code} {T : State} {locs : List Loc} {cells slots : Nat}
theorem av_agree (X : Stand p l e R s m args below meth c T locs cells slots) {B0 : Nat} (hl : ∀ q ∈ locs, B0 ≤ q.base) (hB : B0 ≤ s.heap.size) : ∀ q, q < B0 → T.heap[q]? = s.heap[q]? := by
  intro q hq
  have hlt : q < s.heap.size := Nat.lt_of_lt_of_le hq hB
  have hc : s.heap[q]? = some s.heap[q] := Array.getElem?_eq_getElem hlt
  obtain ⟨c', h1, h2, h3, h4⟩ := X.same.2.2.2.2.2 q _ hc
  have h1' : T.heap[q]? = some c' := h1
  have hs : c'.slots = (s.heap[q]).slots := by
    apply Array.ext_getElem?
    intro i
    exact h4 i (fun hm => by have := hl _ hm; simp at this; omega)
  rw [h1', hc, h2, hs]
theorem av_P.stand {SS : State} (hP : av_P SS s) (X : Stand p l e R s m args below meth c T locs cells slots) (hl : ∀ q ∈ locs, SS.heap.size ≤ q.base) (hB : SS.heap.size ≤ s.heap.size) {vm' : Vm} (hW : s.WarmedH vm') {g : JFrame} {mk : MethodId} {a : Array Value} : av_P SS ((T.setVm vm').calling g mk a) := by
  refine ⟨State.WarmedH.trans hP.1 hW, fun q hq => ?_⟩
  show T.heap[q]? = _
  rw [av_agree X hl hB q hq]
  exact hP.2 q hq
end Agree
