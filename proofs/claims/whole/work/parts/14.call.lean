/-! a method's contract out of its walk; a call, by the contract, whichever way it ends -/
theorem tl_word_eq {z : Nat} (hz : z < 169) : ((tl_word z = Cond.code (tl_name z) (tl_byt z) (tl_max z) (tl_ret z) ∧ tl_hh z = []) ∨ tl_word z = Cond.codeWith (tl_name z) (tl_byt z) (tl_max z) (tl_ret z) (tl_hh z)) ∧ tl_word z ∈ lw_tbl := by
  have g1 := tl_wk1_ok z hz
  have g2 := tl_wk2_ok z hz
  have g3 := tl_wk3_ok z hz
  have hb : tl_byt z = tl_wb (tl_word z) := if_neg (by omega)
  have hm : tl_word z ∈ lw_tbl := by
    unfold tl_word at g1 ⊢
    cases hw : tables_1[tl_cods.getD z 0]? with
    | none => rw [hw] at g1; cases g1
    | some w => exact tl_at hw
  refine ⟨?_, hm⟩
  generalize tl_word z = w at g1 g2 g3 hb ⊢
  cases w with
  | code x b m r =>
    obtain ⟨h1, h2, h3⟩ : x.cls = (tl_name z).cls ∧ x.name = (tl_name z).name ∧ x.desc = (tl_name z).desc := by simpa [tl_wk1] using g1
    obtain ⟨h4, h5⟩ : m = tl_max z ∧ r = tl_ret z := by simpa [tl_wk2] using g2
    have h6 : [] = tl_hh z := by simpa [tl_wk3] using g3
    have hx : x = tl_name z := by
      cases x
      cases hn : tl_name z
      rw [hn] at h1 h2 h3
      cases h1; cases h2; cases h3; rfl
    rw [hb, ← hx, ← h4, ← h5]
    exact Or.inl ⟨rfl, h6.symm⟩
  | codeWith x b m r hh =>
    obtain ⟨h1, h2, h3⟩ : x.cls = (tl_name z).cls ∧ x.name = (tl_name z).name ∧ x.desc = (tl_name z).desc := by simpa [tl_wk1] using g1
    obtain ⟨h4, h5⟩ : m = tl_max z ∧ r = tl_ret z := by simpa [tl_wk2] using g2
    have h6 : hh = tl_hh z := by simpa [tl_wk3] using g3
    have hx : x = tl_name z := by
      cases x
      cases hn : tl_name z
      rw [hn] at h1 h2 h3
      cases h1; cases h2; cases h3; rfl
    rw [hb, ← hx, ← h4, ← h5, ← h6]
    exact Or.inr rfl
  | _ => cases g1
theorem tl_word_spec {z : Nat} (hz : z < 169) {a : Array Value} {U : State} (h : (tl_word z).before a U = true) : ∃ m meth c, U.methodNamed? (tl_name z) = some m ∧ U.vm.method? m = some meth ∧ meth.code = some c ∧ c.code = tl_byt z ∧ c.maxLocals = tl_max z ∧ meth.sig.returnType = tl_ret z ∧ meth.locks = false ∧ c.exceptionTable.toList = tableOf (tl_hh z) ∧ parseMethodDescriptor (tl_name z).desc = some meth.sig := by
  rcases (tl_word_eq hz).1 with ⟨hw, hh⟩ | hw
  · rw [hw] at h
    obtain ⟨m, hn⟩ := Cond.code_named h
    obtain ⟨meth, c, h1, h2, h3, h4, h5, h6, h7, h8⟩ := Cond.code_spec hn h
    refine ⟨m, meth, c, hn, h1, h2, h3, h4, h5, h6, ?_, h8⟩
    rw [hh]
    have : c.exceptionTable = #[] := by simpa using h7
    rw [this]; rfl
  · rw [hw] at h
    obtain ⟨m, meth, c, hn, h1, h2, h3, h4, h5, h6, h7, h8⟩ := Cond.codeWith_spec h
    exact ⟨m, meth, c, hn, h1, h2, h3, h4, h6, h7, by rw [← h5, table_eq], h8⟩
/-- the room of a call that makes so much -/
def av_rm (z : Nat) (μ μ' : av_M) : Room := { frames := tl_fr z, cells := μ'.1.1 - μ.1.1, slots := μ'.1.2 - μ.1.2, locals := tl_lo z }
def av_Pc (D : va_G) (tA : Nat → ClassId) (B0 : Nat) (SS : State) (as : List av_V) (ad : Nat → Nat → Nat) (μ : av_M) : Array Value → State → Prop := fun a U => a = (as.map (av_vm ad)).toArray ∧ av_P SS U ∧ av_W D tA B0 ad μ U.heap
def av_Qd (D : va_G) (tA : Nat → ClassId) (B0 : Nat) (ad : Nat → Nat → Nat) (μ : av_M) (o : av_O) (μ' : av_M) : Array Value → State → Outcome → State → Prop := fun _ st oc t => av_Qc D tA B0 (av_cnt μ) ad o μ' oc t ∧ st.WarmedH t.vm ∧ ∃ L : List Loc, st.sameButNew ({ t with vm := st.vm } : State) L (μ'.1.1 - μ.1.1) (μ'.1.2 - μ.1.2) ∧ ∀ q ∈ L, B0 ≤ q.base
def av_Met (D : va_G) (tA : Nat → ClassId) (B0 : Nat) (SS : State) (l : Launch) (z : Nat) (as : List av_V) (μ : av_M) (o : av_O) (μ' : av_M) : Prop := ∀ ad : Nat → Nat → Nat, (∀ v ∈ as, av_live μ v) →
  MetFree l (tl_name z) (headSpec [tl_word z] (av_rm z μ μ')) (av_Pc D tA B0 SS as ad μ) (fun _ _ _ _ _ => True) (av_Qd D tA B0 ad μ o μ')
theorem av_args_mem : ∀ (vs : List Value) (k : Nat), (∀ v ∈ vs, v.category = 1) → ∀ (i : Nat) (v : Value), vs[i]? = some v → (k + i, v) ∈ lv_args k vs
  | [], _, _, i, v, h => by simp at h
  | w :: vs, k, hc, i, v, h => by
    unfold lv_args
    have hw := hc w List.mem_cons_self
    rw [if_neg (by omega)]
    cases i with
    | zero => simp at h; subst h; exact List.mem_cons_self
    | succ i =>
      refine List.mem_cons_of_mem _ ?_
      have := av_args_mem vs (k + 1) (fun x hx => hc x (List.mem_cons_of_mem _ hx)) i v (by simpa using h)
      rw [show k + (i + 1) = k + 1 + i by omega]
      exact this
theorem av_sl_len : ∀ vs : List Value, (∀ v ∈ vs, v.category = 1) → (lg_sl vs).length = vs.length := by
  intro vs
  induction vs with
  | nil => intro _; rfl
  | cons v vs ih =>
    intro h
    have hv := h v List.mem_cons_self
    have := ih (fun x hx => h x (List.mem_cons_of_mem _ hx))
    have h2 : lg_sl (v :: vs) = Slot.val v :: lg_sl vs := by simp [lg_sl, hv]
    rw [h2, List.length_cons, this, List.length_cons]
theorem av_c1_cat {v : av_V} (h : av_c1 v = true) : av_cat1 v := by
  rcases v with x | x | x
  · trivial
  · cases h
  · trivial
theorem av_L.entry {ad : Nat → Nat → Nat} {μ : av_M} {as : List av_V} {n : Nat} (hl : as.length ≤ n) (hlv : ∀ v ∈ as, av_live μ v) (hc : as.all av_c1 = true) : av_L ad μ n (as.map some ++ List.replicate (n - as.length) none) ((lg_sl (as.map (av_vm ad)) ++ List.replicate (n - (lg_sl (as.map (av_vm ad))).length) Slot.unset).toArray) := by
  have hcat : ∀ v ∈ as.map (av_vm ad), v.category = 1 := by
    intro v hv
    obtain ⟨w, hw, rfl⟩ := List.mem_map.mp hv
    exact av_vm_cat (av_c1_cat (List.all_eq_true.mp hc w hw))
  have hlen := av_sl_len _ hcat
  rw [List.length_map] at hlen
  have h := lv_entry (as.map (av_vm ad)) (n := n) (by rw [hlen]; exact hl)
  refine ⟨h.1, h.2.1, by simp; omega, fun i v hv => ?_⟩
  have hi : as[i]? = some v := by
    rw [List.getElem?_append] at hv
    split at hv
    · simpa using hv
    · simp [List.getElem?_replicate] at hv
  have hm : v ∈ as := List.mem_of_getElem? hi
  refine ⟨?_, hlv v hm, av_c1_cat (List.all_eq_true.mp hc v hm)⟩
  have := av_args_mem (as.map (av_vm ad)) 0 hcat i (av_vm ad v) (by simp [hi])
  rw [Nat.zero_add] at this
  exact h.2.2 _ this
theorem av_Met.of {D : va_G} {tA : Nat → ClassId} {B0 : Nat} {SS : State} {A : Array Value} {l : Launch} {z : Nat} {as : List av_V} {μ μ' : av_M} {o : av_O} (hB : av_B D tA B0 SS A) (hz : z < 169) (hl : as.length ≤ tl_max z) (hc : as.all av_c1 = true)
    (K : ∀ (p : Program) (e : Env) (R : Room) (s : State) (m : MethodId) (args : Array Value) (below : List Frame) (meth : Method) (c : Code) (ad0 : Nat → Nat → Nat), av_X D tA p R s m args meth c z → R.cells = μ'.1.1 - μ.1.1 → R.slots = μ'.1.2 - μ.1.2 → av_P SS s → B0 ≤ s.heap.size →
      av_KK D tA B0 (av_cnt μ) ad0 μ.1.1 μ.1.2 z p l e R s m args below meth c (av_Q D tA B0 (av_cnt μ) ad0 μ.1.1 μ.1.2 o μ' below s) 0 (as.map some ++ List.replicate (tl_max z - as.length) none) [] μ) : av_Met D tA B0 SS l z as μ o μ' := by
  intro ad hlv
  refine MetFree.of_bodyS (code := tl_byt z) (maxLocals := tl_max z) (ret := tl_ret z) (tl_nm_ok z hz).2.2.1 ?_ ?_
  · intro args s m h hn
    have hw := atoms_spec (ws := [tl_word z]) h _ List.mem_cons_self
    obtain ⟨m', meth, c, h0, h1, h2, h3, h4, h5, h6, -⟩ := tl_word_spec hz hw
    cases hn.symm.trans h0
    exact ⟨meth, c, h1, h2, h3, h4, h5, h6⟩
  · intro p e s m args below meth c s₁ B hml hP _
    obtain ⟨rfl, hPS, hWd⟩ := hP
    have hw := atoms_spec (ws := [tl_word z]) B.pre _ List.mem_cons_self
    obtain ⟨m', meth', c', h0, h1, h2, h3, h4, h5, h6, h7, -⟩ := tl_word_spec hz hw
    cases B.named.symm.trans h0
    cases B.method.symm.trans h1
    cases (Stand.of_body B).code.symm.trans h2
    have hown : s.vm.findClass (tl_cn.getD (tl_own z) "") = some m.cls := by
      rw [← (tl_nm_ok z hz).1]
      exact findClass_of_methodNamed B.named
    obtain ⟨hts, hK⟩ := hB.at (a := (as.map (av_vm ad)).toArray) hPS
    have X : av_X D tA p (av_rm z μ μ') s m (as.map (av_vm ad)).toArray meth c z := ⟨B.exec, B.bytes, hml, hown, hts, B.notSynchronized, B.returns, h7, (name_of_methodNamed B.named B.method).1, Nat.le_refl _, Nat.le_refl _, hK⟩
    have hW := K p e (av_rm z μ μ') s m _ below meth c ad X rfl rfl hPS hWd.2.2.2.2.2.1 ad s.heap [] 0 0 _ ⟨hWd, av_L.entry hl hlv hc, (fun v hv => by cases hv), (fun q hq => by cases hq), rfl, rfl, fun f => Nat.le_refl _, fun f i _ => rfl⟩
    rw [List.map_nil, ← lg_entry_eq] at hW
    have hh0 : s₁.heap = s.heap := by rw [B.state]; rfl
    obtain ⟨t, a1, oc, b1, b2, b3, b4, L, b5, b6⟩ := hW s₁ hh0 (Stand.of_body B)
    exact ⟨t, oc, a1, b1, b2, b3, b4, L, b5, b6⟩
