/-! a call in the walk -/
theorem av_wt_ok (ad : Nat → Nat → Nat) : ∀ r : List av_V, ((r.map (av_vm ad)).map fun v => v.category).sum = av_wt r := by
  intro r
  induction r with
  | nil => rfl
  | cons v r ih =>
    rw [List.map_cons, List.map_cons, List.sum_cons, ih]
    rcases v with x | x | x
    · rfl
    · rfl
    · cases x <;> rfl
theorem av_vm_ext {μ : av_M} {ad ad' : Nat → Nat → Nat} (h : ∀ f i, i < av_cnt μ f → ad' f i = ad f i) {v : av_V} (hv : av_live μ v) : av_vm ad' v = av_vm ad v := by
  rcases v with x | x | x
  · rfl
  · rfl
  · cases x with
    | none => rfl
    | some q => exact congrArg Value.ref (h q.1 q.2 hv)
theorem av_live_ext {μ μ' : av_M} (h : ∀ f, av_cnt μ f ≤ av_cnt μ' f) {v : av_V} (hv : av_live μ v) : av_live μ' v := by
  rcases v with x | x | x
  · trivial
  · trivial
  · cases x with
    | none => trivial
    | some q => exact Nat.lt_of_lt_of_le (hv : q.2 < av_cnt μ q.1) (h q.1)
section Steps18
variable {D : va_G} {tA : Nat → ClassId} {B0 : Nat} {n0 : Nat → Nat} {ad0 : Nat → Nat → Nat} {c0 s0 y : Nat} {p : Program} {l : Launch} {e : Env} {R : Room} {s : State} {m : MethodId} {args : Array Value} {below : List Frame} {meth : Method} {c : Code} {Q : State → Prop} {pc : Nat} {ls : List (Option av_V)} {μ : av_M}
theorem av_I.ret {ad ad' : Nat → Nat → Nat} {H H' : Heap} {locs L : List Loc} {cells slots : Nat} {Lc : Array Slot} {st st' : List av_V} {μ' : av_M} (I : av_I D tA B0 n0 ad0 c0 s0 y ad ls st μ H locs cells slots Lc) (hW : av_W D tA B0 ad' μ' H') (hn : ∀ f, av_cnt μ f ≤ av_cnt μ' f) (ha : ∀ f i, i < av_cnt μ f → ad' f i = ad f i) (hst : ∀ v ∈ st', av_live μ' v) (hL : ∀ q ∈ L, B0 ≤ q.base) (hm1 : μ.1.1 ≤ μ'.1.1) (hm2 : μ.1.2 ≤ μ'.1.2) :
    av_I D tA B0 n0 ad0 c0 s0 y ad' ls st' μ' H' (locs ++ L) (cells + (μ'.1.1 - μ.1.1)) (slots + (μ'.1.2 - μ.1.2)) Lc := by
  obtain ⟨-, h2, -, h4, h5, h6, h7, h8⟩ := I
  refine ⟨hW, ⟨h2.1, h2.2.1, h2.2.2.1, fun i v hv => ?_⟩, hst, fun q hq => ?_, by omega, by omega, fun f => Nat.le_trans (h7 f) (hn f), fun f i hi => ?_⟩
  · obtain ⟨g1, g2, g3⟩ := h2.2.2.2 i v hv
    exact ⟨by rw [g1, av_vm_ext ha g2], av_live_ext hn g2, g3⟩
  · rcases List.mem_append.mp hq with hq | hq
    · exact h4 q hq
    · exact hL q hq
  · rw [ha f i (Nat.lt_of_lt_of_le hi (h7 f))]
    exact h8 f i hi
theorem st_call {SS : State} {A : Array Value} (X : av_X D tA p R s m args meth c y) (hB : av_B D tA B0 SS A) (hPs : av_P SS s) (hBs : B0 ≤ s.heap.size) {z : Nat} {as rest st : List av_V} {o : av_O} {μ' : av_M} (hz : z < 169) (hM : av_Met D tA B0 SS l z as μ o μ') (hm1 : μ.1.1 ≤ μ'.1.1) (hm2 : μ.1.2 ≤ μ'.1.2) (hb1 : μ'.1.1 ≤ c0 + R.cells) (hb2 : μ'.1.2 ≤ s0 + R.slots)
    (hfr : tl_fr z + 1 ≤ tl_fr y) (hlo : 8 + (tl_max z + 11) + tl_lo z ≤ tl_lo y) (hw : av_wt rest ≤ 8) {ig : Instr} (hd : tl_ins y pc = some ig) (hi3 : tl_ilen ig = 3) (hsw : tl_isw ig = false) (hs1 : ∀ v ∈ as, v ∈ st) (hs2 : ∀ v ∈ rest, v ∈ st)
    (hlk : ∀ (ad : Nat → Nat → Nat) (H : Heap) (locs : List Loc) (cells slots : Nat) (Lc : Array Slot), av_I D tA B0 n0 ad0 c0 s0 y ad ls st μ H locs cells slots Lc → ∀ T : State, T.heap = H → Stand p l e R s m args below meth c T locs cells slots → av_Lk p l e R s m args below meth c T locs cells slots z (F0 m pc Lc (st.map (av_vm ad))) (rest.map (av_vm ad)) (as.map (av_vm ad)))
    (hret : ∀ v, o = .inl v → av_KK D tA B0 n0 ad0 c0 s0 y p l e R s m args below meth c Q (pc + 3) ls (v.toList ++ rest) μ')
    (hthr : ∀ x, o = .inr x → (tl_hh y = [] ∧ Q = av_Q D tA B0 n0 ad0 c0 s0 (.inr x) μ' below s) ∨ ((∀ h ∈ tl_hh y, ∃ ci, tl_newq (tl_own y) h.2.2.2 = some ci ∧ 9 ≤ ci ∧ ci < 14 ∧ h.2.2.2 ≠ 0) ∧ ∃ h, av_hdl (tl_hh y) (tl_own y) pc (av_kd x.1) = some h ∧ av_KK D tA B0 n0 ad0 c0 s0 y p l e R s m args below meth c Q h ls [.inr (.inr (some x))] μ')) :
    av_KK D tA B0 n0 ad0 c0 s0 y p l e R s m args below meth c Q pc ls st μ := by
  intro ad H locs cells slots Lc I T hT XT
  obtain ⟨hx, hb, hml, hown, hts, hlk0, hrt, hex, hnm, hfrR, hloR, hK⟩ := X
  obtain ⟨mk, vm₁, hn, X₁, hstep⟩ := hlk ad H locs cells slots Lc I T hT XT
  have hcs : c0 + cells = μ.1.1 := I.2.2.2.2.1
  have hss : s0 + slots = μ.1.2 := I.2.2.2.2.2.1
  have hSB : B0 = SS.heap.size := hB.2.2.1
  have hU : av_P SS (T.setVm vm₁) := ⟨State.WarmedH.trans hPs.1 X₁.warmed, fun q hq => by
    rw [av_agree X₁ I.2.2.2.1 hBs q (by rw [hSB]; exact hq)]
    exact hPs.2 q hq⟩
  have hWd : av_W D tA B0 ad μ (T.setVm vm₁).heap := by
    show av_W D tA B0 ad μ T.heap
    rw [hT]; exact I.1
  have hdec := tl_dec hd hsw
  rw [hi3] at hdec
  obtain ⟨oc, U', L, X', hL, hQ, hsteps⟩ := av_back X₁ hB hz hM (fun v hv => I.2.2.1 v (hs1 v hv)) hWd hU (g := F0 m pc Lc (rest.map (av_vm ad))) rfl (by rw [hml]; exact I.2.1.1) (ig := ig) (by rw [hb]; exact hdec) (by show 2 * 0 + _ ≤ 8; rw [av_wt_ok]; omega) (X₁.named hn) (by omega) (by omega) (by omega) (by omega)
  obtain ⟨ad', hW', ho, hn', ha'⟩ := hQ
  have hrest : rest.map (av_vm ad') = rest.map (av_vm ad) := List.map_congr_left (fun v hv => av_vm_ext ha' (I.2.2.1 v (hs2 v hv)))
  have hlrest : ∀ v ∈ rest, av_live μ' v := fun v hv => av_live_ext hn' (I.2.2.1 v (hs2 v hv))
  cases o with
  | inl v =>
    cases v with
    | none =>
      have ho' : oc = .returned none := ho
      subst ho'
      obtain ⟨t, a1, b1⟩ := hret none rfl ad' U'.heap (locs ++ L) _ _ Lc (I.ret hW' hn' ha' (by simpa using hlrest) hL hm1 hm2) U' rfl X'
      rw [show (Option.none : Option av_V).toList ++ rest = rest from rfl, hrest] at a1
      exact ⟨t, hstep t (fun acts => by rw [doInvoke_state]; exact hsteps.trans a1), b1⟩
    | some v =>
      obtain ⟨ho', hlv⟩ : oc = .returned (some (av_vm ad' v)) ∧ av_live μ' v := ho
      subst ho'
      obtain ⟨t, a1, b1⟩ := hret (some v) rfl ad' U'.heap (locs ++ L) _ _ Lc (I.ret hW' hn' ha' (av_mc hlv hlrest) hL hm1 hm2) U' rfl X'
      rw [show (some v : Option av_V).toList ++ rest = v :: rest from rfl, List.map_cons, hrest] at a1
      exact ⟨t, hstep t (fun acts => by rw [doInvoke_state]; exact hsteps.trans a1), b1⟩
  | inr x =>
    obtain ⟨ho', hlv, h9, h14⟩ : oc = .threw (ad' x.1 x.2) ∧ x.2 < av_cnt μ' x.1 ∧ 9 ≤ av_kd x.1 ∧ av_kd x.1 < 14 := ho
    subst ho'
    rcases hthr x rfl with ⟨hh, hQe⟩ | ⟨hall, h, hdl, K⟩
    · subst hQe
      obtain ⟨k1, k2, k3, k4, k5⟩ := X'.leaveThrown (ad' x.1 x.2) (g := F0 m pc Lc (rest.map (av_vm ad))) rfl rfl rfl (fun z hz' => by rw [hex, hh] at hz'; cases hz') hlk0
      refine ⟨_, hstep _ (fun acts => by rw [doInvoke_state]; exact hsteps.trans k1), .threw (ad' x.1 x.2), k2, k3, ⟨ad', hW', ⟨rfl, hlv, h9, h14⟩, fun f => Nat.le_trans (I.2.2.2.2.2.2.1 f) (hn' f), fun f i hi => ?_⟩, k4, locs ++ L, ?_, fun q hq => ?_⟩
      · rw [ha' f i (Nat.lt_of_lt_of_le hi (I.2.2.2.2.2.2.1 f))]
        exact I.2.2.2.2.2.2.2 f i hi
      · rw [show μ'.1.1 - c0 = cells + (μ'.1.1 - μ.1.1) by omega, show μ'.1.2 - s0 = slots + (μ'.1.2 - μ.1.2) by omega]
        exact k5
      · rcases List.mem_append.mp hq with hq | hq
        · exact I.2.2.2.1 q hq
        · exact hL q hq
    · obtain ⟨cell, e1, e2, e3⟩ := (hW'.1 x.1 x.2 hlv).2.1 h9 h14
      obtain ⟨vm', X2, hstep2⟩ := av_catch X' hown hts hK (hB.na hPs) h9 h14 e2 e3 e1 hex hall (g := F0 m pc Lc (rest.map (av_vm ad))) rfl hdl
      obtain ⟨t, a1, b1⟩ := K ad' U'.heap (locs ++ L) _ _ Lc (I.ret hW' hn' ha' (av_mc hlv (fun _ hz' => by cases hz')) hL hm1 hm2) (U'.setVm vm') rfl X2
      exact ⟨t, hstep t (fun acts => by rw [doInvoke_state]; exact hsteps.trans (hstep2 t a1)), b1⟩
end Steps18
