/-! from the machine to the claim: what holds at the law's entry makes a start of the machine; the claim out of a pure statement about the machine -/
def av_m0 (L : Nat) (xs : Nat → Int32) : av_M := ((0, 0), ((fun f => if f = 0 then 1 else 0), ((fun _ _ => L), (fun _ _ k => .inl (xs k)))))
theorem av_start_D {s : State} {a : Array Value} (hts : ∀ w ∈ lw_tbl, w.before a s = true) (hex : ∀ ci, 9 ≤ ci → ci < 14 → ∃ c, s.vm.findClass (tl_cn.getD ci "") = some c) : ∃ D : va_G, (∀ ci, ci < 9 → u_Kn s (tl_cn.getD ci "") (tl_TF ci) (tl_NF.getD ci 0) (D.1 ci) (D.2 ci)) ∧ ∀ ci, 9 ≤ ci → ci < 14 → s.vm.findClass (tl_cn.getD ci "") = some (D.1 ci) := by
  have h1 : ∀ ci : Nat, ∃ q : ClassId × (Nat → Nat), (ci < 9 → u_Kn s (tl_cn.getD ci "") (tl_TF ci) (tl_NF.getD ci 0) q.1 q.2) ∧ (9 ≤ ci → ci < 14 → s.vm.findClass (tl_cn.getD ci "") = some q.1) := by
    intro ci
    by_cases h9 : ci < 9
    · obtain ⟨cC, iS, h⟩ := u_known hts (tl_lay ci h9) (hts _ (tl_at (tl_ins_ok ci h9)))
      exact ⟨(cC, iS), fun _ => h, fun h' => absurd h9 (by omega)⟩
    · by_cases h14 : ci < 14
      · obtain ⟨c, hc⟩ := hex ci (by omega) h14
        exact ⟨(c, fun _ => 0), fun h' => absurd h' h9, fun _ _ => hc⟩
      · exact ⟨(0, fun _ => 0), fun h' => absurd h' h9, fun _ h' => absurd h' h14⟩
  obtain ⟨f, hf⟩ := Classical.axiomOfChoice h1
  exact ⟨(fun ci => (f ci).1, fun ci => (f ci).2), fun ci h => (hf ci).1 h, fun ci h h' => (hf ci).2 h h'⟩
theorem av_start_tA {s : State} {a : Array Value} {D : va_G} {scr : Cell} (hts : ∀ w ∈ lw_tbl, w.before a s = true) (hD : ∀ ci, ci < 9 → u_Kn s (tl_cn.getD ci "") (tl_TF ci) (tl_NF.getD ci 0) (D.1 ci) (D.2 ci)) (hs : s.isArrayOf scr .int) : ∃ tA : Nat → ClassId, tA 19 = scr.cls ∧ ∀ kd, (kd ∈ [19, 20, 21, 22, 30, 31, 32, 33, 36]) → ∃ (k : Class) (comp : ClassId), s.vm.classes[tA kd]? = some k ∧ k.kind = .array comp (av_kty kd) ∧ (kd ≠ 19 → s.vm.findClass ("[" ++ (av_kty kd).toString) = some (tA kd)) ∧ (30 ≤ kd → comp = D.1 (kd - 30)) := by
  have h1 : ∀ kd : Nat, ∃ t : ClassId, (kd = 19 → t = scr.cls) ∧ ((kd ∈ [19, 20, 21, 22, 30, 31, 32, 33, 36]) → ∃ (k : Class) (comp : ClassId), s.vm.classes[t]? = some k ∧ k.kind = .array comp (av_kty kd) ∧ (kd ≠ 19 → s.vm.findClass ("[" ++ (av_kty kd).toString) = some t) ∧ (30 ≤ kd → comp = D.1 (kd - 30))) := by
    intro kd
    by_cases h19 : kd = 19
    · subst h19
      obtain ⟨-, k, hk, comp, hc⟩ := hs
      exact ⟨scr.cls, fun _ => rfl, fun _ => ⟨k, comp, hk, hc, fun h => absurd rfl h, fun h => absurd h (by decide)⟩⟩
    · by_cases hm : kd ∈ [19, 20, 21, 22, 30, 31, 32, 33, 36]
      · by_cases h30 : 30 ≤ kd
        · obtain ⟨ci, rfl⟩ : ∃ ci, kd = 30 + ci := ⟨kd - 30, by omega⟩
          obtain ⟨hw, ht⟩ := tl_over ci hm
          obtain ⟨comp, c, k, q1, -, q3, q4, q5⟩ := Cond.arrayOver_spec (hts _ hw)
          have h9 : ci < 9 := by simp at hm; omega
          have hf := (hD ci h9).2.1
          rw [hf] at q1
          cases q1
          refine ⟨c, fun h => absurd h h19, fun _ => ⟨k, _, q3, by rw [ht]; exact q4, fun _ => by rw [ht]; exact q5, fun _ => ?_⟩⟩
          rw [Nat.add_sub_cancel_left]
        · have h3 : kd = 20 ∨ kd = 21 ∨ kd = 22 := by simp at hm; omega
          rcases h3 with rfl | rfl | rfl
          · obtain ⟨c, k, comp, q1, q2, q3⟩ := Cond.arrayClass_spec (hts _ tl_arr_int)
            exact ⟨c, fun h => absurd h h19, fun _ => ⟨k, comp, q2, q3, fun _ => q1, fun h => absurd h h30⟩⟩
          · obtain ⟨c, k, comp, q1, q2, q3⟩ := Cond.arrayClass_spec (hts _ tl_arr_boolean)
            exact ⟨c, fun h => absurd h h19, fun _ => ⟨k, comp, q2, q3, fun _ => q1, fun h => absurd h h30⟩⟩
          · obtain ⟨c, k, comp, q1, q2, q3⟩ := Cond.arrayClass_spec (hts _ tl_arr_long)
            exact ⟨c, fun h => absurd h h19, fun _ => ⟨k, comp, q2, q3, fun _ => q1, fun h => absurd h h30⟩⟩
      · exact ⟨0, fun h => absurd h h19, fun h => absurd h hm⟩
  obtain ⟨f, hf⟩ := Classical.axiomOfChoice h1
  exact ⟨f, (hf 19).1 rfl, fun kd h => (hf kd).2 h⟩
theorem av_ncast {C T : String} {a : Array Value} {s : State} (h : (Cond.not (.castable C T)).before a s = true) : ∃ c t, s.vm.findClass C = some c ∧ s.vm.findClass T = some t ∧ s.vm.assignable c t = false := by
  simp only [Cond.before, Cond.holds, Cond.value] at h
  cases hc : s.vm.findClass C with
  | none => simp [hc] at h
  | some c =>
    cases ht : s.vm.findClass T with
    | none => simp [hc, ht] at h
    | some t =>
      refine ⟨c, t, rfl, rfl, ?_⟩
      simp [hc, ht] at h
      exact h
set_option maxRecDepth 20000 in
theorem av_ncs {a : Array Value} {s : State} (h : (Jvm.Cond.and given_1 narrow_1).before a s = true) : ∀ i j, 9 ≤ i → i < 14 → 9 ≤ j → j < 14 → i ≠ j → (Cond.not (.castable (tl_cn.getD i "") (tl_cn.getD j ""))).before a s = true := by
  have hs := flat_of_before _ h
  have hq : ∀ i, i < 5 → ∀ j, j < 5 → i ≠ j → (Cond.not (.castable (tl_cn.getD (9 + i) "") (tl_cn.getD (9 + j) ""))) ∈ flatC (Jvm.Cond.and given_1 narrow_1) := by decide +kernel
  intro i j h1 h2 h3 h4 hne
  have := hs _ (hq (i - 9) (by omega) (j - 9) (by omega) (by omega))
  rwa [show 9 + (i - 9) = i by omega, show 9 + (j - 9) = j by omega] at this
def R_law : String := "TopicLedgersLaw"
def lw_P (b : Addr) (xs : List Int32) (args : Array Value) (s : State) : Prop := args = #[.ref b] ∧ s.IntsAt b xs ∧ xs.length ≤ 3076 ∧ (Jvm.Cond.and given_1 narrow_1).before args s = true
def lw_Q (_ : Array Value) (s : State) (o : Outcome) (t : State) : Prop := o = .returned (some (.int 1)) ∧ Framed s o t [] 601024 7293000
def lw_Z (below : List Frame) (a : Array Value) (s : State) : State → Prop := fun t => ∃ o, t.status = .running ∧ Ended t below o ∧ lw_Q a s o t
def lw_At (p : Program) (s : State) (m : MethodId) (meth : Method) (c : Code) (b L : Nat) (xs : Nat → Int32) : Prop :=
  p.tables.exec = Jvm.exec ∧ c.code = code ∧ meth.sig.returnType = ret ∧ c.maxLocals = 7 ∧ s.vm.findClass R_law = some m.cls ∧ (∀ w ∈ lw_tbl, w.before #[Value.ref b] s = true) ∧ va_X b L xs s s.heap ∧ b < s.heap.size ∧ meth.locks = false ∧ (Jvm.Cond.and given_1 narrow_1).before #[Value.ref b] s = true
def av_goal : Prop := ∀ (L : Nat) (xs : Nat → Int32), L ≤ 3076 → ∃ μ' : av_M, av_cal 169 [.inr (.inr (some (0, 0)))] (av_m0 L xs) = some (.inl (some (.inl 1)), μ') ∧ μ'.1.1 ≤ 601024 ∧ μ'.1.2 ≤ 7293000
theorem av_same_nil {s t : State} {L : List Loc} {k n k' n' : Nat} (h : s.sameButNew t L k n) (hl : ∀ q ∈ L, s.heap.size ≤ q.base) (hk : k ≤ k') (hn : n ≤ n') : s.sameButNew t [] k' n' := by
  obtain ⟨h1, h2, h3, h4, h5, h6⟩ := h
  refine ⟨h1, h2, by omega, h4, by omega, fun a c hc => ?_⟩
  obtain ⟨c', q1, q2, q3, q4⟩ := h6 a c hc
  refine ⟨c', q1, q2, q3, fun i _ => q4 i (fun hm => ?_)⟩
  have h8 : s.heap.size ≤ a := hl _ hm
  have hlt := (Array.getElem?_eq_some_iff.mp hc).1
  omega
theorem av_law_at : tl_max 169 = 7 ∧ tl_ret 169 = ret ∧ tl_hh 169 = [] ∧ (tl_name 169).name = x.name ∧ tl_cn.getD (tl_own 169) "" = R_law ∧ tl_fr 169 ≤ room_1.frames ∧ tl_lo 169 ≤ room_1.locals ∧ room_1.cells = 601024 ∧ room_1.slots = 7293000 := by decide +kernel
theorem av_W0 {D : va_G} {tA : Nat → ClassId} {s : State} {b L : Nat} {xs : Nat → Int32} {scr : Cell} (hL : L ≤ 3076) (hb : b < s.heap.size) (x1 : s.heap[b]? = some scr) (x2 : s.isArrayOf scr .int) (x3 : scr.vm ≠ .unknown) (x4 : scr.slots.size = L) (x5 : ∀ j : Nat, j < L → scr.slots[j]? = some (.int (xs j))) (ht : tA 19 = scr.cls) : av_W D tA s.heap.size (fun _ _ => b) (av_m0 L xs) s.heap := by
  have hcnt : ∀ f i, i < av_cnt (av_m0 L xs) f → f = 0 ∧ i = 0 := by
    intro f i h
    have h : i < (if f = 0 then 1 else 0) := h
    split at h <;> omega
  refine ⟨fun f i h => ?_, fun f i f' i' h h' _ => ?_, fun f i h => ⟨hb, fun hk => ?_⟩, fun f i k _ => trivial, fun q cell hq hc => ?_, Nat.le_refl _, fun f i h => ?_⟩
  · obtain ⟨rfl, rfl⟩ := hcnt f i h
    refine ⟨fun h => absurd h (by decide), fun _ h => absurd h (by decide), fun _ _ => ⟨scr, x1, ht.symm, x3, ?_, x4, x5⟩⟩
    cases hv : scr.vm with
    | statics k => exact absurd hv (x2.1 k)
    | _ => rfl
  · obtain ⟨rfl, rfl⟩ := hcnt f i h
    obtain ⟨rfl, rfl⟩ := hcnt f' i' h'
    exact ⟨rfl, rfl⟩
  · obtain ⟨rfl, rfl⟩ := hcnt f i h
    exact absurd rfl hk
  · have := (Array.getElem?_eq_some_iff.mp hc).1
    omega
  · show L < 65536
    omega
set_option maxRecDepth 20000 in
theorem av_es {a : Array Value} {s : State} (h : (Jvm.Cond.and given_1 narrow_1).before a s = true) : av_e1.before a s = true ∧ av_e2.before a s = true :=
  ⟨flat_of_before _ h _ (by decide +kernel), flat_of_before _ h _ (by decide +kernel)⟩
theorem whole_entry (hG : av_goal) {p : Program} {e : Env} {s : State} {m : MethodId} {below : List Frame} {meth : Method} {c : Code} {l : Launch} {b L : Nat} {xs : Nat → Int32} (hfl : l.stackTraces = false) (hL : L ≤ 3076) (C0 : lw_At p s m meth c b L xs) (hex : c.exceptionTable.toList = []) (hnm : meth.name = x.name) : W p l e room_1 s m #[Value.ref b] below meth c s.heap [] 0 0 (lw_Z below #[Value.ref b] s) (entryFrame m ([Value.ref b] : List Value).toArray 7) := by
  obtain ⟨hexec, hcode, hret, hml, hown, hts, hX, hb, hlocks, hgv⟩ := C0
  obtain ⟨scr, x1, x2, x3, x4, x5⟩ := hX
  have hnc := av_ncs hgv
  have hexc : ∀ ci, 9 ≤ ci → ci < 14 → ∃ c, s.vm.findClass (tl_cn.getD ci "") = some c := fun ci h1 h2 => by
    by_cases h : ci = 9
    · obtain ⟨c, t, q1, -⟩ := av_ncast (hnc ci 10 h1 h2 (by decide) (by decide) (by omega))
      exact ⟨c, q1⟩
    · obtain ⟨c, t, q1, -⟩ := av_ncast (hnc ci 9 h1 h2 (by decide) (by decide) h)
      exact ⟨c, q1⟩
  obtain ⟨D, hD1, hD2⟩ := av_start_D hts hexc
  obtain ⟨tA, ht19, htA⟩ := av_start_tA hts hD1 x2
  obtain ⟨k1, k2, k3, k4, k5, k6, k7, k8, k9⟩ := av_law_at
  have hK : av_K D tA s := by
    refine ⟨⟨fun ci q hq => ?_, fun k q hq => by cases hq⟩, hD2, htA⟩
    have h9 : ci < 9 := (List.getElem?_eq_some_iff.mp hq).1
    rw [tl_cl_at ci h9] at hq
    cases hq
    exact hD1 ci h9
  have hB : av_B D tA s.heap.size s #[Value.ref b] := by
    refine ⟨hts, hK, rfl, fun i j h1 h2 h3 h4 hne => ?_, av_es hgv⟩
    obtain ⟨c1, t1, q1, q2, q3⟩ := av_ncast (hnc i j h1 h2 h3 h4 hne)
    rw [hD2 i h1 h2] at q1
    rw [hD2 j h3 h4] at q2
    cases q1
    cases q2
    exact q3
  obtain ⟨μ', hrun, hc, hsl⟩ := hG L xs hL
  obtain ⟨n, hn⟩ := av_den_iff.mp hrun
  have G := av_main hfl hB n 169 0 _ [] _ _ _ (by decide) hn
  have X : av_X D tA p room_1 s m #[Value.ref b] meth c 169 := ⟨hexec, hcode.trans (if_pos rfl).symm, hml.trans k1.symm, by rw [k5]; exact hown, hts, hlocks, hret.trans k2.symm, by rw [hex, k3]; rfl, hnm.trans k4.symm, k6, k7, hK⟩
  have KK := G.2 (av_cnt (av_m0 L xs)) (fun _ _ => b) 0 0 p e room_1 s m #[Value.ref b] below meth c X ⟨State.WarmedH.refl _, fun _ _ => rfl⟩ (Nat.le_refl _) (by rw [k8]; omega) (by rw [k9]; omega)
  have hlv : ∀ v ∈ ([.inr (.inr (some (0, 0)))] : List av_V), av_live (av_m0 L xs) v := by
    intro v hv
    rw [List.mem_singleton] at hv
    subst hv
    exact Nat.zero_lt_one
  have hE := av_L.entry (ad := fun _ _ => b) (μ := av_m0 L xs) (as := [.inr (.inr (some (0, 0)))]) (n := tl_max 169) (by rw [k1]; decide) hlv rfl
  have hWW := KK (fun _ _ => b) s.heap [] 0 0 _ ⟨av_W0 hL hb x1 x2 x3 x4 x5 ht19, hE, (fun v hv => by cases hv), (fun q hq => by cases hq), rfl, rfl, fun f => Nat.le_refl _, fun f i _ => rfl⟩
  rw [List.map_nil, k1] at hWW
  rw [lg_entry_eq]
  refine W.mono hWW (fun t ht => ?_)
  obtain ⟨oc, r1, r2, ⟨ad, w1, w2, -⟩, r3, L', r4, r5⟩ := ht
  obtain ⟨rfl, -⟩ := w2
  exact ⟨_, r1, r2, rfl, ⟨_, rfl⟩, r3, av_same_nil r4 r5 (by omega) (by omega)⟩
set_option maxHeartbeats 4000000 in
theorem lw_walk (hG : av_goal) (l : Launch) (hfl : l.stackTraces = false) (b : Addr) (xs : List Int32) : MetFree l x (headSpec (Jvm.Cond.code x code maxLocals ret :: tables_1) room_1) (lw_P b xs) (fun _ _ _ _ _ => True) lw_Q := by
  refine MetFree.of_bodyS (code := code) (maxLocals := maxLocals) (ret := ret) (by decide) ?_ ?_
  · intro args s m h hn
    obtain ⟨meth, c, h1, h2, h3, h4, h5, h6, -, -⟩ := Cond.code_spec hn (atoms_spec (ws := Jvm.Cond.code x code maxLocals ret :: tables_1) h _ List.mem_cons_self)
    exact ⟨meth, c, h1, h2, h3, h4, h5, h6⟩
  · intro p e s m args below meth c s₁ B hml0 hP _
    obtain ⟨rfl, hx, hbd, hgv⟩ := hP
    obtain ⟨scr, harrAt, hlist, hof, hsmall⟩ := hx
    obtain ⟨hcb, hkn, -, -⟩ := State.arrayAt?_spec harrAt
    have hown : s.vm.findClass R_law = some m.cls := findClass_of_methodNamed B.named
    have hts0 : ∀ c ∈ (Jvm.Cond.code x code maxLocals ret :: tables_1), c.before #[Value.ref b] s = true := atoms_spec (ws := Jvm.Cond.code x code maxLocals ret :: tables_1) B.pre
    have hts : ∀ w ∈ lw_tbl, w.before #[Value.ref b] s = true := k2_hts_sels lw_privs (fun w hw => hts0 w (List.mem_cons_of_mem _ hw)) lw_privs_ok
    have hml : c.maxLocals = 7 := B.maxLocals_eq (hts0 _ List.mem_cons_self)
    have X₀ : Stand p l e room_1 s m #[Value.ref b] below meth c s₁ [] 0 0 := Stand.of_body B
    have hh0 : s₁.heap = s.heap := by rw [B.state]; rfl
    have hsz : scr.slots.size = xs.length := by rw [← Array.length_toList, hlist, List.length_map]
    have hval : ∀ j : Nat, j < xs.length → scr.slots[j]? = some (.int (xs.getD j 0)) := fun j hj => by
      rw [← Array.getElem?_toList, hlist]
      simp [hj]
    have hbl : b < s.heap.size := (Array.getElem?_eq_some_iff.mp hcb).1
    have hX : va_X b xs.length (fun j => xs.getD j 0) s s.heap := ⟨scr, hcb, hof, hkn, hsz, hval⟩
    have K : W p l e room_1 s m #[Value.ref b] below meth c s₁.heap [] 0 0 (lw_Z below #[Value.ref b] s) (entryFrame m ([Value.ref b] : List Value).toArray 7) := by
      rw [hh0]
      obtain ⟨meth', c', g1, g2, -, -, -, -, g7, -⟩ := Cond.code_spec B.named (hts0 _ List.mem_cons_self)
      cases B.method.symm.trans g1
      cases (Stand.of_body B).code.symm.trans g2
      exact whole_entry hG hfl hbd ⟨B.exec, B.bytes, B.returns, hml, hown, hts, hX, hbl, B.notSynchronized, hgv⟩ (by simpa using g7) (name_of_methodNamed B.named B.method).1
    obtain ⟨t, a1, o, b1, b2, b3⟩ := K s₁ rfl X₀
    exact ⟨t, o, a1, b1, b2, b3⟩
theorem lw_pre_spec {args : Array Value} {s : State} (h : (Jvm.Cond.and given_1 narrow_1).before args s = true) (hr : rest_1_c.before args s = true) : ∃ (b : Addr) (xs : List Int32), lw_P b xs args s := by
  have hs := flat_of_before _ h
  have hq := flat_of_before _ hr
  have hc : (Cond.count 1).before args s = true := hs _ (by decide +kernel)
  have harr : (Cond.arrayOf (.arg 0) .int).before args s = true := hs _ (by decide +kernel)
  have hle : (Cond.le (.length (.arg 0)) (.int 3076)).before args s = true := hs _ (by decide +kernel)
  have hlen : (Cond.isInt (.length (.arg 0))).before args s = true := hq _ (by decide +kernel)
  have hall : (Cond.all (.arg 0) (.isInt (.elem (.arg 0) (.index 0)))).before args s = true := hq _ (by decide +kernel)
  obtain ⟨b, xs, hb, hx⟩ := State.ints_of_pre rfl harr hlen hall
  have hsm : xs.length < 2 ^ 31 := hx.choose_spec.2.2.2
  have hev : (Term.length (.arg 0)).eval args s none [] s = some (.int xs.length.toInt32) := hx.length_eval hb
  have hv := Cond.le_ints hev (show (Term.int 3076).eval args s none [] s = some (.int 3076) from rfl)
  have hd : xs.length.toInt32 ≤ 3076 := by
    simpa [Cond.before, Cond.holds, hv] using hle
  have hN : xs.length ≤ 3076 := (Int32.ofNat_le_ofNat hsm (by decide)).mp (show Int32.ofNat xs.length ≤ Int32.ofNat 3076 from hd)
  exact ⟨b, xs, Cond.one_arg hc (show args[0]? = some (.ref b) from hb), hx, hN, h⟩
theorem lw_comes (hG : av_goal) (l : Launch) (hfl : l.stackTraces = false) : Comes l x (Jvm.Cond.code x code maxLocals ret :: tables_1) room_1 (fun tb e args s => Calls_1 tb e args s ∧ rest_1 tb e args s ∧ Pre_1 tb e args s)
    (fun _ _ args s o t => lw_Q args s o t) := by
  intro p e ha hc hk s m args below hf hfit hheap happ hpre
  obtain ⟨b, xs, hP⟩ := lw_pre_spec hpre.2.2 hpre.2.1
  obtain ⟨k, o, h1, h2, h3, hQ⟩ := lw_walk hG l hfl b xs p e ha hc hk s m args below hf ((Spec.applies_iff_loose hf).mp happ).1 hP trivial
  exact ⟨k, o, h1, h2, h3, hQ⟩
theorem lw_frame {s t : State} {o : Outcome} {args : Array Value} (h : Framed s o t [] 601024 7293000) :
    Framed s o t (fieldLocs frame_1_writes args s ++ arrayLocs frame_1_arrays args s ++ staticLocs frame_1_statics s) 601024 7293000 := h
theorem lw_limb (hG : av_goal) (L : Cond) (hL : ∀ (args : Array Value) (s t : State), L.after args s (.returned (some (.int 1))) t = true) :
    ArmFor flags0 classFile x code maxLocals ret World_1 tables_1 room_1 Calls_1 rest_1 Pre_1
      (fun tb e a s o t => postC L tb e a s o t ∧ Framed s o t (fieldLocs frame_1_writes a s ++ arrayLocs frame_1_arrays a s ++ staticLocs frame_1_statics s) 601024 7293000) := by
  intro l hl0 _ _ p e ha hc hk s m args below hf hfit hheap happ hpre
  obtain ⟨k, o, h1, h2, h3, rfl, hF⟩ := lw_comes hG l (by rw [Launch.stackTraces, hl0]; decide +kernel) p e ha hc hk s m args below hf hfit hheap happ hpre
  exact ⟨k, _, h1, h2, h3, hL args s _, lw_frame hF⟩
theorem i_vc_of (hG : av_goal) : Claimed_1_1 ∧ Claimed_1_2 := ⟨lw_limb hG limb_1_1 (fun args s t => by simp [limb_1_1, Cond.after, Cond.holds, Cond.value]), lw_limb hG limb_1_2 (fun args s t => Cond.after_iff.mpr (by
  first | (rw [show limb_1_2 = Cond.eq .result (.int 1) from rfl, Cond.eq_ints (x := 1) (y := 1) rfl rfl]; simp; done) | (simp [limb_1_2, Cond.value, Term.eval]; done)))⟩
