/-! the claim out of a run from any start memory that holds the script alone -/
def av_s0 (L : Nat) (xs : Nat → Int32) (μ : av_M) : Prop := μ.1 = (0, 0) ∧ (∀ f, av_cnt μ f = if f = 0 then 1 else 0) ∧ av_len μ 0 0 = L ∧ ∀ k, av_val μ 0 0 k = .inl (xs k)
def av_goal2 : Prop := ∀ (L : Nat) (xs : Nat → Int32), L ≤ 3076 → ∃ μ0 μ' : av_M, av_s0 L xs μ0 ∧ av_cal 169 [.inr (.inr (some (0, 0)))] μ0 = some (.inl (some (.inl 1)), μ') ∧ μ'.1.1 ≤ 601024 ∧ μ'.1.2 ≤ 7293000
theorem av_W02 {D : va_G} {tA : Nat → ClassId} {s : State} {b L : Nat} {xs : Nat → Int32} {scr : Cell} {μ0 : av_M} (h0 : av_s0 L xs μ0) (hL : L ≤ 3076) (hb : b < s.heap.size) (x1 : s.heap[b]? = some scr) (x2 : s.isArrayOf scr .int) (x3 : scr.vm ≠ .unknown) (x4 : scr.slots.size = L) (x5 : ∀ j : Nat, j < L → scr.slots[j]? = some (.int (xs j))) (ht : tA 19 = scr.cls) : av_W D tA s.heap.size (fun _ _ => b) μ0 s.heap := by
  have hcnt : ∀ f i, i < av_cnt μ0 f → f = 0 ∧ i = 0 := by
    intro f i h
    rw [h0.2.1] at h
    split at h <;> omega
  refine ⟨fun f i h => ?_, fun f i f' i' h h' _ => ?_, fun f i h => ⟨hb, fun hk => ?_⟩, fun f i k h => by
    obtain ⟨rfl, rfl⟩ := hcnt f i h
    rw [h0.2.2.2]
    trivial, fun q cell hq hc => ?_, Nat.le_refl _, fun f i h => ?_⟩
  · obtain ⟨rfl, rfl⟩ := hcnt f i h
    refine ⟨fun h => absurd h (by decide), fun _ h => absurd h (by decide), fun _ _ => ⟨scr, x1, ht.symm, x3, ?_, by rw [h0.2.2.1]; exact x4, fun j hj => by
      rw [h0.2.2.1] at hj
      dsimp only
      rw [h0.2.2.2]
      exact x5 j hj⟩⟩
    cases hv : scr.vm with
    | statics k => exact absurd hv (x2.1 k)
    | _ => rfl
  · obtain ⟨rfl, rfl⟩ := hcnt f i h
    obtain ⟨rfl, rfl⟩ := hcnt f' i' h'
    exact ⟨rfl, rfl⟩
  · obtain ⟨rfl, rfl⟩ := hcnt f i h
    exact absurd rfl hk
  · have := (Array.getElem?_eq_some_iff.mp hc).1
    omega
  · obtain ⟨rfl, rfl⟩ := hcnt f i h
    rw [h0.2.2.1]
    omega
theorem whole_entry2 (hG : av_goal2) {p : Program} {e : Env} {s : State} {m : MethodId} {below : List Frame} {meth : Method} {c : Code} {l : Launch} {b L : Nat} {xs : Nat → Int32} (hfl : l.stackTraces = false) (hL : L ≤ 3076) (C0 : lw_At p s m meth c b L xs) (hex : c.exceptionTable.toList = []) (hnm : meth.name = x.name) : W p l e room_1 s m #[Value.ref b] below meth c s.heap [] 0 0 (lw_Z below #[Value.ref b] s) (entryFrame m ([Value.ref b] : List Value).toArray 7) := by
  obtain ⟨hexec, hcode, hret, hml, hown, hts, hX, hb, hlocks, hgv⟩ := C0
  obtain ⟨scr, x1, x2, x3, x4, x5⟩ := hX
  have hnc := av_ncs hgv
  have hexc : ∀ ci, 9 ≤ ci → ci < 14 → ∃ c, s.vm.findClass (tl_cn.getD ci "") = some c := fun ci h1 h2 => by
    by_cases h : ci = 9
    · obtain ⟨c, t, q1, -⟩ := av_ncast (hnc ci 10 h1 h2 (by decide) (by decide) (by omega))
      exact ⟨c, q1⟩
    · obtain ⟨c, t, q1, -⟩ := av_ncast (hnc ci 9 h1 h2 (by decide) (by decide) h)
      exact ⟨c, q1⟩
  obtain ⟨D, hD1, hD2⟩ := av_start_D hts hexc
  obtain ⟨tA, ht19, htA⟩ := av_start_tA hts hD1 x2
  obtain ⟨k1, k2, k3, k4, k5, k6, k7, k8, k9⟩ := av_law_at
  have hK : av_K D tA s := by
    refine ⟨⟨fun ci q hq => ?_, fun k q hq => by cases hq⟩, hD2, htA⟩
    have h9 : ci < 9 := (List.getElem?_eq_some_iff.mp hq).1
    rw [tl_cl_at ci h9] at hq
    cases hq
    exact hD1 ci h9
  have hB : av_B D tA s.heap.size s #[Value.ref b] := by
    refine ⟨hts, hK, rfl, fun i j h1 h2 h3 h4 hne => ?_, av_es hgv⟩
    obtain ⟨c1, t1, q1, q2, q3⟩ := av_ncast (hnc i j h1 h2 h3 h4 hne)
    rw [hD2 i h1 h2] at q1
    rw [hD2 j h3 h4] at q2
    cases q1
    cases q2
    exact q3
  obtain ⟨μ0, μ', h0, hrun, hc, hsl⟩ := hG L xs hL
  obtain ⟨n, hn⟩ := av_den_iff.mp hrun
  have G := av_main hfl hB n 169 0 _ [] _ _ _ (by decide) hn
  have X : av_X D tA p room_1 s m #[Value.ref b] meth c 169 := ⟨hexec, hcode.trans (if_pos rfl).symm, hml.trans k1.symm, by rw [k5]; exact hown, hts, hlocks, hret.trans k2.symm, by rw [hex, k3]; rfl, hnm.trans k4.symm, k6, k7, hK⟩
  have KK := G.2 (av_cnt μ0) (fun _ _ => b) 0 0 p e room_1 s m #[Value.ref b] below meth c X ⟨State.WarmedH.refl _, fun _ _ => rfl⟩ (Nat.le_refl _) (by rw [k8]; omega) (by rw [k9]; omega)
  have hlv : ∀ v ∈ ([.inr (.inr (some (0, 0)))] : List av_V), av_live μ0 v := by
    intro v hv
    rw [List.mem_singleton] at hv
    subst hv
    show 0 < av_cnt μ0 0
    rw [h0.2.1]
    exact Nat.zero_lt_one
  have hE := av_L.entry (ad := fun _ _ => b) (μ := μ0) (as := [.inr (.inr (some (0, 0)))]) (n := tl_max 169) (by rw [k1]; decide) hlv rfl
  have hWW := KK (fun _ _ => b) s.heap [] 0 0 _ ⟨av_W02 h0 hL hb x1 x2 x3 x4 x5 ht19, hE, (fun v hv => by cases hv), (fun q hq => by cases hq), by rw [h0.1], by rw [h0.1], fun f => Nat.le_refl _, fun f i _ => rfl⟩
  rw [List.map_nil, k1] at hWW
  rw [lg_entry_eq]
  refine W.mono hWW (fun t ht => ?_)
  obtain ⟨oc, r1, r2, ⟨ad, w1, w2, -⟩, r3, L', r4, r5⟩ := ht
  obtain ⟨rfl, -⟩ := w2
  exact ⟨_, r1, r2, rfl, ⟨_, rfl⟩, r3, av_same_nil r4 r5 (by omega) (by omega)⟩
set_option maxHeartbeats 4000000 in
theorem lw_walk2 (hG : av_goal2) (l : Launch) (hfl : l.stackTraces = false) (b : Addr) (xs : List Int32) : MetFree l x (headSpec (Jvm.Cond.code x code maxLocals ret :: tables_1) room_1) (lw_P b xs) (fun _ _ _ _ _ => True) lw_Q := by
  refine MetFree.of_bodyS (code := code) (maxLocals := maxLocals) (ret := ret) (by decide) ?_ ?_
  · intro args s m h hn
    obtain ⟨meth, c, h1, h2, h3, h4, h5, h6, -, -⟩ := Cond.code_spec hn (atoms_spec (ws := Jvm.Cond.code x code maxLocals ret :: tables_1) h _ List.mem_cons_self)
    exact ⟨meth, c, h1, h2, h3, h4, h5, h6⟩
  · intro p e s m args below meth c s₁ B hml0 hP _
    obtain ⟨rfl, hx, hbd, hgv⟩ := hP
    obtain ⟨scr, harrAt, hlist, hof, hsmall⟩ := hx
    obtain ⟨hcb, hkn, -, -⟩ := State.arrayAt?_spec harrAt
    have hown : s.vm.findClass R_law = some m.cls := findClass_of_methodNamed B.named
    have hts0 : ∀ c ∈ (Jvm.Cond.code x code maxLocals ret :: tables_1), c.before #[Value.ref b] s = true := atoms_spec (ws := Jvm.Cond.code x code maxLocals ret :: tables_1) B.pre
    have hts : ∀ w ∈ lw_tbl, w.before #[Value.ref b] s = true := k2_hts_sels lw_privs (fun w hw => hts0 w (List.mem_cons_of_mem _ hw)) lw_privs_ok
    have hml : c.maxLocals = 7 := B.maxLocals_eq (hts0 _ List.mem_cons_self)
    have X₀ : Stand p l e room_1 s m #[Value.ref b] below meth c s₁ [] 0 0 := Stand.of_body B
    have hh0 : s₁.heap = s.heap := by rw [B.state]; rfl
    have hsz : scr.slots.size = xs.length := by rw [← Array.length_toList, hlist, List.length_map]
    have hval : ∀ j : Nat, j < xs.length → scr.slots[j]? = some (.int (xs.getD j 0)) := fun j hj => by
      rw [← Array.getElem?_toList, hlist]
      simp [hj]
    have hbl : b < s.heap.size := (Array.getElem?_eq_some_iff.mp hcb).1
    have hX : va_X b xs.length (fun j => xs.getD j 0) s s.heap := ⟨scr, hcb, hof, hkn, hsz, hval⟩
    have K : W p l e room_1 s m #[Value.ref b] below meth c s₁.heap [] 0 0 (lw_Z below #[Value.ref b] s) (entryFrame m ([Value.ref b] : List Value).toArray 7) := by
      rw [hh0]
      obtain ⟨meth', c', g1, g2, -, -, -, -, g7, -⟩ := Cond.code_spec B.named (hts0 _ List.mem_cons_self)
      cases B.method.symm.trans g1
      cases (Stand.of_body B).code.symm.trans g2
      exact whole_entry2 hG hfl hbd ⟨B.exec, B.bytes, B.returns, hml, hown, hts, hX, hbl, B.notSynchronized, hgv⟩ (by simpa using g7) (name_of_methodNamed B.named B.method).1
    obtain ⟨t, a1, o, b1, b2, b3⟩ := K s₁ rfl X₀
    exact ⟨t, o, a1, b1, b2, b3⟩
theorem lw_comes2 (hG : av_goal2) (l : Launch) (hfl : l.stackTraces = false) : Comes l x (Jvm.Cond.code x code maxLocals ret :: tables_1) room_1 (fun tb e args s => Calls_1 tb e args s ∧ rest_1 tb e args s ∧ Pre_1 tb e args s)
    (fun _ _ args s o t => lw_Q args s o t) := by
  intro p e ha hc hk s m args below hf hfit hheap happ hpre
  obtain ⟨b, xs, hP⟩ := lw_pre_spec hpre.2.2 hpre.2.1
  obtain ⟨k, o, h1, h2, h3, hQ⟩ := lw_walk2 hG l hfl b xs p e ha hc hk s m args below hf ((Spec.applies_iff_loose hf).mp happ).1 hP trivial
  exact ⟨k, o, h1, h2, h3, hQ⟩
theorem lw_limb2 (hG : av_goal2) (L : Cond) (hL : ∀ (args : Array Value) (s t : State), L.after args s (.returned (some (.int 1))) t = true) :
    ArmFor flags0 classFile x code maxLocals ret World_1 tables_1 room_1 Calls_1 rest_1 Pre_1
      (fun tb e a s o t => postC L tb e a s o t ∧ Framed s o t (fieldLocs frame_1_writes a s ++ arrayLocs frame_1_arrays a s ++ staticLocs frame_1_statics s) 601024 7293000) := by
  intro l hl0 _ _ p e ha hc hk s m args below hf hfit hheap happ hpre
  obtain ⟨k, o, h1, h2, h3, rfl, hF⟩ := lw_comes2 hG l (by rw [Launch.stackTraces, hl0]; decide +kernel) p e ha hc hk s m args below hf hfit hheap happ hpre
  exact ⟨k, _, h1, h2, h3, hL args s _, lw_frame hF⟩
theorem i_vc_of2 (hG : av_goal2) : Claimed_1_1 ∧ Claimed_1_2 := ⟨lw_limb2 hG limb_1_1 (fun args s t => by simp [limb_1_1, Cond.after, Cond.holds, Cond.value]), lw_limb2 hG limb_1_2 (fun args s t => Cond.after_iff.mpr (by
  first | (rw [show limb_1_2 = Cond.eq .result (.int 1) from rfl, Cond.eq_ints (x := 1) (y := 1) rfl rfl]; simp; done) | (simp [limb_1_2, Cond.value, Term.eval]; done)))⟩
