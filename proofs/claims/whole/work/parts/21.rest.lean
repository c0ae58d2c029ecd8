/-! where an exception is thrown; Object(), Math.max, Math.min, an int constant -/
def av_XF (y pc : Nat) : Prop := ∃ (idx i2 i3 ci ix : Nat) (text : String) (bytes : ByteArray), tl_ins y pc = some (.new idx) ∧ tl_newq (tl_own y) idx = some ci ∧ 9 ≤ ci ∧ ci < 14 ∧ tl_ins y (pc + 3) = some .dup ∧ tl_ins y (pc + 4) = some (.ldc_w i2) ∧ tl_ins y (pc + 7) = some (.invokespecial i3) ∧ tl_ins y (pc + 10) = some .athrow ∧
  Cond.stringRef (tl_cn.getD (tl_own y) "") i2 text ∈ lw_tbl ∧ Cond.instantiable (tl_cn.getD ci "") 6 ∈ lw_tbl ∧ Cond.initialized (tl_cn.getD ci "") ∈ lw_tbl ∧ Bundle.fit (tl_cn.getD ci "") = true ∧
  (decode bytes 0 = .ok (.aload_n 0, 1) ∧ decode bytes 1 = .ok (.aload_n 1, 1) ∧ decode bytes 2 = .ok (.invokespecial ix, 3) ∧ decode bytes 5 = .ok (.return_, 1)) ∧ 6 ≤ tl_fr y ∧ 82 ≤ tl_lo y ∧
  ∀ (args : Array Value) (s : State), (∀ w ∈ lw_tbl, w.before args s = true) → av_e1.before args s = true → av_e2.before args s = true → ∀ w ∈ av_xa (tl_cn.getD (tl_own y) "") i3 (tl_cn.getD ci "") ix bytes, w.before args s = true
theorem av_XF0 : av_XF 53 4 := ⟨328, 330, 332, 9, 7, "no such one, or a number is not as said", prog_12_method_2_code, by decide +kernel, by decide +kernel, by decide, by decide, by decide +kernel, by decide +kernel, by decide +kernel, by decide +kernel, tl_at (i := 403) (by decide +kernel), tl_at (i := 361) (by decide +kernel), tl_at (tl_ini_ok 9 (by decide)), by decide +kernel, ⟨by decide +kernel, by decide +kernel, by decide +kernel, by decide +kernel⟩, by decide +kernel, by decide +kernel, fun args s hts h1 h2 => av_wd_ok hts h1 h2 tl_xa0 (by decide +kernel)⟩
theorem av_XF1 : av_XF 54 4 := ⟨335, 337, 339, 10, 7, "not up or down, or not in the state, that is asked for", prog_13_method_2_code, by decide +kernel, by decide +kernel, by decide, by decide, by decide +kernel, by decide +kernel, by decide +kernel, by decide +kernel, tl_at (i := 442) (by decide +kernel), tl_at (i := 434) (by decide +kernel), tl_at (tl_ini_ok 10 (by decide)), by decide +kernel, ⟨by decide +kernel, by decide +kernel, by decide +kernel, by decide +kernel⟩, by decide +kernel, by decide +kernel, fun args s hts h1 h2 => av_wd_ok hts h1 h2 tl_xa1 (by decide +kernel)⟩
theorem av_XF2 : av_XF 63 18 := ⟨353, 355, 357, 11, 7, "the broker is fenced off", prog_20_method_2_code, by decide +kernel, by decide +kernel, by decide, by decide, by decide +kernel, by decide +kernel, by decide +kernel, by decide +kernel, tl_at (i := 545) (by decide +kernel), tl_at (i := 537) (by decide +kernel), tl_at (tl_ini_ok 11 (by decide)), by decide +kernel, ⟨by decide +kernel, by decide +kernel, by decide +kernel, by decide +kernel⟩, by decide +kernel, by decide +kernel, fun args s hts h1 h2 => av_wd_ok hts h1 h2 tl_xa2 (by decide +kernel)⟩
theorem av_XF3 : av_XF 65 18 := ⟨353, 358, 357, 11, 7, "the broker is outdated", prog_20_method_2_code, by decide +kernel, by decide +kernel, by decide, by decide, by decide +kernel, by decide +kernel, by decide +kernel, by decide +kernel, tl_at (i := 564) (by decide +kernel), tl_at (i := 537) (by decide +kernel), tl_at (tl_ini_ok 11 (by decide)), by decide +kernel, ⟨by decide +kernel, by decide +kernel, by decide +kernel, by decide +kernel⟩, by decide +kernel, by decide +kernel, fun args s hts h1 h2 => av_wd_ok hts h1 h2 tl_xa3 (by decide +kernel)⟩
theorem av_XF4 : av_XF 74 4 := ⟨340, 342, 344, 12, 7, "there is no room", prog_14_method_2_code, by decide +kernel, by decide +kernel, by decide, by decide, by decide +kernel, by decide +kernel, by decide +kernel, by decide +kernel, tl_at (i := 624) (by decide +kernel), tl_at (i := 616) (by decide +kernel), tl_at (tl_ini_ok 12 (by decide)), by decide +kernel, ⟨by decide +kernel, by decide +kernel, by decide +kernel, by decide +kernel⟩, by decide +kernel, by decide +kernel, fun args s hts h1 h2 => av_wd_ok hts h1 h2 tl_xa4 (by decide +kernel)⟩
theorem av_XF5 : av_XF 86 4 := ⟨345, 347, 349, 13, 13, "there is no such position or consumer", prog_22_method_4_code, by decide +kernel, by decide +kernel, by decide, by decide, by decide +kernel, by decide +kernel, by decide +kernel, by decide +kernel, tl_at (i := 733) (by decide +kernel), tl_at (i := 725) (by decide +kernel), tl_at (tl_ini_ok 13 (by decide)), by decide +kernel, ⟨by decide +kernel, by decide +kernel, by decide +kernel, by decide +kernel⟩, by decide +kernel, by decide +kernel, fun args s hts h1 h2 => av_wd_ok hts h1 h2 tl_xa5 (by decide +kernel)⟩
theorem av_push_set {α : Type} (H : Array α) (a b : α) : (H.push a).setIfInBounds H.size b = H.push b := by
  apply Array.ext_getElem?
  intro i
  rw [Array.getElem?_setIfInBounds, Array.getElem?_push, Array.getElem?_push, Array.size_push]
  by_cases e : i = H.size
  · subst e; simp
  · rw [if_neg (Ne.symm e), if_neg e, if_neg e]
theorem av_XF_of {y pc : Nat} (h : tl_exnq y pc = true) : av_XF y pc := by
  unfold tl_exnq at h
  obtain ⟨q, hq⟩ := Option.isSome_iff_exists.mp h
  have h3 := List.find?_some hq
  simp only [Bool.and_eq_true, beq_iff_eq] at h3
  have hm := List.mem_of_find?_eq_some hq
  rw [← h3.1, ← h3.2]
  unfold tl_exns at hm
  simp only [List.mem_cons, List.not_mem_nil, or_false] at hm
  rcases hm with rfl | rfl | rfl | rfl | rfl | rfl
  · exact av_XF0
  · exact av_XF1
  · exact av_XF2
  · exact av_XF3
  · exact av_XF4
  · exact av_XF5
def av_noN : Cond → Bool
  | .methodLinkNest _ _ x _ => x.cls != "java/lang/Object" && x.cls != "java/lang/Math"
  | _ => true
set_option maxRecDepth 40000 in
theorem av_noN_tab : tables_1.all av_noN = true := by decide +kernel
theorem av_noN_ok : ∀ w ∈ lw_tbl, av_noN w = true := by
  intro w hw
  rcases List.mem_append.mp hw with h | h
  · obtain ⟨q, -, rfl⟩ := List.mem_map.mp h
    rfl
  · exact List.all_eq_true.mp av_noN_tab w h
section Steps21
variable {D : va_G} {tA : Nat → ClassId} {B0 : Nat} {n0 : Nat → Nat} {ad0 : Nat → Nat → Nat} {c0 s0 y : Nat} {p : Program} {l : Launch} {e : Env} {R : Room} {s : State} {m : MethodId} {args : Array Value} {below : List Frame} {meth : Method} {c : Code} {Q : State → Prop} {pc : Nat} {ls : List (Option av_V)} {r : List av_V} {μ : av_M}
theorem st_ldcI (X : av_X D tA p R s m args meth c y) {idx : Nat} {v : Int32} (h : tl_ins y pc = some (.ldc_w idx)) (hc : tl_cstq (tl_own y) idx = some v) (K : av_KK D tA B0 n0 ad0 c0 s0 y p l e R s m args below meth c Q (pc + 3) ls (.inl v :: r) μ) : av_KK D tA B0 n0 ad0 c0 s0 y p l e R s m args below meth c Q pc ls r μ := by
  intro ad H locs cells slots Lc I
  exact lv_ldcw X.1 X.2.1 X.2.2.2.1 (X.2.2.2.2.1 _ (tl_cstq_ok hc)) (tl_dec h rfl) (K ad H locs cells slots Lc (I.st (av_mc trivial I.2.2.1)))
theorem st_oinit (X : av_X D tA p R s m args meth c y) {idx n : Nat} (h : tl_ins y pc = some (.invokespecial idx)) (hq : tl_invq (tl_own y) idx = some (1000, n)) {q : Nat × Nat} (hw : av_wt r ≤ 8) (hf : 1 ≤ tl_fr y) (hl : 20 ≤ tl_lo y) (K : av_KK D tA B0 n0 ad0 c0 s0 y p l e R s m args below meth c Q (pc + 3) ls r μ) : av_KK D tA B0 n0 ad0 c0 s0 y p l e R s m args below meth c Q pc ls (.inr (.inr (some q)) :: r) μ := by
  intro ad H locs cells slots Lc I
  obtain ⟨hx, hb, hml, hown, hts, hlk, hrt, hex, hnm, hfr, hlo, hK⟩ := X
  have hlink : (Cond.methodLink (tl_cn.getD (tl_own y) "") idx objectInit).before args s = true := by
    rcases (tl_invq_ok hq).1 with h1 | h1
    · exact hts _ h1
    · exact absurd h1 (by
        intro h3
        have h4 := av_noN_ok _ h3
        simp [av_noN, tl_nmz] at h4
        exact h4.1 rfl)
  refine W.objInit hx hb hown hlink (hts _ tl_oi1) (hts _ tl_oi2) rfl (by rw [hml]; exact I.2.1.1) rfl (tl_dec h rfl) (by omega) (by show 2 * 0 + _ + 12 ≤ _; rw [av_wt_ok]; omega) (K ad H locs cells slots Lc (I.st (av_ml I.2.2.1).2))
theorem st_max (X : av_X D tA p R s m args meth c y) {idx n : Nat} (h : tl_ins y pc = some (.invokestatic idx)) (hq : tl_invq (tl_own y) idx = some (1001, n)) {a b : Int32} (hw : av_wt r ≤ 8) (hf : 1 ≤ tl_fr y) (hl : 21 ≤ tl_lo y) (hb1 : μ.1.1 ≤ c0 + R.cells) (hb2 : μ.1.2 ≤ s0 + R.slots) (K : av_KK D tA B0 n0 ad0 c0 s0 y p l e R s m args below meth c Q (pc + 3) ls (.inl (if a < b then b else a) :: r) μ) : av_KK D tA B0 n0 ad0 c0 s0 y p l e R s m args below meth c Q pc ls (.inl b :: .inl a :: r) μ := by
  intro ad H locs cells slots Lc I
  obtain ⟨hx, hb, hml, hown, hts, hlk, hrt, hex, hnm, hfr, hlo, hK⟩ := X
  have hlink : (Cond.methodLink (tl_cn.getD (tl_own y) "") idx Lib.Math.max.name).before args s = true := by
    rcases (tl_invq_ok hq).1 with h1 | h1
    · exact hts _ h1
    · exact absurd h1 (by
        intro h3
        have h4 := av_noN_ok _ h3
        simp [av_noN, tl_nmz] at h4
        exact h4.2 rfl)
  have hcs : c0 + cells = μ.1.1 := I.2.2.2.2.1
  have hss : s0 + slots = μ.1.2 := I.2.2.2.2.2.1
  exact va_mmax hx hb (by rw [hml]; exact I.2.1.1.symm) hown hlink (hts _ tl_mmax1) (hts _ tl_mini) (hts _ tl_mmax2) (by omega) (by rw [av_wt_ok]; omega) (by omega) (by omega) (tl_dec h rfl) (K ad H locs cells slots Lc (I.st (av_mc trivial (av_ml (av_ml I.2.2.1).2).2)))
theorem st_min (X : av_X D tA p R s m args meth c y) {idx n : Nat} (h : tl_ins y pc = some (.invokestatic idx)) (hq : tl_invq (tl_own y) idx = some (1002, n)) {a b : Int32} (hw : av_wt r ≤ 8) (hf : 1 ≤ tl_fr y) (hl : 21 ≤ tl_lo y) (hb1 : μ.1.1 ≤ c0 + R.cells) (hb2 : μ.1.2 ≤ s0 + R.slots) (K : av_KK D tA B0 n0 ad0 c0 s0 y p l e R s m args below meth c Q (pc + 3) ls (.inl (if b < a then b else a) :: r) μ) : av_KK D tA B0 n0 ad0 c0 s0 y p l e R s m args below meth c Q pc ls (.inl b :: .inl a :: r) μ := by
  intro ad H locs cells slots Lc I
  obtain ⟨hx, hb, hml, hown, hts, hlk, hrt, hex, hnm, hfr, hlo, hK⟩ := X
  have hlink : (Cond.methodLink (tl_cn.getD (tl_own y) "") idx Lib.Math.min.name).before args s = true := by
    rcases (tl_invq_ok hq).1 with h1 | h1
    · exact hts _ h1
    · exact absurd h1 (by
        intro h3
        have h4 := av_noN_ok _ h3
        simp [av_noN, tl_nmz] at h4
        exact h4.2 rfl)
  have hcs : c0 + cells = μ.1.1 := I.2.2.2.2.1
  have hss : s0 + slots = μ.1.2 := I.2.2.2.2.2.1
  exact va_mmin hx hb (by rw [hml]; exact I.2.1.1.symm) hown hlink (hts _ tl_mmin1) (hts _ tl_mini) (hts _ tl_mmin2) (by omega) (by rw [av_wt_ok]; omega) (by omega) (by omega) (tl_dec h rfl) (K ad H locs cells slots Lc (I.st (av_mc trivial (av_ml (av_ml I.2.2.1).2).2)))
theorem av_ldcs {cc : ByteArray} {H : Heap} {locs : List Loc} {cells slots : Nat} {Lc : Array Slot} {rest : List Value} (hexec : p.tables.exec = Jvm.exec) (hb : c.code = cc) {own text : String} {index : Nat} (hown : s.vm.findClass own = some m.cls) (hstr : (Cond.stringRef own index text).before args s = true) (hdg : decode cc pc = .ok (.ldc_w index, 3)) (k : ∀ a : Addr, W p l e R s m args below meth c H locs cells slots Q (F0 m (pc + 3) Lc (.ref a :: rest))) : W p l e R s m args below meth c H locs cells slots Q (F0 m pc Lc rest) := by
  intro T hT X
  have h2 := Cond.stringRef_warmed X.warmed hstr
  obtain ⟨k', cf, i, a, hk, hcf, hc, -, hr, -⟩ := Cond.stringRef_spec (s := s.setVm T.vm) (cur := m.cls) (by show T.vm.findClass own = some m.cls; rw [X.warmed.alike.findClass]; exact hown) h2
  obtain ⟨t, a1, b1⟩ := k a T hT X
  refine ⟨t, ?_, b1⟩
  subst hb
  jvm_step X.here [hexec, hdg, ldc_w.wp_string (s := T) (f := F0 m pc Lc rest) X.here.top hk hcf hc hr]
  exact a1
theorem st_exn {SS : State} {A : Array Value} (X : av_X D tA p R s m args meth c y) (hfl : l.stackTraces = false) (hB : av_B D tA B0 SS A) (hPs : av_P SS s) (hBs : B0 ≤ s.heap.size) (hxf : av_XF y pc) {idx ci f : Nat} (h : tl_ins y pc = some (.new idx)) (hn : tl_newq (tl_own y) idx = some ci) (hf : av_kd f = ci) (hh : tl_hh y = []) (hRc : μ.1.1 + 1 ≤ c0 + R.cells) (hRs : μ.1.2 + 6 ≤ s0 + R.slots) :
    av_KK D tA B0 n0 ad0 c0 s0 y p l e R s m args below meth c (av_Q D tA B0 n0 ad0 c0 s0 (.inr (f, av_cnt μ f)) (av_mk μ f 0 6 (fun _ => .inr (.inr none))) below s) pc ls [] μ := by
  intro ad H locs cells slots Lc I
  obtain ⟨hx, hb, hml, hown, hts, hlk, hrt, hex, hnm, hfr, hlo, hK⟩ := X
  obtain ⟨idx', i2, i3, ci', ix, text, bytes, x1, x2, x3, x4, x5, x6, x7, x8, x9, x10, x11, x12, ⟨d0, d1, d2, d5⟩, x13, x14, x15⟩ := hxf
  cases h.symm.trans x1
  cases hn.symm.trans x2
  subst hf
  have hcs : c0 + cells = μ.1.1 := I.2.2.2.2.1
  have hss : s0 + slots = μ.1.2 := I.2.2.2.2.2.1
  obtain ⟨e1, e2⟩ := hB.es (a := args) hPs
  intro T0 hT0 X0
  have hsz : s.heap.size ≤ H.size := by
    have h1 : s.heap.size ≤ T0.heap.size := X0.same.2.1
    rw [hT0] at h1
    exact h1
  have hloc : ∀ x ∈ locs, ∀ cell, s.heap[x.base]? = some cell → cell.vm.isStatics = false := by
    intro x hx' cell hc
    obtain ⟨c', k1, k2, -⟩ := X0.same.2.2.2.2.2 x.base cell hc
    have k3 : H[x.base]? = some c' := by rw [← hT0]; exact k1
    have k4 := I.1.2.2.2.2.1 x.base c' (I.2.2.2.1 x hx') k3
    rw [k2] at k4
    exact k4
  suffices hgo : W p l e R s m args below meth c H locs cells slots (av_Q D tA B0 n0 ad0 c0 s0 (.inr (f, av_cnt μ f)) (av_mk μ f 0 6 (fun _ => .inr (.inr none))) below s) (F0 m pc Lc []) from hgo T0 hT0 X0
  refine W.newc hx hb hown (hts _ (tl_newq_ok hn)) (hts _ x10) (hts _ x11) rfl (tl_dec h rfl) (by omega) (by omega) (fun cC kC g1 g2 g3 g4 => ?_)
  refine lv_dup hx hb (tl_dec x5 rfl) rfl ?_
  refine av_ldcs hx hb hown (hts _ x9) (tl_dec x6 rfl) (fun sa => ?_)
  intro T hT XT
  have hfc := hK.2.1 _ x3 x4
  have hcC : cC = D.1 (av_kd f) := Option.some.inj (g1.symm.trans hfc)
  have hlast : T.heap[H.size]? = some (freshCell cC kC) := by
    rw [hT, Array.getElem?_push, if_pos rfl]
  obtain ⟨U, ce, L, y1, y2, y3, y4, y5, y6, y7, y8, y9⟩ := av_throw XT hx (by rw [XT.admits.platform]; exact hfl) hown x12 d0 d1 d2 d5 (x15 args s hts e1 e2) hloc g1 g2 hlast hsz (msg := .ref sa) rfl (g := F0 m (pc + 3 + 1 + 3) Lc [.ref sa, .ref H.size, .ref H.size]) rfl (by rw [hml]; exact I.2.1.1) rfl rfl rfl (by rw [hb]; exact tl_dec x7 rfl) (by rw [hb]; exact tl_dec x8 rfl) (fun x hx' => by rw [hex, hh] at hx'; cases hx') (by omega) (by show 2 * 0 + 1 + 81 ≤ _; omega) hlk
  rw [hT, av_push_set] at y7
  have hWn : av_W D tA B0 (av_up2 ad f (av_cnt μ f) H.size) (av_mk μ f 0 6 (fun _ => .inr (.inr none))) (H.push ce) := by
    refine I.1.mk y9 (fun k q z => by cases z) (by omega) ⟨fun z => by omega, fun _ _ => ?_, fun z1 z2 => by omega⟩
    rw [show av_up2 ad f (av_cnt μ f) H.size f (av_cnt μ f) = H.size from if_pos ⟨rfl, rfl⟩]
    exact ⟨ce, by rw [Array.getElem?_push, if_pos rfl], by rw [y8, hcC], by rw [y9]; rfl⟩
  have hI := I.mk (r := []) hWn (fun _ z => by cases z)
  have had : av_up2 ad f (av_cnt μ f) H.size f (av_cnt μ f) = H.size := if_pos ⟨rfl, rfl⟩
  refine ⟨U, y1, .threw H.size, y2, y3, ⟨_, by rw [y7]; exact hWn, ⟨by rw [had], ?_, x3, x4⟩, hI.2.2.2.2.2.2.1, hI.2.2.2.2.2.2.2⟩, y4, locs ++ L, ?_, fun q hq => ?_⟩
  · show av_cnt μ f < av_cnt (av_mk μ f 0 6 (fun _ => .inr (.inr none))) f
    rw [av_cnt_mk, if_pos rfl]; omega
  · rw [show (av_mk μ f 0 6 (fun _ => .inr (.inr none))).1.1 - c0 = cells + 1 by show μ.1.1 + 1 - c0 = _; omega, show (av_mk μ f 0 6 (fun _ => .inr (.inr none))).1.2 - s0 = slots + 6 by show μ.1.2 + 6 - s0 = _; omega]
    exact y5
  · rcases List.mem_append.mp hq with hq | hq
    · exact I.2.2.2.1 q hq
    · rw [y6 q hq]; exact I.1.2.2.2.2.2.1
end Steps21
