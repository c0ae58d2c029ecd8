/-! THE MACHINE FOLLOWS THE ABSTRACT ONE -/
def av_Gl (l : Launch) (D : va_G) (tA : Nat → ClassId) (B0 : Nat) (SS : State) (y pc : Nat) (ls : List (Option av_V)) (st : List av_V) (μ : av_M) (o : av_O) (μ' : av_M) : Prop :=
  (μ.1.1 ≤ μ'.1.1 ∧ μ.1.2 ≤ μ'.1.2) ∧ ∀ (n0 : Nat → Nat) (ad0 : Nat → Nat → Nat) (c0 s0 : Nat) (p : Program) (e : Env) (R : Room) (s : State) (m : MethodId) (args : Array Value) (below : List Frame) (meth : Method) (c : Code), av_X D tA p R s m args meth c y → av_P SS s → B0 ≤ s.heap.size → μ'.1.1 ≤ c0 + R.cells → μ'.1.2 ≤ s0 + R.slots →
    av_KK D tA B0 n0 ad0 c0 s0 y p l e R s m args below meth c (av_Q D tA B0 n0 ad0 c0 s0 o μ' below s) pc ls st μ
def av_fin1 (n : Nat) : av_A → Option av_R
  | .inl r => r
  | .inr (.inl c1) => av_go av_act n c1
  | .inr (.inr q) => match av_go av_act n q.1 with
    | none => none
    | some r => match q.2 r with
      | .inl r1 => r1
      | .inr c2 => av_go av_act n c2
theorem av_nxt {l : Launch} {D : va_G} {tA : Nat → ClassId} {B0 : Nat} {SS : State} {y pc pc1 : Nat} {ls ls1 : List (Option av_V)} {st st1 : List av_V} {μ μ1 μ' : av_M} {o : av_O} (G : av_Gl l D tA B0 SS y pc1 ls1 st1 μ1 o μ') (hle : μ.1.1 ≤ μ1.1.1 ∧ μ.1.2 ≤ μ1.1.2)
    (S : ∀ (n0 : Nat → Nat) (ad0 : Nat → Nat → Nat) (c0 s0 : Nat) (p : Program) (e : Env) (R : Room) (s : State) (m : MethodId) (args : Array Value) (below : List Frame) (meth : Method) (c : Code) (Q : State → Prop), av_X D tA p R s m args meth c y → μ1.1.1 ≤ c0 + R.cells → μ1.1.2 ≤ s0 + R.slots → av_KK D tA B0 n0 ad0 c0 s0 y p l e R s m args below meth c Q pc1 ls1 st1 μ1 → av_KK D tA B0 n0 ad0 c0 s0 y p l e R s m args below meth c Q pc ls st μ) : av_Gl l D tA B0 SS y pc ls st μ o μ' :=
  ⟨⟨Nat.le_trans hle.1 G.1.1, Nat.le_trans hle.2 G.1.2⟩, fun n0 ad0 c0 s0 p e R s m args below meth c X hP hBs h1 h2 => S n0 ad0 c0 s0 p e R s m args below meth c _ X (Nat.le_trans G.1.1 h1) (Nat.le_trans G.1.2 h2) (G.2 n0 ad0 c0 s0 p e R s m args below meth c X hP hBs h1 h2)⟩
def tl_hhB (y : Nat) : Bool := (tl_hh y).all (fun h => (match tl_newq (tl_own y) h.2.2.2 with
  | some ci => decide (9 ≤ ci) && decide (ci < 14)
  | none => false) && decide (h.2.2.2 ≠ 0))
set_option maxRecDepth 40000 in
theorem tl_hhB_ok : ∀ y, y < 170 → tl_hhB y = true := by decide +kernel
theorem tl_hh_ok {y : Nat} (hy : y < 170) : ∀ h ∈ tl_hh y, ∃ ci, tl_newq (tl_own y) h.2.2.2 = some ci ∧ 9 ≤ ci ∧ ci < 14 ∧ h.2.2.2 ≠ 0 := by
  intro h hm
  have h1 := List.all_eq_true.mp (tl_hhB_ok y hy) h hm
  simp only [Bool.and_eq_true, decide_eq_true_eq] at h1
  obtain ⟨h2, h3⟩ := h1
  cases hq : tl_newq (tl_own y) h.2.2.2 with
  | none => rw [hq] at h2; cases h2
  | some ci =>
    rw [hq] at h2
    simp only [Bool.and_eq_true, decide_eq_true_eq] at h2
    exact ⟨ci, rfl, h2.1, h2.2, h3⟩
section Main22
variable {l : Launch} {D : va_G} {tA : Nat → ClassId} {B0 : Nat} {SS : State} {A : Array Value}
theorem av_callG (hB : av_B D tA B0 SS A) {n : Nat} (ih : ∀ (y pc : Nat) (ls : List (Option av_V)) (st : List av_V) (μ : av_M) (o : av_O) (μ' : av_M), y < 170 → av_go av_act n (y, pc, ls, st, μ) = some (o, μ') → av_Gl l D tA B0 SS y pc ls st μ o μ') {y pc z : Nat} {ls : List (Option av_V)} {st rest as : List av_V} {μ μ' : av_M} {o : av_O} (hy : y < 170) (hh : av_fin1 n (av_call y pc ls rest μ z as) = some (o, μ')) (hz : z < 169) {ig : Instr} (hd : tl_ins y pc = some ig) (hi3 : tl_ilen ig = 3) (hsw : tl_isw ig = false) (hs1 : ∀ v ∈ as, v ∈ st) (hs2 : ∀ v ∈ rest, v ∈ st)
    (hlk : ∀ (n0 : Nat → Nat) (ad0 : Nat → Nat → Nat) (c0 s0 : Nat) (p : Program) (e : Env) (R : Room) (s : State) (m : MethodId) (args : Array Value) (below : List Frame) (meth : Method) (c : Code), av_X D tA p R s m args meth c y → ∀ (ad : Nat → Nat → Nat) (H : Heap) (locs : List Loc) (cells slots : Nat) (Lc : Array Slot), av_I D tA B0 n0 ad0 c0 s0 y ad ls st μ H locs cells slots Lc → ∀ T : State, T.heap = H → Stand p l e R s m args below meth c T locs cells slots → av_Lk p l e R s m args below meth c T locs cells slots z (F0 m pc Lc (st.map (av_vm ad))) (rest.map (av_vm ad)) (as.map (av_vm ad))) : av_Gl l D tA B0 SS y pc ls st μ o μ' := by
  unfold av_call at hh
  split at hh
  · rename_i hc
    obtain ⟨hfr, hlo, hw, hl, hc1⟩ := hc
    unfold av_fin1 at hh
    dsimp only at hh
    cases hr : av_go av_act n (z, 0, as.map some ++ List.replicate (tl_max z - as.length) none, [], μ) with
    | none => rw [hr] at hh; cases hh
    | some r =>
      obtain ⟨o1, μ1⟩ := r
      rw [hr] at hh
      dsimp only at hh
      obtain ⟨hm, hK⟩ := ih z 0 _ [] μ o1 μ1 (by omega) hr
      have hM : av_Met D tA B0 SS l z as μ o1 μ1 := av_Met.of hB hz hl hc1 (fun p e R s m args below meth c ad0 X hRc hRs hP hBs => hK (av_cnt μ) ad0 μ.1.1 μ.1.2 p e R s m args below meth c X hP hBs (by omega) (by omega))
      cases o1 with
      | inl v =>
        dsimp only at hh
        have G := ih y (pc + 3) ls (v.toList ++ rest) μ1 o μ' hy hh
        refine ⟨⟨Nat.le_trans hm.1 G.1.1, Nat.le_trans hm.2 G.1.2⟩, fun n0 ad0 c0 s0 p e R s m args below meth c X hP hBs h1 h2 => ?_⟩
        exact st_call X hB hP hBs hz hM hm.1 hm.2 (Nat.le_trans G.1.1 h1) (Nat.le_trans G.1.2 h2) hfr hlo hw hd hi3 hsw hs1 hs2 (hlk n0 ad0 c0 s0 p e R s m args below meth c X) (fun v' hv => by cases hv; exact G.2 n0 ad0 c0 s0 p e R s m args below meth c X hP hBs h1 h2) (fun x hx => by cases hx)
      | inr x =>
        dsimp only at hh
        by_cases he : tl_hh y = []
        · rw [if_pos he] at hh
          cases hh
          refine ⟨hm, fun n0 ad0 c0 s0 p e R s m args below meth c X hP hBs h1 h2 => ?_⟩
          exact st_call X hB hP hBs hz hM hm.1 hm.2 h1 h2 hfr hlo hw hd hi3 hsw hs1 hs2 (hlk n0 ad0 c0 s0 p e R s m args below meth c X) (fun v' hv => by cases hv) (fun x' hx => by cases hx; exact Or.inl ⟨he, rfl⟩)
        · rw [if_neg he] at hh
          cases hq : av_hdl (tl_hh y) (tl_own y) pc (av_kd x.1) with
          | none => rw [hq] at hh; cases hh
          | some hp =>
            rw [hq] at hh
            dsimp only at hh
            have G := ih y hp ls _ μ1 o μ' hy hh
            refine ⟨⟨Nat.le_trans hm.1 G.1.1, Nat.le_trans hm.2 G.1.2⟩, fun n0 ad0 c0 s0 p e R s m args below meth c X hP hBs h1 h2 => ?_⟩
            exact st_call X hB hP hBs hz hM hm.1 hm.2 (Nat.le_trans G.1.1 h1) (Nat.le_trans G.1.2 h2) hfr hlo hw hd hi3 hsw hs1 hs2 (hlk n0 ad0 c0 s0 p e R s m args below meth c X) (fun v' hv => by cases hv) (fun x' hx => by cases hx; exact Or.inr ⟨tl_hh_ok hy, hp, hq, G.2 n0 ad0 c0 s0 p e R s m args below meth c X hP hBs h1 h2⟩)
  · cases hh
theorem av_tk {st : List av_V} {k : Nat} {q : av_V} {as : List av_V} (h : (st.take (k + 1)).reverse = q :: as) : st = as.reverse ++ q :: st.drop (k + 1) := by
  have h2 : st.take (k + 1) = as.reverse ++ [q] := by
    rw [← List.reverse_reverse (st.take (k + 1)), h, List.reverse_cons]
  have h3 := List.take_append_drop (k + 1) st
  rw [h2, List.append_assoc] at h3
  exact h3.symm
set_option maxHeartbeats 4000000 in
theorem av_main (hfl : l.stackTraces = false) (hB : av_B D tA B0 SS A) : ∀ (n y pc : Nat) (ls : List (Option av_V)) (st : List av_V) (μ : av_M) (o : av_O) (μ' : av_M), y < 170 → av_go av_act n (y, pc, ls, st, μ) = some (o, μ') → av_Gl l D tA B0 SS y pc ls st μ o μ' := by
  intro n
  induction n with
  | zero => intro y pc ls st μ o μ' _ h; cases h
  | succ n ih =>
    intro y pc ls st μ o μ' hy h
    replace h : av_fin1 n (av_act (y, pc, ls, st, μ)) = some (o, μ') := h
    unfold av_act at h
    dsimp only at h
    cases hi : tl_ins y pc with
    | none => rw [hi] at h; cases h
    | some i =>
      rw [hi] at h
      dsimp only at h
      cases i with
      | iconst k =>
        exact av_nxt (ih _ _ _ _ _ _ _ hy h) ⟨Nat.le_refl _, Nat.le_refl _⟩ (fun n0 ad0 c0 s0 p e R s m args below meth c Q X b1 b2 K => st_iconst X hi K)
      | bipush k =>
        exact av_nxt (ih _ _ _ _ _ _ _ hy h) ⟨Nat.le_refl _, Nat.le_refl _⟩ (fun n0 ad0 c0 s0 p e R s m args below meth c Q X b1 b2 K => st_bipush X hi K)
      | sipush k =>
        exact av_nxt (ih _ _ _ _ _ _ _ hy h) ⟨Nat.le_refl _, Nat.le_refl _⟩ (fun n0 ad0 c0 s0 p e R s m args below meth c Q X b1 b2 K => st_sipush X hi K)
      | ldc_w idx =>
        replace h : av_fin1 n (av_ldc y pc 3 idx ls st μ) = _ := h
        unfold av_ldc at h
        split at h
        · rename_i v hv
          exact av_nxt (ih _ _ _ _ _ _ _ hy h) ⟨Nat.le_refl _, Nat.le_refl _⟩ (fun n0 ad0 c0 s0 p e R s m args below meth c Q X b1 b2 K => st_ldcI X hi hv K)
        · cases h
      | iload k =>
        replace h : av_fin1 n (av_ldI y pc 2 k ls st μ) = _ := h
        unfold av_ldI at h
        split at h
        · rename_i v hv
          exact av_nxt (ih _ _ _ _ _ _ _ hy h) ⟨Nat.le_refl _, Nat.le_refl _⟩ (fun n0 ad0 c0 s0 p e R s m args below meth c Q X b1 b2 K => st_iload X hi hv K)
        · cases h
      | iload_n k =>
        replace h : av_fin1 n (av_ldI y pc 1 k.val ls st μ) = _ := h
        unfold av_ldI at h
        split at h
        · rename_i v hv
          exact av_nxt (ih _ _ _ _ _ _ _ hy h) ⟨Nat.le_refl _, Nat.le_refl _⟩ (fun n0 ad0 c0 s0 p e R s m args below meth c Q X b1 b2 K => st_iload_n X hi hv K)
        · cases h
      | aload k =>
        replace h : av_fin1 n (av_ldA y pc 2 k ls st μ) = _ := h
        unfold av_ldA at h
        split at h
        · rename_i v hv
          exact av_nxt (ih _ _ _ _ _ _ _ hy h) ⟨Nat.le_refl _, Nat.le_refl _⟩ (fun n0 ad0 c0 s0 p e R s m args below meth c Q X b1 b2 K => st_aload X hi hv K)
        · cases h
      | aload_n k =>
        replace h : av_fin1 n (av_ldA y pc 1 k.val ls st μ) = _ := h
        unfold av_ldA at h
        split at h
        · rename_i v hv
          exact av_nxt (ih _ _ _ _ _ _ _ hy h) ⟨Nat.le_refl _, Nat.le_refl _⟩ (fun n0 ad0 c0 s0 p e R s m args below meth c Q X b1 b2 K => st_aload_n X hi hv K)
        · cases h
      | istore k =>
        replace h : av_fin1 n (av_stI y pc 2 k ls st μ) = _ := h
        unfold av_stI at h
        split at h
        · split at h
          · rename_i hk
            exact av_nxt (ih _ _ _ _ _ _ _ hy h) ⟨Nat.le_refl _, Nat.le_refl _⟩ (fun n0 ad0 c0 s0 p e R s m args below meth c Q X b1 b2 K => st_istore X hi hk K)
          · cases h
        · cases h
      | istore_n k =>
        replace h : av_fin1 n (av_stI y pc 1 k.val ls st μ) = _ := h
        unfold av_stI at h
        split at h
        · split at h
          · rename_i hk
            exact av_nxt (ih _ _ _ _ _ _ _ hy h) ⟨Nat.le_refl _, Nat.le_refl _⟩ (fun n0 ad0 c0 s0 p e R s m args below meth c Q X b1 b2 K => st_istore_n X hi hk K)
          · cases h
        · cases h
      | astore k =>
        replace h : av_fin1 n (av_stA y pc 2 k ls st μ) = _ := h
        unfold av_stA at h
        split at h
        · split at h
          · rename_i hk
            exact av_nxt (ih _ _ _ _ _ _ _ hy h) ⟨Nat.le_refl _, Nat.le_refl _⟩ (fun n0 ad0 c0 s0 p e R s m args below meth c Q X b1 b2 K => st_astore X hi hk K)
          · cases h
        · cases h
      | astore_n k =>
        replace h : av_fin1 n (av_stA y pc 1 k.val ls st μ) = _ := h
        unfold av_stA at h
        split at h
        · split at h
          · rename_i hk
            exact av_nxt (ih _ _ _ _ _ _ _ hy h) ⟨Nat.le_refl _, Nat.le_refl _⟩ (fun n0 ad0 c0 s0 p e R s m args below meth c Q X b1 b2 K => st_astore_n X hi hk K)
          · cases h
        · cases h
      | iinc k v =>
        unfold av_x at h
        dsimp only at h
        split at h
        · rename_i w hw
          exact av_nxt (ih _ _ _ _ _ _ _ hy h) ⟨Nat.le_refl _, Nat.le_refl _⟩ (fun n0 ad0 c0 s0 p e R s m args below meth c Q X b1 b2 K => st_iinc X hi hw K)
        · cases h
      | iadd =>
        replace h : av_fin1 n (av_ii _ y pc ls st μ) = _ := h
        unfold av_ii at h
        split at h
        · exact av_nxt (ih _ _ _ _ _ _ _ hy h) ⟨Nat.le_refl _, Nat.le_refl _⟩ (fun n0 ad0 c0 s0 p e R s m args below meth c Q X b1 b2 K => st_iadd X hi K)
        · cases h
      | isub =>
        replace h : av_fin1 n (av_ii _ y pc ls st μ) = _ := h
        unfold av_ii at h
        split at h
        · exact av_nxt (ih _ _ _ _ _ _ _ hy h) ⟨Nat.le_refl _, Nat.le_refl _⟩ (fun n0 ad0 c0 s0 p e R s m args below meth c Q X b1 b2 K => st_isub X hi K)
        · cases h
      | imul =>
        replace h : av_fin1 n (av_ii _ y pc ls st μ) = _ := h
        unfold av_ii at h
        split at h
        · exact av_nxt (ih _ _ _ _ _ _ _ hy h) ⟨Nat.le_refl _, Nat.le_refl _⟩ (fun n0 ad0 c0 s0 p e R s m args below meth c Q X b1 b2 K => st_imul X hi K)
        · cases h
      | iand =>
        replace h : av_fin1 n (av_ii _ y pc ls st μ) = _ := h
        unfold av_ii at h
        split at h
        · exact av_nxt (ih _ _ _ _ _ _ _ hy h) ⟨Nat.le_refl _, Nat.le_refl _⟩ (fun n0 ad0 c0 s0 p e R s m args below meth c Q X b1 b2 K => st_iand X hi K)
        · cases h
      | ior =>
        replace h : av_fin1 n (av_ii _ y pc ls st μ) = _ := h
        unfold av_ii at h
        split at h
        · exact av_nxt (ih _ _ _ _ _ _ _ hy h) ⟨Nat.le_refl _, Nat.le_refl _⟩ (fun n0 ad0 c0 s0 p e R s m args below meth c Q X b1 b2 K => st_ior X hi K)
        · cases h
      | ixor =>
        replace h : av_fin1 n (av_ii _ y pc ls st μ) = _ := h
        unfold av_ii at h
        split at h
        · exact av_nxt (ih _ _ _ _ _ _ _ hy h) ⟨Nat.le_refl _, Nat.le_refl _⟩ (fun n0 ad0 c0 s0 p e R s m args below meth c Q X b1 b2 K => st_ixor X hi K)
        · cases h
      | ishl =>
        replace h : av_fin1 n (av_ii _ y pc ls st μ) = _ := h
        unfold av_ii at h
        split at h
        · exact av_nxt (ih _ _ _ _ _ _ _ hy h) ⟨Nat.le_refl _, Nat.le_refl _⟩ (fun n0 ad0 c0 s0 p e R s m args below meth c Q X b1 b2 K => st_ishl X hi K)
        · cases h
      | ishr =>
        replace h : av_fin1 n (av_ii _ y pc ls st μ) = _ := h
        unfold av_ii at h
        split at h
        · exact av_nxt (ih _ _ _ _ _ _ _ hy h) ⟨Nat.le_refl _, Nat.le_refl _⟩ (fun n0 ad0 c0 s0 p e R s m args below meth c Q X b1 b2 K => st_ishr X hi K)
        · cases h
      | iushr =>
        replace h : av_fin1 n (av_ii _ y pc ls st μ) = _ := h
        unfold av_ii at h
        split at h
        · exact av_nxt (ih _ _ _ _ _ _ _ hy h) ⟨Nat.le_refl _, Nat.le_refl _⟩ (fun n0 ad0 c0 s0 p e R s m args below meth c Q X b1 b2 K => st_iushr X hi K)
        · cases h
      | idiv =>
        replace h : av_fin1 n (av_iz _ y pc ls st μ) = _ := h
        unfold av_iz at h
        split at h
        · split at h
          · cases h
          · rename_i hb
            exact av_nxt (ih _ _ _ _ _ _ _ hy h) ⟨Nat.le_refl _, Nat.le_refl _⟩ (fun n0 ad0 c0 s0 p e R s m args below meth c Q X b1 b2 K => st_idiv X hi hb K)
        · cases h
      | irem =>
        replace h : av_fin1 n (av_iz _ y pc ls st μ) = _ := h
        unfold av_iz at h
        split at h
        · split at h
          · cases h
          · rename_i hb
            exact av_nxt (ih _ _ _ _ _ _ _ hy h) ⟨Nat.le_refl _, Nat.le_refl _⟩ (fun n0 ad0 c0 s0 p e R s m args below meth c Q X b1 b2 K => st_irem X hi hb K)
        · cases h
      | i2l =>
        unfold av_x at h
        dsimp only at h
        split at h
        · exact av_nxt (ih _ _ _ _ _ _ _ hy h) ⟨Nat.le_refl _, Nat.le_refl _⟩ (fun n0 ad0 c0 s0 p e R s m args below meth c Q X b1 b2 K => st_i2l X hi K)
        · cases h
      | lcmp =>
        unfold av_x at h
        dsimp only at h
        split at h
        · exact av_nxt (ih _ _ _ _ _ _ _ hy h) ⟨Nat.le_refl _, Nat.le_refl _⟩ (fun n0 ad0 c0 s0 p e R s m args below meth c Q X b1 b2 K => st_lcmp X hi K)
        · cases h
      | dup2 =>
        unfold av_x at h
        dsimp only at h
        split at h
        · exact av_nxt (ih _ _ _ _ _ _ _ hy h) ⟨Nat.le_refl _, Nat.le_refl _⟩ (fun n0 ad0 c0 s0 p e R s m args below meth c Q X b1 b2 K => st_dup2 X hi K)
        · cases h
      | pop =>
        unfold av_x at h
        dsimp only at h
        split at h
        · exact av_nxt (ih _ _ _ _ _ _ _ hy h) ⟨Nat.le_refl _, Nat.le_refl _⟩ (fun n0 ad0 c0 s0 p e R s m args below meth c Q X b1 b2 K => st_pop X hi K)
        · exact av_nxt (ih _ _ _ _ _ _ _ hy h) ⟨Nat.le_refl _, Nat.le_refl _⟩ (fun n0 ad0 c0 s0 p e R s m args below meth c Q X b1 b2 K => st_popA X hi K)
        · cases h
      | dup =>
        unfold av_x at h
        dsimp only at h
        split at h
        · exact av_nxt (ih _ _ _ _ _ _ _ hy h) ⟨Nat.le_refl _, Nat.le_refl _⟩ (fun n0 ad0 c0 s0 p e R s m args below meth c Q X b1 b2 K => st_dupI X hi K)
        · exact av_nxt (ih _ _ _ _ _ _ _ hy h) ⟨Nat.le_refl _, Nat.le_refl _⟩ (fun n0 ad0 c0 s0 p e R s m args below meth c Q X b1 b2 K => st_dupA X hi K)
        · cases h
      | ifCond cd off =>
        replace h : av_fin1 n (av_if1 cd off y pc ls st μ) = _ := h
        unfold av_if1 at h
        split at h
        · cases cd with
          | eq =>
            dsimp only at h
            unfold av_br at h
            split at h
            · cases h
            · rename_i t ht
              split at h
              · rename_i hc
                exact av_nxt (ih _ _ _ _ _ _ _ hy h) ⟨Nat.le_refl _, Nat.le_refl _⟩ (fun n0 ad0 c0 s0 p e R s m args below meth c Q X b1 b2 K => st_if_eq X hi ht (fun _ => K) (fun z => absurd hc z))
              · rename_i hc
                exact av_nxt (ih _ _ _ _ _ _ _ hy h) ⟨Nat.le_refl _, Nat.le_refl _⟩ (fun n0 ad0 c0 s0 p e R s m args below meth c Q X b1 b2 K => st_if_eq X hi ht (fun z => absurd z hc) (fun _ => K))
          | ne =>
            dsimp only at h
            unfold av_br at h
            split at h
            · cases h
            · rename_i t ht
              split at h
              · rename_i hc
                exact av_nxt (ih _ _ _ _ _ _ _ hy h) ⟨Nat.le_refl _, Nat.le_refl _⟩ (fun n0 ad0 c0 s0 p e R s m args below meth c Q X b1 b2 K => st_if_ne X hi ht (fun _ => K) (fun z => absurd hc z))
              · rename_i hc
                exact av_nxt (ih _ _ _ _ _ _ _ hy h) ⟨Nat.le_refl _, Nat.le_refl _⟩ (fun n0 ad0 c0 s0 p e R s m args below meth c Q X b1 b2 K => st_if_ne X hi ht (fun z => absurd z hc) (fun _ => K))
          | lt =>
            dsimp only at h
            unfold av_br at h
            split at h
            · cases h
            · rename_i t ht
              split at h
              · rename_i hc
                exact av_nxt (ih _ _ _ _ _ _ _ hy h) ⟨Nat.le_refl _, Nat.le_refl _⟩ (fun n0 ad0 c0 s0 p e R s m args below meth c Q X b1 b2 K => st_if_lt X hi ht (fun _ => K) (fun z => absurd hc z))
              · rename_i hc
                exact av_nxt (ih _ _ _ _ _ _ _ hy h) ⟨Nat.le_refl _, Nat.le_refl _⟩ (fun n0 ad0 c0 s0 p e R s m args below meth c Q X b1 b2 K => st_if_lt X hi ht (fun z => absurd z hc) (fun _ => K))
          | ge =>
            dsimp only at h
            unfold av_br at h
            split at h
            · cases h
            · rename_i t ht
              split at h
              · rename_i hc
                exact av_nxt (ih _ _ _ _ _ _ _ hy h) ⟨Nat.le_refl _, Nat.le_refl _⟩ (fun n0 ad0 c0 s0 p e R s m args below meth c Q X b1 b2 K => st_if_ge X hi ht (fun _ => K) (fun z => absurd hc z))
              · rename_i hc
                exact av_nxt (ih _ _ _ _ _ _ _ hy h) ⟨Nat.le_refl _, Nat.le_refl _⟩ (fun n0 ad0 c0 s0 p e R s m args below meth c Q X b1 b2 K => st_if_ge X hi ht (fun z => absurd z hc) (fun _ => K))
          | gt =>
            dsimp only at h
            unfold av_br at h
            split at h
            · cases h
            · rename_i t ht
              split at h
              · rename_i hc
                exact av_nxt (ih _ _ _ _ _ _ _ hy h) ⟨Nat.le_refl _, Nat.le_refl _⟩ (fun n0 ad0 c0 s0 p e R s m args below meth c Q X b1 b2 K => st_if_gt X hi ht (fun _ => K) (fun z => absurd hc z))
              · rename_i hc
                exact av_nxt (ih _ _ _ _ _ _ _ hy h) ⟨Nat.le_refl _, Nat.le_refl _⟩ (fun n0 ad0 c0 s0 p e R s m args below meth c Q X b1 b2 K => st_if_gt X hi ht (fun z => absurd z hc) (fun _ => K))
          | le =>
            dsimp only at h
            unfold av_br at h
            split at h
            · cases h
            · rename_i t ht
              split at h
              · rename_i hc
                exact av_nxt (ih _ _ _ _ _ _ _ hy h) ⟨Nat.le_refl _, Nat.le_refl _⟩ (fun n0 ad0 c0 s0 p e R s m args below meth c Q X b1 b2 K => st_if_le X hi ht (fun _ => K) (fun z => absurd hc z))
              · rename_i hc
                exact av_nxt (ih _ _ _ _ _ _ _ hy h) ⟨Nat.le_refl _, Nat.le_refl _⟩ (fun n0 ad0 c0 s0 p e R s m args below meth c Q X b1 b2 K => st_if_le X hi ht (fun z => absurd z hc) (fun _ => K))
        · cases h
      | if_icmp cd off =>
        replace h : av_fin1 n (av_if2 cd off y pc ls st μ) = _ := h
        unfold av_if2 at h
        split at h
        · cases cd with
          | eq =>
            dsimp only at h
            unfold av_br at h
            split at h
            · cases h
            · rename_i t ht
              split at h
              · rename_i hc
                exact av_nxt (ih _ _ _ _ _ _ _ hy h) ⟨Nat.le_refl _, Nat.le_refl _⟩ (fun n0 ad0 c0 s0 p e R s m args below meth c Q X b1 b2 K => st_icmp_eq X hi ht (fun _ => K) (fun z => absurd hc z))
              · rename_i hc
                exact av_nxt (ih _ _ _ _ _ _ _ hy h) ⟨Nat.le_refl _, Nat.le_refl _⟩ (fun n0 ad0 c0 s0 p e R s m args below meth c Q X b1 b2 K => st_icmp_eq X hi ht (fun z => absurd z hc) (fun _ => K))
          | ne =>
            dsimp only at h
            unfold av_br at h
            split at h
            · cases h
            · rename_i t ht
              split at h
              · rename_i hc
                exact av_nxt (ih _ _ _ _ _ _ _ hy h) ⟨Nat.le_refl _, Nat.le_refl _⟩ (fun n0 ad0 c0 s0 p e R s m args below meth c Q X b1 b2 K => st_icmp_ne X hi ht (fun _ => K) (fun z => absurd hc z))
              · rename_i hc
                exact av_nxt (ih _ _ _ _ _ _ _ hy h) ⟨Nat.le_refl _, Nat.le_refl _⟩ (fun n0 ad0 c0 s0 p e R s m args below meth c Q X b1 b2 K => st_icmp_ne X hi ht (fun z => absurd z hc) (fun _ => K))
          | lt =>
            dsimp only at h
            unfold av_br at h
            split at h
            · cases h
            · rename_i t ht
              split at h
              · rename_i hc
                exact av_nxt (ih _ _ _ _ _ _ _ hy h) ⟨Nat.le_refl _, Nat.le_refl _⟩ (fun n0 ad0 c0 s0 p e R s m args below meth c Q X b1 b2 K => st_icmp_lt X hi ht (fun _ => K) (fun z => absurd hc z))
              · rename_i hc
                exact av_nxt (ih _ _ _ _ _ _ _ hy h) ⟨Nat.le_refl _, Nat.le_refl _⟩ (fun n0 ad0 c0 s0 p e R s m args below meth c Q X b1 b2 K => st_icmp_lt X hi ht (fun z => absurd z hc) (fun _ => K))
          | ge =>
            dsimp only at h
            unfold av_br at h
            split at h
            · cases h
            · rename_i t ht
              split at h
              · rename_i hc
                exact av_nxt (ih _ _ _ _ _ _ _ hy h) ⟨Nat.le_refl _, Nat.le_refl _⟩ (fun n0 ad0 c0 s0 p e R s m args below meth c Q X b1 b2 K => st_icmp_ge X hi ht (fun _ => K) (fun z => absurd hc z))
              · rename_i hc
                exact av_nxt (ih _ _ _ _ _ _ _ hy h) ⟨Nat.le_refl _, Nat.le_refl _⟩ (fun n0 ad0 c0 s0 p e R s m args below meth c Q X b1 b2 K => st_icmp_ge X hi ht (fun z => absurd z hc) (fun _ => K))
          | gt =>
            dsimp only at h
            unfold av_br at h
            split at h
            · cases h
            · rename_i t ht
              split at h
              · rename_i hc
                exact av_nxt (ih _ _ _ _ _ _ _ hy h) ⟨Nat.le_refl _, Nat.le_refl _⟩ (fun n0 ad0 c0 s0 p e R s m args below meth c Q X b1 b2 K => st_icmp_gt X hi ht (fun _ => K) (fun z => absurd hc z))
              · rename_i hc
                exact av_nxt (ih _ _ _ _ _ _ _ hy h) ⟨Nat.le_refl _, Nat.le_refl _⟩ (fun n0 ad0 c0 s0 p e R s m args below meth c Q X b1 b2 K => st_icmp_gt X hi ht (fun z => absurd z hc) (fun _ => K))
          | le =>
            dsimp only at h
            unfold av_br at h
            split at h
            · cases h
            · rename_i t ht
              split at h
              · rename_i hc
                exact av_nxt (ih _ _ _ _ _ _ _ hy h) ⟨Nat.le_refl _, Nat.le_refl _⟩ (fun n0 ad0 c0 s0 p e R s m args below meth c Q X b1 b2 K => st_icmp_le X hi ht (fun _ => K) (fun z => absurd hc z))
              · rename_i hc
                exact av_nxt (ih _ _ _ _ _ _ _ hy h) ⟨Nat.le_refl _, Nat.le_refl _⟩ (fun n0 ad0 c0 s0 p e R s m args below meth c Q X b1 b2 K => st_icmp_le X hi ht (fun z => absurd z hc) (fun _ => K))
        · cases h
      | goto off =>
        unfold av_x at h
        dsimp only at h
        split at h
        · rename_i t ht
          exact av_nxt (ih _ _ _ _ _ _ _ hy h) ⟨Nat.le_refl _, Nat.le_refl _⟩ (fun n0 ad0 c0 s0 p e R s m args below meth c Q X b1 b2 K => st_goto X hi ht K)
        · cases h
      | tableswitch d lo hi offs =>
        unfold av_x at h
        dsimp only at h
        split at h
        · split at h
          · rename_i hc
            split at h
            · rename_i t ht
              exact av_nxt (ih _ _ _ _ _ _ _ hy h) ⟨Nat.le_refl _, Nat.le_refl _⟩ (fun n0 ad0 c0 s0 p e R s m args below meth c Q X b1 b2 K => st_tsO X hi hc ht K)
            · cases h
          · rename_i hc
            split at h
            · rename_i o1 ho
              split at h
              · rename_i t ht
                exact av_nxt (ih _ _ _ _ _ _ _ hy h) ⟨Nat.le_refl _, Nat.le_refl _⟩ (fun n0 ad0 c0 s0 p e R s m args below meth c Q X b1 b2 K => st_tsI X hi hc ho ht K)
              · cases h
            · cases h
        · cases h
      | iaload =>
        replace h : av_fin1 n (av_aldi y pc ls st μ) = _ := h
        unfold av_aldi at h
        split at h
        · split at h
          · rename_i hc
            exact av_nxt (ih _ _ _ _ _ _ _ hy h) ⟨Nat.le_refl _, Nat.le_refl _⟩ (fun n0 ad0 c0 s0 p e R s m args below meth c Q X b1 b2 K => st_aldi X hi hc.1 hc.2 K)
          · cases h
        · cases h
      | laload =>
        replace h : av_fin1 n (av_ald 22 y pc ls st μ) = _ := h
        unfold av_ald at h
        split at h
        · split at h
          · rename_i hc
            exact av_nxt (ih _ _ _ _ _ _ _ hy h) ⟨Nat.le_refl _, Nat.le_refl _⟩ (fun n0 ad0 c0 s0 p e R s m args below meth c Q X b1 b2 K => st_aldl X hi hc.1 hc.2 K)
          · cases h
        · cases h
      | baload =>
        replace h : av_fin1 n (av_ald 21 y pc ls st μ) = _ := h
        unfold av_ald at h
        split at h
        · split at h
          · rename_i hc
            exact av_nxt (ih _ _ _ _ _ _ _ hy h) ⟨Nat.le_refl _, Nat.le_refl _⟩ (fun n0 ad0 c0 s0 p e R s m args below meth c Q X b1 b2 K => st_aldz X hi hc.1 hc.2 K)
          · cases h
        · cases h
      | aaload =>
        replace h : av_fin1 n (av_alda y pc ls st μ) = _ := h
        unfold av_alda at h
        split at h
        · split at h
          · rename_i hc
            exact av_nxt (ih _ _ _ _ _ _ _ hy h) ⟨Nat.le_refl _, Nat.le_refl _⟩ (fun n0 ad0 c0 s0 p e R s m args below meth c Q X b1 b2 K => st_alda X hi ⟨hc.1, hc.2.1⟩ hc.2.2 K)
          · cases h
        · cases h
      | iastore =>
        replace h : av_fin1 n (av_ast 20 av_isI y pc ls st μ) = _ := h
        unfold av_ast at h
        split at h
        · rename_i v j q r
          split at h
          · rename_i hc
            obtain ⟨hk, ho, hv⟩ := hc
            rcases v with v | v | v
            · exact av_nxt (ih _ _ _ _ _ _ _ hy h) ⟨Nat.le_refl _, Nat.le_refl _⟩ (fun n0 ad0 c0 s0 p e R s m args below meth c Q X b1 b2 K => st_asti X hi hk ho K)
            · cases hv
            · cases hv
          · cases h
        · cases h
      | bastore =>
        replace h : av_fin1 n (av_ast 21 av_isZ y pc ls st μ) = _ := h
        unfold av_ast at h
        split at h
        · rename_i v j q r
          split at h
          · rename_i hc
            obtain ⟨hk, ho, hv⟩ := hc
            rcases v with v | v | v
            · exact av_nxt (ih _ _ _ _ _ _ _ hy h) ⟨Nat.le_refl _, Nat.le_refl _⟩ (fun n0 ad0 c0 s0 p e R s m args below meth c Q X b1 b2 K => st_astz X hi hk (by simpa [av_isZ] using hv) ho K)
            · cases hv
            · cases hv
          · cases h
        · cases h
      | lastore =>
        replace h : av_fin1 n (av_ast 22 av_isL y pc ls st μ) = _ := h
        unfold av_ast at h
        split at h
        · rename_i v j q r
          split at h
          · rename_i hc
            obtain ⟨hk, ho, hv⟩ := hc
            rcases v with v | v | v
            · cases hv
            · exact av_nxt (ih _ _ _ _ _ _ _ hy h) ⟨Nat.le_refl _, Nat.le_refl _⟩ (fun n0 ad0 c0 s0 p e R s m args below meth c Q X b1 b2 K => st_astl X hi hk ho K)
            · cases hv
          · cases h
        · cases h
      | aastore =>
        replace h : av_fin1 n (av_asta y pc ls st μ) = _ := h
        unfold av_asta at h
        split at h
        · split at h
          · rename_i hc
            exact av_nxt (ih _ _ _ _ _ _ _ hy h) ⟨Nat.le_refl _, Nat.le_refl _⟩ (fun n0 ad0 c0 s0 p e R s m args below meth c Q X b1 b2 K => st_asta X hi hc.1 hc.2.1 hc.2.2 K)
          · cases h
        · cases h
      | arraylength =>
        unfold av_x at h
        dsimp only at h
        split at h
        · split at h
          · rename_i hc
            exact av_nxt (ih _ _ _ _ _ _ _ hy h) ⟨Nat.le_refl _, Nat.le_refl _⟩ (fun n0 ad0 c0 s0 p e R s m args below meth c Q X b1 b2 K => st_alen X hi hc K)
          · cases h
        · cases h
      | getfield idx =>
        replace h : av_fin1 n (av_get idx y pc ls st μ) = _ := h
        unfold av_get at h
        split at h
        · rename_i q r g hg
          split at h
          · rename_i hc
            exact av_nxt (ih _ _ _ _ _ _ _ hy h) ⟨Nat.le_refl _, Nat.le_refl _⟩ (fun n0 ad0 c0 s0 p e R s m args below meth c Q X b1 b2 K => st_get X hi hg hc.2.1 hc.2.2 hc.1 K)
          · cases h
        · cases h
      | putfield idx =>
        replace h : av_fin1 n (av_put idx y pc ls st μ) = _ := h
        unfold av_put at h
        split at h
        · rename_i v q r g hg
          split at h
          · rename_i hc
            exact av_nxt (ih _ _ _ _ _ _ _ hy h) ⟨Nat.le_refl _, Nat.le_refl _⟩ (fun n0 ad0 c0 s0 p e R s m args below meth c Q X b1 b2 K => st_put X hi hg hc.2.1 hc.2.2.1 hc.1 hc.2.2.2.1 hc.2.2.2.2 K)
          · cases h
        · cases h
      | newarray t =>
        cases t with
          | int =>
            replace h : av_fin1 n (av_newa 20 (.inl 0) y pc ls st μ) = _ := h
            unfold av_newa at h
            split at h
            · split at h
              · rename_i hc
                exact av_nxt (ih _ _ _ _ _ _ _ hy h) ⟨Nat.le_add_right _ _, Nat.le_add_right _ _⟩ (fun n0 ad0 c0 s0 p e R s m args below meth c Q X b1 b2 K => st_newaI X hi hc.1 hc.2 b1 b2 K)
              · cases h
            · cases h
          | boolean =>
            replace h : av_fin1 n (av_newa 21 (.inl 0) y pc ls st μ) = _ := h
            unfold av_newa at h
            split at h
            · split at h
              · rename_i hc
                exact av_nxt (ih _ _ _ _ _ _ _ hy h) ⟨Nat.le_add_right _ _, Nat.le_add_right _ _⟩ (fun n0 ad0 c0 s0 p e R s m args below meth c Q X b1 b2 K => st_newaZ X hi hc.1 hc.2 b1 b2 K)
              · cases h
            · cases h
          | long =>
            replace h : av_fin1 n (av_newa 22 (.inr (.inl 0)) y pc ls st μ) = _ := h
            unfold av_newa at h
            split at h
            · split at h
              · rename_i hc
                exact av_nxt (ih _ _ _ _ _ _ _ hy h) ⟨Nat.le_add_right _ _, Nat.le_add_right _ _⟩ (fun n0 ad0 c0 s0 p e R s m args below meth c Q X b1 b2 K => st_newaL X hi hc.1 hc.2 b1 b2 K)
              · cases h
            · cases h
          | _ => cases h
      | anewarray idx =>
        replace h : av_fin1 n (av_newq idx y pc ls st μ) = _ := h
        unfold av_newq at h
        split at h
        · rename_i k r ci hq
          split at h
          · rename_i hc
            exact av_nxt (ih _ _ _ _ _ _ _ hy h) ⟨Nat.le_add_right _ _, Nat.le_add_right _ _⟩ (fun n0 ad0 c0 s0 p e R s m args below meth c Q X b1 b2 K => st_anew X hi hq hc.1 hc.2.1 hc.2.2 b1 b2 K)
          · cases h
        · cases h
      | new idx =>
        replace h : av_fin1 n (av_new idx y pc ls st μ) = _ := h
        unfold av_new at h
        split at h
        · rename_i ci hq
          split at h
          · rename_i hc
            split at h
            · rename_i hk
              exact av_nxt (ih _ _ _ _ _ _ _ hy h) ⟨Nat.le_add_right _ _, Nat.le_add_right _ _⟩ (fun n0 ad0 c0 s0 p e R s m args below meth c Q X b1 b2 K => st_new X hi hq hc hk b1 b2 K)
            · cases h
          · split at h
            · rename_i hc
              obtain ⟨k1, k2, k3, k4⟩ := hc
              subst k4
              cases h
              exact ⟨⟨Nat.le_add_right _ _, Nat.le_add_right _ _⟩, fun n0 ad0 c0 s0 p e R s m args below meth c X hP hBs b1 b2 => st_exn X hfl hB hP hBs (av_XF_of k1) hi hq k2 k3 b1 b2⟩
            · cases h
        · cases h
      | invokevirtual idx =>
        replace h : av_fin1 n (av_invV idx y pc ls st μ) = _ := h
        unfold av_invV at h
        split at h
        · rename_i g hg
          split at h
          · rename_i q as hst
            split at h
            · rename_i hc
              obtain ⟨k1, k2, k3, k4, k5, k6⟩ := hc
              have hs := av_tk hst
              exact av_callG hB ih hy h k3 hi rfl rfl (fun v hv => by rw [hs]; rcases List.mem_cons.mp hv with rfl | hv; exact List.mem_append_right _ List.mem_cons_self; exact List.mem_append_left _ (List.mem_reverse.mpr hv)) (fun v hv => List.mem_of_mem_drop hv) (fun n0 ad0 c0 s0 p e R s m args below meth c X ad H locs cells slots Lc I T hT XT => by
                have hl : q.2 < av_cnt μ q.1 := I.2.2.1 (.inr (.inr (some q))) (by rw [hs]; exact List.mem_append_right _ List.mem_cons_self)
                obtain ⟨cell, q1, q2, q3, -⟩ := (I.1.1 q.1 q.2 hl).1 (by omega)
                have hfc : s.vm.findClass (tl_cn.getD (tl_own g.1) "") = some cell.cls := by
                  rw [q2, k1]; exact (X.2.2.2.2.2.2.2.2.2.2.2.1.1 _ _ (tl_cl_at _ k4)).2.1
                exact av_linkV XT X.1 X.2.2.2.1 X.2.2.2.2.1 hg k3 k5 k6 (by rw [hT]; exact q1) (by rw [q3]; rfl) hfc (g := F0 m pc Lc (st.map (av_vm ad))) rfl (vs := as.map (av_vm ad)) (by rw [List.length_map]; exact k2) (by
                  show st.map (av_vm ad) = _
                  conv => lhs; rw [hs]
                  rw [List.map_append, List.map_reverse, List.map_cons]; rfl) (by rw [X.2.1]; exact tl_dec hi rfl))
            · cases h
          · cases h
        · cases h
      | invokespecial idx =>
        replace h : av_fin1 n (av_invI idx y pc ls st μ) = _ := h
        unfold av_invI at h
        split at h
        · rename_i g hg
          split at h
          · rename_i h1000
            have hg : tl_invq (tl_own y) idx = some (1000, g.2) := by rw [hg, ← h1000]
            split at h
            · split at h
              · rename_i hc
                exact av_nxt (ih _ _ _ _ _ _ _ hy h) ⟨Nat.le_refl _, Nat.le_refl _⟩ (fun n0 ad0 c0 s0 p e R s m args below meth c Q X b1 b2 K => st_oinit X hi hg hc.1 hc.2.1 hc.2.2 K)
              · cases h
            · cases h
          · split at h
            · rename_i q as hst
              split at h
              · rename_i hc
                obtain ⟨k1, k2, k3, k4, k5, k6, k7, k8⟩ := hc
                have hs := av_tk hst
                exact av_callG hB ih hy h k3 hi rfl rfl (fun v hv => by rw [hs]; rcases List.mem_cons.mp hv with rfl | hv; exact List.mem_append_right _ List.mem_cons_self; exact List.mem_append_left _ (List.mem_reverse.mpr hv)) (fun v hv => List.mem_of_mem_drop hv) (fun n0 ad0 c0 s0 p e R s m args below meth c X ad H locs cells slots Lc I T hT XT => by
                  exact av_linkI XT X.1 X.2.2.2.1 X.2.2.2.2.1 hg k3 k5 k6 k7 k8 (g := F0 m pc Lc (st.map (av_vm ad))) rfl (vs := as.map (av_vm ad)) (by rw [List.length_map]; exact k2) (by
                    show st.map (av_vm ad) = _
                    conv => lhs; rw [hs]
                    rw [List.map_append, List.map_reverse, List.map_cons]; rfl) (by rw [X.2.1]; exact tl_dec hi rfl))
              · cases h
            · cases h
        · cases h
      | invokestatic idx =>
        replace h : av_fin1 n (av_invS idx y pc ls st μ) = _ := h
        unfold av_invS at h
        split at h
        · rename_i g hg
          split at h
          · split at h
            · split at h
              · rename_i hc
                split at h
                · rename_i h1
                  have hg : tl_invq (tl_own y) idx = some (1001, g.2) := by rw [hg, ← h1]
                  exact av_nxt (ih _ _ _ _ _ _ _ hy h) ⟨Nat.le_refl _, Nat.le_refl _⟩ (fun n0 ad0 c0 s0 p e R s m args below meth c Q X b1 b2 K => st_max X hi hg hc.1 hc.2.1 hc.2.2 b1 b2 K)
                · split at h
                  · rename_i h1
                    have hg : tl_invq (tl_own y) idx = some (1002, g.2) := by rw [hg, ← h1]
                    exact av_nxt (ih _ _ _ _ _ _ _ hy h) ⟨Nat.le_refl _, Nat.le_refl _⟩ (fun n0 ad0 c0 s0 p e R s m args below meth c Q X b1 b2 K => st_min X hi hg hc.1 hc.2.1 hc.2.2 b1 b2 K)
                  · cases h
              · cases h
            · cases h
          · split at h
            · rename_i hc
              obtain ⟨k1, k2, k3⟩ := hc
              exact av_callG hB ih hy h k2 hi rfl rfl (fun v hv => List.mem_of_mem_take (List.mem_reverse.mp hv)) (fun v hv => List.mem_of_mem_drop hv) (fun n0 ad0 c0 s0 p e R s m args below meth c X ad H locs cells slots Lc I T hT XT => by
                exact av_linkS XT X.1 X.2.2.2.1 X.2.2.2.2.1 hg k2 k3 (g := F0 m pc Lc (st.map (av_vm ad))) rfl (vs := (st.take g.2).reverse.map (av_vm ad)) (by rw [List.length_map, List.length_reverse]; exact k1) (by
                  show st.map (av_vm ad) = _
                  rw [← List.map_reverse, List.reverse_reverse, ← List.map_append, List.take_append_drop]) (by rw [X.2.1]; exact tl_dec hi rfl))
            · cases h
        · cases h
      | ireturn =>
        unfold av_x at h
        dsimp only at h
        split at h
        · split at h
          · rename_i hc
            cases h
            exact ⟨⟨Nat.le_refl _, Nat.le_refl _⟩, fun n0 ad0 c0 s0 p e R s m args below meth c X hP hBs b1 b2 => st_iret X hi hc⟩
          · cases h
        · cases h
      | areturn =>
        unfold av_x at h
        dsimp only at h
        split at h
        · rename_i q nm hr
          cases h
          exact ⟨⟨Nat.le_refl _, Nat.le_refl _⟩, fun n0 ad0 c0 s0 p e R s m args below meth c X hP hBs b1 b2 => st_aret X hi hr⟩
        · cases h
      | return_ =>
        unfold av_x at h
        dsimp only at h
        split at h
        · rename_i hc
          obtain ⟨k1, k2⟩ := hc
          subst k1
          cases h
          exact ⟨⟨Nat.le_refl _, Nat.le_refl _⟩, fun n0 ad0 c0 s0 p e R s m args below meth c X hP hBs b1 b2 => st_vret X hi k2⟩
        · cases h
      | _ => cases h
end Main22
