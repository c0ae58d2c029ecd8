/-! the rows' makers: a row of every instruction without side conditions (what the instruction asks stands as an 'if') -/
section KK
variable {y pc : Nat}
theorem kk_if {i : Instr} (h : tl_ins y pc = some i) {ls : List (Option av_V)} {st : List av_V} {μ : av_M} {c : Prop} [Decidable c] {y' pc' : Nat} {ls' : List (Option av_V)} {st' : List av_V} {μ' : av_M} (e : av_x i y pc ls st μ = if c then av_nx y' pc' ls' st' μ' else .inl none) : av_run y pc ls st μ = if c then av_run y' pc' ls' st' μ' else none := by
  rw [av_run_eq h, e]
  split <;> rfl
theorem kk_nif {i : Instr} (h : tl_ins y pc = some i) {ls : List (Option av_V)} {st : List av_V} {μ : av_M} {c : Prop} [Decidable c] {y' pc' : Nat} {ls' : List (Option av_V)} {st' : List av_V} {μ' : av_M} (e : av_x i y pc ls st μ = if c then .inl none else av_nx y' pc' ls' st' μ') : av_run y pc ls st μ = if c then none else av_run y' pc' ls' st' μ' := by
  rw [av_run_eq h, e]
  split <;> rfl
theorem kk_get {idx ci k : Nat} (h : tl_ins y pc = some (.getfield idx)) (hf : tl_fldq (tl_own y) idx = some (ci, k)) (hc : ci < 9 ∧ k < tl_NF.getD ci 0) (ls : List (Option av_V)) (r : List av_V) (μ : av_M) (f i : Nat) : av_run y pc ls (.inr (.inr (some (f, i))) :: r) μ = if av_kd f = ci then av_run y (pc + 3) ls (av_val μ f i k :: r) μ else none := by
  by_cases hk : av_kd f = ci
  · rw [if_pos hk]
    exact k_get h hf hc ls r μ f i hk
  · rw [if_neg hk]
    refine k_f h ?_
    show av_get idx y pc ls _ μ = _
    unfold av_get
    rw [hf]
    exact if_neg (fun q => hk q.1)
theorem kk_put {idx ci k : Nat} (h : tl_ins y pc = some (.putfield idx)) (hf : tl_fldq (tl_own y) idx = some (ci, k)) (hc : ci < 9 ∧ k < tl_NF.getD ci 0) (hw : av_fin ci k = false ∨ (av_isInit y = true ∧ tl_own y = ci)) {v : av_V} (hv : av_fit (tl_ty ci k) v = true) (ls : List (Option av_V)) (r : List av_V) (μ : av_M) (f i : Nat) : av_run y pc ls (v :: .inr (.inr (some (f, i))) :: r) μ = if av_kd f = ci then av_run y (pc + 3) ls r (av_wr μ f i k v) else none := by
  by_cases hk : av_kd f = ci
  · rw [if_pos hk]
    exact k_put h hf hc hw ls r μ v f i hk hv
  · rw [if_neg hk]
    refine k_f h ?_
    show av_put idx y pc ls _ μ = _
    unfold av_put
    rw [hf]
    exact if_neg (fun q => hk q.1)
theorem kk_putZ {idx ci k : Nat} (h : tl_ins y pc = some (.putfield idx)) (hf : tl_fldq (tl_own y) idx = some (ci, k)) (hc : ci < 9 ∧ k < tl_NF.getD ci 0) (hw : av_fin ci k = false ∨ (av_isInit y = true ∧ tl_own y = ci)) (ht : tl_ty ci k = .boolean) (ls : List (Option av_V)) (r : List av_V) (μ : av_M) (x : Int32) (f i : Nat) : av_run y pc ls (.inl x :: .inr (.inr (some (f, i))) :: r) μ = if av_kd f = ci ∧ (x = 0 ∨ x = 1) then av_run y (pc + 3) ls r (av_wr μ f i k (.inl x)) else none := by
  by_cases hk : av_kd f = ci ∧ (x = 0 ∨ x = 1)
  · rw [if_pos hk]
    exact k_put h hf hc hw ls r μ _ f i hk.1 (by rw [ht]; simpa [av_fit] using hk.2)
  · rw [if_neg hk]
    refine k_f h ?_
    show av_put idx y pc ls _ μ = _
    unfold av_put
    rw [hf]
    refine if_neg (fun q => hk ⟨q.1, ?_⟩)
    have := q.2.2.2.1
    dsimp only at this
    rw [ht] at this
    simpa [av_fit] using this
/-- what a thrown exception meets in the method -/
noncomputable def av_ctc (y pc : Nat) (ls : List (Option av_V)) (e : Nat × Nat) (μ : av_M) : Option av_R := if tl_hh y = [] then some (.inr e, μ) else match av_hdl (tl_hh y) (tl_own y) pc (av_kd e.1) with
  | none => none
  | some h => av_run y h ls [.inr (.inr (some e))] μ
theorem kk_call {i : Instr} (h : tl_ins y pc = some i) {ls : List (Option av_V)} {st rest : List av_V} {μ : av_M} {z : Nat} {as : List av_V} (e : av_x i y pc ls st μ = av_call y pc ls rest μ z as) (hc : tl_fr z + 1 ≤ tl_fr y ∧ 8 + (tl_max z + 11) + tl_lo z ≤ tl_lo y ∧ as.length ≤ tl_max z) (ha : as.all av_c1 = true) : av_run y pc ls st μ = if av_wt rest ≤ 8 then av_bind (av_cal z as μ) (fun v μ' => av_run y (pc + 3) ls (v.toList ++ rest) μ') (av_ctc y pc ls) else none := by
  rw [av_run_eq h, e]
  unfold av_call
  by_cases hw : av_wt rest ≤ 8
  · rw [if_pos ⟨hc.1, hc.2.1, hw, hc.2.2, ha⟩, if_pos hw]
    show (match av_cal z as μ with
      | none => none
      | some r => _) = _
    unfold av_bind
    cases av_cal z as μ with
    | none => rfl
    | some r =>
      obtain ⟨o, m⟩ := r
      cases o with
      | inl v => rfl
      | inr e =>
        dsimp only
        unfold av_ctc
        by_cases hh : tl_hh y = []
        · rw [if_pos hh, if_pos hh]
        · rw [if_neg hh, if_neg hh]
          cases av_hdl (tl_hh y) (tl_own y) pc (av_kd e.1) with
          | none => rfl
          | some h => rfl
  · rw [if_neg (fun q => hw q.2.2.1), if_neg hw]
    rfl
theorem kk_S {idx z n : Nat} (h : tl_ins y pc = some (.invokestatic idx)) (hq : tl_invq (tl_own y) idx = some (z, n)) (hz : z < 169 ∧ tl_stq z = 1) (hc : tl_fr z + 1 ≤ tl_fr y ∧ 8 + (tl_max z + 11) + tl_lo z ≤ tl_lo y ∧ n ≤ tl_max z) {ls : List (Option av_V)} {st rest : List av_V} {μ : av_M} {as : List av_V} (h1 : (st.take n).reverse = as) (h2 : st.drop n = rest) (h3 : as.length = n) (ha : as.all av_c1 = true) : av_run y pc ls st μ = if av_wt rest ≤ 8 then av_bind (av_cal z as μ) (fun v μ' => av_run y (pc + 3) ls (v.toList ++ rest) μ') (av_ctc y pc ls) else none := by
  refine kk_call h ?_ ⟨hc.1, hc.2.1, by rw [h3]; exact hc.2.2⟩ ha
  show av_invS idx y pc ls st μ = _
  unfold av_invS
  rw [hq]
  dsimp only
  rw [if_neg (by omega), if_pos ⟨by rw [← List.length_reverse, h1, h3], hz.1, hz.2⟩, h1, h2]
theorem kk_V {idx z n : Nat} (h : tl_ins y pc = some (.invokevirtual idx)) (hq : tl_invq (tl_own y) idx = some (z, n)) (hz : z < 169 ∧ tl_own z < 9 ∧ tl_stq z = 0 ∧ av_isInit z = false) (hc : tl_fr z + 1 ≤ tl_fr y ∧ 8 + (tl_max z + 11) + tl_lo z ≤ tl_lo y ∧ n + 1 ≤ tl_max z) {ls : List (Option av_V)} {st rest : List av_V} {μ : av_M} {as : List av_V} {f i : Nat} (h1 : (st.take (n + 1)).reverse = .inr (.inr (some (f, i))) :: as) (h2 : st.drop (n + 1) = rest) (h3 : as.length = n) (ha : as.all av_c1 = true) : av_run y pc ls st μ = if av_kd f = tl_own z ∧ av_wt rest ≤ 8 then av_bind (av_cal z (.inr (.inr (some (f, i))) :: as) μ) (fun v μ' => av_run y (pc + 3) ls (v.toList ++ rest) μ') (av_ctc y pc ls) else none := by
  have e1 : av_x (.invokevirtual idx) y pc ls st μ = if av_kd f = tl_own z then av_call y pc ls rest μ z (.inr (.inr (some (f, i))) :: as) else .inl none := by
    show av_invV idx y pc ls st μ = _
    unfold av_invV
    rw [hq]
    dsimp only
    rw [h1, h2]
    dsimp only
    by_cases hk : av_kd f = tl_own z
    · rw [if_pos ⟨hk, h3, hz.1, hz.2.1, hz.2.2.1, hz.2.2.2⟩, if_pos hk]
    · rw [if_neg (fun q => hk q.1), if_neg hk]
  by_cases hk : av_kd f = tl_own z
  · rw [if_pos hk] at e1
    rw [kk_call h e1 ⟨hc.1, hc.2.1, by rw [List.length_cons, h3]; exact hc.2.2⟩ (by rw [List.all_cons, ha]; rfl)]
    by_cases hw : av_wt rest ≤ 8
    · rw [if_pos hw, if_pos ⟨hk, hw⟩]
    · rw [if_neg hw, if_neg (fun q => hw q.2)]
  · rw [if_neg hk] at e1
    rw [if_neg (fun q => hk q.1)]
    exact k_f h e1
theorem kk_I {idx z n : Nat} (h : tl_ins y pc = some (.invokespecial idx)) (hq : tl_invq (tl_own y) idx = some (z, n)) (hz : z < 169 ∧ tl_own z < 9 ∧ tl_stq z = 0 ∧ av_isInit z = true ∧ tl_ret z = none ∧ tl_hh z = []) (hc : tl_fr z + 1 ≤ tl_fr y ∧ 8 + (tl_max z + 11) + tl_lo z ≤ tl_lo y ∧ n + 1 ≤ tl_max z) {ls : List (Option av_V)} {st rest : List av_V} {μ : av_M} {as : List av_V} {f i : Nat} (h1 : (st.take (n + 1)).reverse = .inr (.inr (some (f, i))) :: as) (h2 : st.drop (n + 1) = rest) (h3 : as.length = n) (ha : as.all av_c1 = true) : av_run y pc ls st μ = if av_kd f = tl_own z ∧ av_wt rest ≤ 8 then av_bind (av_cal z (.inr (.inr (some (f, i))) :: as) μ) (fun v μ' => av_run y (pc + 3) ls (v.toList ++ rest) μ') (av_ctc y pc ls) else none := by
  have e1 : av_x (.invokespecial idx) y pc ls st μ = if av_kd f = tl_own z then av_call y pc ls rest μ z (.inr (.inr (some (f, i))) :: as) else .inl none := by
    show av_invI idx y pc ls st μ = _
    unfold av_invI
    rw [hq]
    dsimp only
    rw [if_neg (by omega), h1, h2]
    dsimp only
    by_cases hk : av_kd f = tl_own z
    · rw [if_pos ⟨hk, h3, hz.1, hz.2.1, hz.2.2.1, hz.2.2.2⟩, if_pos hk]
    · rw [if_neg (fun q => hk q.1), if_neg hk]
  by_cases hk : av_kd f = tl_own z
  · rw [if_pos hk] at e1
    rw [kk_call h e1 ⟨hc.1, hc.2.1, by rw [List.length_cons, h3]; exact hc.2.2⟩ (by rw [List.all_cons, ha]; rfl)]
    by_cases hw : av_wt rest ≤ 8
    · rw [if_pos hw, if_pos ⟨hk, hw⟩]
    · rw [if_neg hw, if_neg (fun q => hw q.2)]
  · rw [if_neg hk] at e1
    rw [if_neg (fun q => hk q.1)]
    exact k_f h e1
theorem kk_O {idx n : Nat} (h : tl_ins y pc = some (.invokespecial idx)) (hq : tl_invq (tl_own y) idx = some (1000, n)) (hc : 1 ≤ tl_fr y ∧ 20 ≤ tl_lo y) (ls : List (Option av_V)) (r : List av_V) (μ : av_M) (f i : Nat) : av_run y pc ls (.inr (.inr (some (f, i))) :: r) μ = if av_wt r ≤ 8 then av_run y (pc + 3) ls r μ else none := by
  refine kk_if h ?_
  show av_invI idx y pc ls _ μ = _
  unfold av_invI
  rw [hq]
  dsimp only
  rw [if_pos rfl]
  by_cases hw : av_wt r ≤ 8
  · rw [if_pos ⟨hw, hc⟩, if_pos hw]
  · rw [if_neg (fun q => hw q.1), if_neg hw]
theorem kk_mx {idx n : Nat} (h : tl_ins y pc = some (.invokestatic idx)) (hq : tl_invq (tl_own y) idx = some (1001, n)) (hc : 1 ≤ tl_fr y ∧ 21 ≤ tl_lo y) (ls : List (Option av_V)) (r : List av_V) (μ : av_M) (a b : Int32) : av_run y pc ls (.inl b :: .inl a :: r) μ = if av_wt r ≤ 8 then av_run y (pc + 3) ls (.inl (if a < b then b else a) :: r) μ else none := by
  refine kk_if h ?_
  show av_invS idx y pc ls _ μ = _
  unfold av_invS
  rw [hq]
  dsimp only
  rw [if_pos (by decide)]
  by_cases hw : av_wt r ≤ 8
  · rw [if_pos ⟨hw, hc⟩, if_pos hw, if_pos rfl]
  · rw [if_neg (fun q => hw q.1), if_neg hw]
theorem kk_mn {idx n : Nat} (h : tl_ins y pc = some (.invokestatic idx)) (hq : tl_invq (tl_own y) idx = some (1002, n)) (hc : 1 ≤ tl_fr y ∧ 21 ≤ tl_lo y) (ls : List (Option av_V)) (r : List av_V) (μ : av_M) (a b : Int32) : av_run y pc ls (.inl b :: .inl a :: r) μ = if av_wt r ≤ 8 then av_run y (pc + 3) ls (.inl (if b < a then b else a) :: r) μ else none := by
  refine kk_if h ?_
  show av_invS idx y pc ls _ μ = _
  unfold av_invS
  rw [hq]
  dsimp only
  rw [if_pos (by decide)]
  by_cases hw : av_wt r ≤ 8
  · rw [if_pos ⟨hw, hc⟩, if_pos hw, if_neg (by decide), if_pos rfl]
  · rw [if_neg (fun q => hw q.1), if_neg hw]
theorem kk_new {idx ci s nf : Nat} (h : tl_ins y pc = some (.new idx)) (hq : tl_newq (tl_own y) idx = some ci) (hc : ci < 9 ∧ av_kd s = ci ∧ tl_siteq y pc = s ∧ tl_NF.getD ci 0 = nf) (ls : List (Option av_V)) (r : List av_V) (μ : av_M) : av_run y pc ls r μ = av_run y (pc + 3) ls (.inr (.inr (some (s, av_cnt μ s))) :: r) (av_mk μ s 0 nf (fun k => av_dv (tl_ty ci k))) := by
  obtain ⟨h1, h2, rfl, rfl⟩ := hc
  refine k_x h ?_
  show av_new idx y pc ls r μ = _
  unfold av_new
  rw [hq]
  dsimp only
  rw [if_pos h1, if_pos h2]
theorem kk_exn {idx ci s : Nat} (h : tl_ins y pc = some (.new idx)) (hq : tl_newq (tl_own y) idx = some ci) (hc : ¬ ci < 9 ∧ av_kd s = ci ∧ tl_siteq y pc = s ∧ tl_exnq y pc = true ∧ tl_hh y = []) (ls : List (Option av_V)) (μ : av_M) : av_run y pc ls [] μ = some (.inr (s, av_cnt μ s), av_mk μ s 0 6 (fun _ => .inr (.inr none))) := by
  obtain ⟨h1, h2, rfl, h4, h5⟩ := hc
  refine k_f h ?_
  show av_new idx y pc ls [] μ = _
  unfold av_new
  rw [hq]
  dsimp only
  rw [if_neg h1, if_pos ⟨h4, h2, h5, rfl⟩]
theorem kk_newa {t : ArrayType} {kd s : Nat} {d : av_V} (h : tl_ins y pc = some (.newarray t)) (ht : ∀ ls st μ, av_x (.newarray t) y pc ls st μ = av_newa kd d y pc ls st μ) (hc : av_kd s = kd ∧ tl_siteq y pc = s) (ls : List (Option av_V)) (r : List av_V) (μ : av_M) (n : Int32) : av_run y pc ls (.inl n :: r) μ = if av_outD n 1000 = false then av_run y (pc + 2) ls (.inr (.inr (some (s, av_cnt μ s))) :: r) (av_mk μ s n.toNatClampNeg n.toNatClampNeg (fun _ => d)) else none := by
  obtain ⟨h1, rfl⟩ := hc
  refine kk_if h ?_
  rw [ht]
  unfold av_newa
  dsimp only
  by_cases hw : av_outD n 1000 = false
  · rw [if_pos ⟨hw, h1⟩, if_pos hw]
  · rw [if_neg (fun q => hw q.1), if_neg hw]
theorem kk_newq {idx ci s : Nat} (h : tl_ins y pc = some (.anewarray idx)) (hq : tl_newq (tl_own y) idx = some ci) (hc : ci < 9 ∧ av_kd s = 30 + ci ∧ tl_siteq y pc = s) (ls : List (Option av_V)) (r : List av_V) (μ : av_M) (n : Int32) : av_run y pc ls (.inl n :: r) μ = if av_outD n 1000 = false then av_run y (pc + 3) ls (.inr (.inr (some (s, av_cnt μ s))) :: r) (av_mk μ s n.toNatClampNeg n.toNatClampNeg (fun _ => .inr (.inr none))) else none := by
  obtain ⟨h0, h1, rfl⟩ := hc
  refine kk_if h ?_
  show av_newq idx y pc ls _ μ = _
  unfold av_newq
  rw [hq]
  dsimp only
  by_cases hw : av_outD n 1000 = false
  · rw [if_pos ⟨hw, h1, h0⟩, if_pos hw]
  · rw [if_neg (fun q => hw q.1), if_neg hw]
end KK
