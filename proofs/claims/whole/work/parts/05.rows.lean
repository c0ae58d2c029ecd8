/-! one rewriting row for each kind of instruction -/
noncomputable def av_bind (o : Option av_R) (k : Option av_V → av_M → Option av_R) (h : Nat × Nat → av_M → Option av_R) : Option av_R := match o with
  | none => none
  | some (.inl v, μ) => k v μ
  | some (.inr e, μ) => h e μ
theorem av_bind_ret (v : Option av_V) (μ : av_M) (k : Option av_V → av_M → Option av_R) (h : Nat × Nat → av_M → Option av_R) : av_bind (some (.inl v, μ)) k h = k v μ := rfl
theorem av_bind_thr (e : Nat × Nat) (μ : av_M) (k : Option av_V → av_M → Option av_R) (h : Nat × Nat → av_M → Option av_R) : av_bind (some (.inr e, μ)) k h = h e μ := rfl
theorem av_bind_ite {c : Prop} [Decidable c] (a b : Option av_R) (k : Option av_V → av_M → Option av_R) (h : Nat × Nat → av_M → Option av_R) : av_bind (if c then a else b) k h = if c then av_bind a k h else av_bind b k h := by
  split <;> rfl
abbrev av_i (x : Int32) : av_V := .inl x
abbrev av_l (x : Int64) : av_V := .inr (.inl x)
abbrev av_r (f i : Nat) : av_V := .inr (.inr (some (f, i)))
section Rows
variable {y pc : Nat}
theorem k_x {i : Instr} (h : tl_ins y pc = some i) {ls : List (Option av_V)} {st : List av_V} {μ : av_M} {y' pc' : Nat} {ls' : List (Option av_V)} {st' : List av_V} {μ' : av_M} (e : av_x i y pc ls st μ = av_nx y' pc' ls' st' μ') : av_run y pc ls st μ = av_run y' pc' ls' st' μ' := by
  rw [av_run_eq h, e]; rfl
theorem k_f {i : Instr} (h : tl_ins y pc = some i) {ls : List (Option av_V)} {st : List av_V} {μ : av_M} {r : Option av_R} (e : av_x i y pc ls st μ = .inl r) : av_run y pc ls st μ = r := by
  rw [av_run_eq h, e]; rfl
theorem k_br {i : Instr} (h : tl_ins y pc = some i) {ls : List (Option av_V)} {st st' : List av_V} {μ : av_M} {off : Int} {t : Nat} {c : Prop} [Decidable c] (e : av_x i y pc ls st μ = av_br y pc off c ls st' μ) (ht : av_tgt pc off = some t) : av_run y pc ls st μ = if c then av_run y t ls st' μ else av_run y (pc + 3) ls st' μ := by
  rw [av_run_eq h, e]
  unfold av_br
  rw [ht]
  dsimp only
  split <;> rfl
theorem k_goto {off : Int} {t : Nat} (h : tl_ins y pc = some (.goto off)) (ht : av_tgt pc off = some t) (ls : List (Option av_V)) (st : List av_V) (μ : av_M) : av_run y pc ls st μ = av_run y t ls st μ := by
  refine k_x h ?_
  show (match av_tgt pc off with
    | some t => av_nx y t ls st μ
    | none => .inl none) = _
  rw [ht]
theorem k_ldc {idx : Nat} {v : Int32} (h : tl_ins y pc = some (.ldc_w idx)) (hc : tl_cstq (tl_own y) idx = some v) (ls : List (Option av_V)) (st : List av_V) (μ : av_M) : av_run y pc ls st μ = av_run y (pc + 3) ls (.inl v :: st) μ := by
  refine k_x h ?_
  show av_ldc y pc 3 idx ls st μ = _
  unfold av_ldc
  rw [hc]
theorem k_iz {i : Instr} {f : Int32 → Int32 → Int32} (h : tl_ins y pc = some i) (hi : ∀ ls st μ, av_x i y pc ls st μ = av_iz f y pc ls st μ) (ls : List (Option av_V)) (r : List av_V) (μ : av_M) (a b : Int32) (hb : ¬ b = 0) : av_run y pc ls (.inl b :: .inl a :: r) μ = av_run y (pc + 1) ls (.inl (f a b) :: r) μ := by
  refine k_x h ?_
  rw [hi]
  show (if b = 0 then _ else _) = _
  rw [if_neg hb]
theorem k_tsI {d lo hi o : Int} {offs : Array Int} {t : Nat} (h : tl_ins y pc = some (.tableswitch d lo hi offs)) (ls : List (Option av_V)) (r : List av_V) (μ : av_M) (x : Int32) (h1 : ¬ (x.toInt < lo ∨ hi < x.toInt)) (ho : offs[(x.toInt - lo).toNat]? = some o) (ht : av_tgt pc o = some t) : av_run y pc ls (.inl x :: r) μ = av_run y t ls r μ := by
  refine k_x h ?_
  show (if x.toInt < lo ∨ hi < x.toInt then _ else _) = _
  rw [if_neg h1, ho]
  dsimp only
  rw [ht]
theorem k_tsO {d lo hi : Int} {offs : Array Int} {t : Nat} (h : tl_ins y pc = some (.tableswitch d lo hi offs)) (ls : List (Option av_V)) (r : List av_V) (μ : av_M) (x : Int32) (h1 : x.toInt < lo ∨ hi < x.toInt) (ht : av_tgt pc d = some t) : av_run y pc ls (.inl x :: r) μ = av_run y t ls r μ := by
  refine k_x h ?_
  show (if x.toInt < lo ∨ hi < x.toInt then _ else _) = _
  rw [if_pos h1, ht]
theorem k_aldi (h : tl_ins y pc = some .iaload) (ls : List (Option av_V)) (r : List av_V) (μ : av_M) (j : Int32) (f i : Nat) (hk : av_kd f = 20 ∨ av_kd f = 19) (ho : av_outD j (av_len μ f i) = false) : av_run y pc ls (.inl j :: .inr (.inr (some (f, i))) :: r) μ = av_run y (pc + 1) ls (av_val μ f i j.toNatClampNeg :: r) μ :=
  k_x h (if_pos ⟨hk, ho⟩)
theorem k_aldz (h : tl_ins y pc = some .baload) (ls : List (Option av_V)) (r : List av_V) (μ : av_M) (j : Int32) (f i : Nat) (hk : av_kd f = 21) (ho : av_outD j (av_len μ f i) = false) : av_run y pc ls (.inl j :: .inr (.inr (some (f, i))) :: r) μ = av_run y (pc + 1) ls (av_val μ f i j.toNatClampNeg :: r) μ :=
  k_x h (if_pos ⟨hk, ho⟩)
theorem k_aldl (h : tl_ins y pc = some .laload) (ls : List (Option av_V)) (r : List av_V) (μ : av_M) (j : Int32) (f i : Nat) (hk : av_kd f = 22) (ho : av_outD j (av_len μ f i) = false) : av_run y pc ls (.inl j :: .inr (.inr (some (f, i))) :: r) μ = av_run y (pc + 1) ls (av_val μ f i j.toNatClampNeg :: r) μ :=
  k_x h (if_pos ⟨hk, ho⟩)
theorem k_alda (h : tl_ins y pc = some .aaload) (ls : List (Option av_V)) (r : List av_V) (μ : av_M) (j : Int32) (f i : Nat) (hk : 30 ≤ av_kd f ∧ av_kd f < 39) (ho : av_outD j (av_len μ f i) = false) : av_run y pc ls (.inl j :: .inr (.inr (some (f, i))) :: r) μ = av_run y (pc + 1) ls (av_val μ f i j.toNatClampNeg :: r) μ :=
  k_x h (if_pos ⟨hk.1, hk.2, ho⟩)
theorem k_asti (h : tl_ins y pc = some .iastore) (ls : List (Option av_V)) (r : List av_V) (μ : av_M) (v j : Int32) (f i : Nat) (hk : av_kd f = 20) (ho : av_outD j (av_len μ f i) = false) : av_run y pc ls (.inl v :: .inl j :: .inr (.inr (some (f, i))) :: r) μ = av_run y (pc + 1) ls r (av_wr μ f i j.toNatClampNeg (.inl v)) :=
  k_x h (if_pos ⟨hk, ho, rfl⟩)
theorem k_astz (h : tl_ins y pc = some .bastore) (ls : List (Option av_V)) (r : List av_V) (μ : av_M) (v j : Int32) (f i : Nat) (hk : av_kd f = 21) (hz : v = 0 ∨ v = 1) (ho : av_outD j (av_len μ f i) = false) : av_run y pc ls (.inl v :: .inl j :: .inr (.inr (some (f, i))) :: r) μ = av_run y (pc + 1) ls r (av_wr μ f i j.toNatClampNeg (.inl v)) :=
  k_x h (if_pos ⟨hk, ho, by simpa [av_isZ] using hz⟩)
theorem k_astl (h : tl_ins y pc = some .lastore) (ls : List (Option av_V)) (r : List av_V) (μ : av_M) (v : Int64) (j : Int32) (f i : Nat) (hk : av_kd f = 22) (ho : av_outD j (av_len μ f i) = false) : av_run y pc ls (.inr (.inl v) :: .inl j :: .inr (.inr (some (f, i))) :: r) μ = av_run y (pc + 1) ls r (av_wr μ f i j.toNatClampNeg (.inr (.inl v))) :=
  k_x h (if_pos ⟨hk, ho, rfl⟩)
theorem k_asta (h : tl_ins y pc = some .aastore) (ls : List (Option av_V)) (r : List av_V) (μ : av_M) (g n : Nat) (j : Int32) (f i : Nat) (hk : av_kd f = 30 + av_kd g ∧ av_kd g < 9) (ho : av_outD j (av_len μ f i) = false) : av_run y pc ls (.inr (.inr (some (g, n))) :: .inl j :: .inr (.inr (some (f, i))) :: r) μ = av_run y (pc + 1) ls r (av_wr μ f i j.toNatClampNeg (.inr (.inr (some (g, n))))) :=
  k_x h (if_pos ⟨hk.1, hk.2, ho⟩)
theorem k_alen (h : tl_ins y pc = some .arraylength) (ls : List (Option av_V)) (r : List av_V) (μ : av_M) (f i : Nat) (hk : 19 ≤ av_kd f ∧ av_kd f < 39) : av_run y pc ls (.inr (.inr (some (f, i))) :: r) μ = av_run y (pc + 1) ls (.inl (nI (av_len μ f i)) :: r) μ :=
  k_x h (if_pos hk)
theorem k_get {idx ci k : Nat} (h : tl_ins y pc = some (.getfield idx)) (hf : tl_fldq (tl_own y) idx = some (ci, k)) (hc : ci < 9 ∧ k < tl_NF.getD ci 0) (ls : List (Option av_V)) (r : List av_V) (μ : av_M) (f i : Nat) (hk : av_kd f = ci) : av_run y pc ls (.inr (.inr (some (f, i))) :: r) μ = av_run y (pc + 3) ls (av_val μ f i k :: r) μ := by
  refine k_x h ?_
  show av_get idx y pc ls _ μ = _
  unfold av_get
  rw [hf]
  exact if_pos ⟨hk, hc.1, hc.2⟩
theorem k_put {idx ci k : Nat} (h : tl_ins y pc = some (.putfield idx)) (hf : tl_fldq (tl_own y) idx = some (ci, k)) (hc : ci < 9 ∧ k < tl_NF.getD ci 0) (hw : av_fin ci k = false ∨ (av_isInit y = true ∧ tl_own y = ci)) (ls : List (Option av_V)) (r : List av_V) (μ : av_M) (v : av_V) (f i : Nat) (hk : av_kd f = ci) (hv : av_fit (tl_ty ci k) v = true) : av_run y pc ls (v :: .inr (.inr (some (f, i))) :: r) μ = av_run y (pc + 3) ls r (av_wr μ f i k v) := by
  refine k_x h ?_
  show av_put idx y pc ls _ μ = _
  unfold av_put
  rw [hf]
  exact if_pos ⟨hk, hc.1, hc.2, hv, hw⟩
theorem k_call {i : Instr} (h : tl_ins y pc = some i) {ls : List (Option av_V)} {st rest : List av_V} {μ : av_M} {z : Nat} {as : List av_V} (e : av_x i y pc ls st μ = av_call y pc ls rest μ z as) (hh : tl_hh y = []) (hc : tl_fr z + 1 ≤ tl_fr y ∧ 8 + (tl_max z + 11) + tl_lo z ≤ tl_lo y ∧ as.length ≤ tl_max z) (hw : av_wt rest ≤ 8) (ha : as.all av_c1 = true) : av_run y pc ls st μ = av_bind (av_cal z as μ) (fun v μ' => av_run y (pc + 3) ls (v.toList ++ rest) μ') (fun e μ' => some (.inr e, μ')) := by
  rw [av_run_eq h, e]
  unfold av_call
  rw [if_pos ⟨hc.1, hc.2.1, hw, hc.2.2, ha⟩]
  show (match av_cal z as μ with
    | none => none
    | some r => _) = _
  unfold av_bind
  cases av_cal z as μ with
  | none => rfl
  | some r =>
    obtain ⟨o, m⟩ := r
    cases o with
    | inl v => rfl
    | inr e => dsimp only; rw [if_pos hh]
end Rows
