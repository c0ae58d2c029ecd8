/-! how the heap of the machine holds a memory of the abstract machine -/
def av_vm (ad : Nat → Nat → Nat) : av_V → Value
  | .inl x => .int x
  | .inr (.inl x) => .long x
  | .inr (.inr none) => .null
  | .inr (.inr (some q)) => .ref (ad q.1 q.2)
def av_live (μ : av_M) : av_V → Prop
  | .inr (.inr (some q)) => q.2 < av_cnt μ q.1
  | _ => True
def av_kty : Nat → FieldType
  | 19 => .int
  | 20 => .int
  | 21 => .boolean
  | 22 => .long
  | k => .object (tl_cn.getD (k - 30) "")
def av_arr (cA : ClassId) (n : Nat) (f : Nat → Value) (a : Nat) (H : Heap) : Prop := ∃ cell : Cell, H[a]? = some cell ∧ cell.cls = cA ∧ cell.vm ≠ .unknown ∧ cell.vm.isStatics = false ∧ cell.slots.size = n ∧ ∀ j, j < n → cell.slots[j]? = some (f j)
def av_exc (cC : ClassId) (a : Nat) (H : Heap) : Prop := ∃ cell : Cell, H[a]? = some cell ∧ cell.cls = cC ∧ cell.vm.isStatics = false
def av_cell (D : va_G) (tA : Nat → ClassId) (ad : Nat → Nat → Nat) (μ : av_M) (f i : Nat) (H : Heap) : Prop :=
  (av_kd f < 9 → t_OB (ad f i) (D.1 (av_kd f)) (tl_NF.getD (av_kd f) 0) (D.2 (av_kd f)) H (fun k => av_vm ad (av_val μ f i k))) ∧
  (9 ≤ av_kd f → av_kd f < 14 → av_exc (D.1 (av_kd f)) (ad f i) H) ∧
  (19 ≤ av_kd f → av_kd f < 39 → av_arr (tA (av_kd f)) (av_len μ f i) (fun k => av_vm ad (av_val μ f i k)) (ad f i) H)
def av_W (D : va_G) (tA : Nat → ClassId) (B0 : Nat) (ad : Nat → Nat → Nat) (μ : av_M) (H : Heap) : Prop :=
  (∀ f i, i < av_cnt μ f → av_cell D tA ad μ f i H) ∧
  (∀ f i f' i', i < av_cnt μ f → i' < av_cnt μ f' → ad f i = ad f' i' → f = f' ∧ i = i') ∧
  (∀ f i, i < av_cnt μ f → ad f i < H.size ∧ (av_kd f ≠ 19 → B0 ≤ ad f i)) ∧
  (∀ f i k, i < av_cnt μ f → av_live μ (av_val μ f i k)) ∧
  (∀ (q : Nat) (cell : Cell), B0 ≤ q → H[q]? = some cell → cell.vm.isStatics = false) ∧ B0 ≤ H.size ∧
  (∀ f i, i < av_cnt μ f → av_len μ f i < 65536)
def av_cat1 : av_V → Prop
  | .inr (.inl _) => False
  | _ => True
def av_L (ad : Nat → Nat → Nat) (μ : av_M) (nL : Nat) (ls : List (Option av_V)) (Lc : Array Slot) : Prop :=
  Lc.size = nL ∧ lv_wf Lc ∧ ls.length = nL ∧ ∀ (i : Nat) (v : av_V), ls[i]? = some (some v) → Lc[i]? = some (.val (av_vm ad v)) ∧ av_live μ v ∧ av_cat1 v
def av_K (D : va_G) (tA : Nat → ClassId) (U : State) : Prop :=
  va_K D tl_cl [] U ∧ (∀ ci, 9 ≤ ci → ci < 14 → U.vm.findClass (tl_cn.getD ci "") = some (D.1 ci)) ∧
  (∀ kd, (kd ∈ [19, 20, 21, 22, 30, 31, 32, 33, 36]) → ∃ (k : Class) (comp : ClassId), U.vm.classes[tA kd]? = some k ∧ k.kind = .array comp (av_kty kd) ∧ (kd ≠ 19 → U.vm.findClass ("[" ++ (av_kty kd).toString) = some (tA kd)) ∧ (30 ≤ kd → comp = D.1 (kd - 30)))
/-- the frame: what holds of the method that is walked -/
def av_X (D : va_G) (tA : Nat → ClassId) (p : Program) (R : Room) (s : State) (m : MethodId) (args : Array Value) (meth : Method) (c : Code) (y : Nat) : Prop :=
  p.tables.exec = Jvm.exec ∧ c.code = tl_byt y ∧ c.maxLocals = tl_max y ∧ s.vm.findClass (tl_cn.getD (tl_own y) "") = some m.cls ∧ (∀ w ∈ lw_tbl, w.before args s = true) ∧ meth.locks = false ∧ meth.sig.returnType = tl_ret y ∧ c.exceptionTable.toList = tableOf (tl_hh y) ∧ meth.name = (tl_name y).name ∧ tl_fr y ≤ R.frames ∧ tl_lo y ≤ R.locals ∧ av_K D tA s
/-- a point of the walk: n0, ad0: how many objects there were and where, at the method's entry; c0, s0: what had been made then -/
def av_I (D : va_G) (tA : Nat → ClassId) (B0 : Nat) (n0 : Nat → Nat) (ad0 : Nat → Nat → Nat) (c0 s0 y : Nat) (ad : Nat → Nat → Nat) (ls : List (Option av_V)) (st : List av_V) (μ : av_M) (H : Heap) (locs : List Loc) (cells slots : Nat) (Lc : Array Slot) : Prop :=
  av_W D tA B0 ad μ H ∧ av_L ad μ (tl_max y) ls Lc ∧ (∀ v ∈ st, av_live μ v) ∧ (∀ q ∈ locs, B0 ≤ q.base) ∧ c0 + cells = μ.1.1 ∧ s0 + slots = μ.1.2 ∧ (∀ f, n0 f ≤ av_cnt μ f) ∧ (∀ f i, i < n0 f → ad f i = ad0 f i)
def av_orel (ad : Nat → Nat → Nat) (μ : av_M) : av_O → Outcome → Prop
  | .inl none, oc => oc = .returned none
  | .inl (some v), oc => oc = .returned (some (av_vm ad v)) ∧ av_live μ v
  | .inr e, oc => oc = .threw (ad e.1 e.2) ∧ e.2 < av_cnt μ e.1 ∧ 9 ≤ av_kd e.1 ∧ av_kd e.1 < 14
def av_Qc (D : va_G) (tA : Nat → ClassId) (B0 : Nat) (n0 : Nat → Nat) (ad0 : Nat → Nat → Nat) (o : av_O) (μ : av_M) (oc : Outcome) (t : State) : Prop :=
  ∃ ad : Nat → Nat → Nat, av_W D tA B0 ad μ t.heap ∧ av_orel ad μ o oc ∧ (∀ f, n0 f ≤ av_cnt μ f) ∧ (∀ f i, i < n0 f → ad f i = ad0 f i)
def av_Q (D : va_G) (tA : Nat → ClassId) (B0 : Nat) (n0 : Nat → Nat) (ad0 : Nat → Nat → Nat) (c0 s0 : Nat) (o : av_O) (μ : av_M) (below : List Frame) (s : State) : State → Prop := fun t =>
  ∃ oc : Outcome, t.status = .running ∧ Ended t below oc ∧ av_Qc D tA B0 n0 ad0 o μ oc t ∧ s.WarmedH t.vm ∧ ∃ L : List Loc, s.sameButNew ({ t with vm := s.vm } : State) L (μ.1.1 - c0) (μ.1.2 - s0) ∧ ∀ q ∈ L, B0 ≤ q.base
theorem tl_dec {y pc : Nat} {i : Instr} (h : tl_ins y pc = some i) (hs : tl_isw i = false) : decode (tl_byt y) pc = .ok (i, tl_ilen i) := by
  unfold tl_ins at h
  cases hd : decode (tl_byt y) pc with
  | error q => rw [hd] at h; cases h
  | ok q =>
    rw [hd] at h
    dsimp only at h
    split at h
    · rename_i hq
      cases h
      rw [hs] at hq
      simp only [Bool.false_or, beq_iff_eq] at hq
      rw [← hq]
    · cases h
theorem tl_decS {y pc : Nat} {i : Instr} (h : tl_ins y pc = some i) : ∃ len, decode (tl_byt y) pc = .ok (i, len) := by
  unfold tl_ins at h
  cases hd : decode (tl_byt y) pc with
  | error q => rw [hd] at h; cases h
  | ok q =>
    rw [hd] at h
    dsimp only at h
    split at h
    · cases h; exact ⟨_, rfl⟩
    · cases h
theorem av_tgt_spec {pc t : Nat} {off : Int} (h : av_tgt pc off = some t) : (pc : Int) + off = (t : Int) := by
  unfold av_tgt at h
  split at h
  · cases h; omega
  · cases h
theorem av_vm_cat {ad : Nat → Nat → Nat} {v : av_V} (h : av_cat1 v) : (av_vm ad v).category = 1 := by
  rcases v with x | x | x
  · rfl
  · exact h.elim
  · cases x <;> rfl
theorem av_L.get {ad : Nat → Nat → Nat} {μ : av_M} {nL : Nat} {ls : List (Option av_V)} {Lc : Array Slot} (h : av_L ad μ nL ls Lc) {i : Nat} {v : av_V} (hi : ls[i]? = some (some v)) : Lc[i]? = some (.val (av_vm ad v)) := (h.2.2.2 i v hi).1
def av_asL (ad : Nat → Nat → Nat) (ls : List (Option av_V)) : List (Nat × Value) := (List.range ls.length).filterMap (fun i => match ls[i]? with
  | some (some v) => some (i, av_vm ad v)
  | _ => none)
theorem av_asL_mem {ad : Nat → Nat → Nat} {ls : List (Option av_V)} {q : Nat × Value} : q ∈ av_asL ad ls ↔ ∃ v, ls[q.1]? = some (some v) ∧ q.2 = av_vm ad v := by
  unfold av_asL
  rw [List.mem_filterMap]
  constructor
  · rintro ⟨i, -, h⟩
    split at h
    · rename_i v hv
      cases h
      exact ⟨v, hv, rfl⟩
    · cases h
  · rintro ⟨v, hv, h2⟩
    have hl : q.1 < ls.length := (List.getElem?_eq_some_iff.mp hv).1
    refine ⟨q.1, List.mem_range.mpr hl, ?_⟩
    rw [hv]
    dsimp only
    rw [← h2]
theorem av_L.has {ad : Nat → Nat → Nat} {μ : av_M} {nL : Nat} {ls : List (Option av_V)} {Lc : Array Slot} (h : av_L ad μ nL ls Lc) : lv_has Lc nL (av_asL ad ls) := by
  refine ⟨h.1, h.2.1, fun q hq => ?_⟩
  obtain ⟨v, h1, h2⟩ := av_asL_mem.mp hq
  rw [h2]
  exact h.get h1
theorem av_L.set {ad : Nat → Nat → Nat} {μ : av_M} {nL : Nat} {ls : List (Option av_V)} {Lc Lc' : Array Slot} {k : Nat} {v : av_V} (h : av_L ad μ nL ls Lc) (hl : av_live μ v) (hc : av_cat1 v) (hk : k < ls.length)
    (h' : lv_has Lc' nL ((k, av_vm ad v) :: (av_asL ad ls).filter (fun q => !(q.1 == k) && !(q.1 + 1 == k && q.2.category == 2)))) : av_L ad μ nL (ls.set k (some v)) Lc' := by
  refine ⟨h'.1, h'.2.1, by rw [List.length_set]; exact h.2.2.1, fun i w hw => ?_⟩
  by_cases e : i = k
  · subst e
    rw [List.getElem?_set_self hk] at hw
    cases hw
    exact ⟨h'.2.2 _ List.mem_cons_self, hl, hc⟩
  · rw [List.getElem?_set_ne (fun q => e q.symm)] at hw
    obtain ⟨g1, g2, g3⟩ := h.2.2.2 i w hw
    refine ⟨h'.2.2 (i, av_vm ad w) (List.mem_cons_of_mem _ (List.mem_filter.mpr ⟨av_asL_mem.mpr ⟨w, hw, rfl⟩, ?_⟩)), g2, g3⟩
    have hcat := av_vm_cat (ad := ad) g3
    simp [e, hcat]
