/-! each instruction that goes on in the same frame with the same memory: the machine follows the abstract one -/
def av_KK (D : va_G) (tA : Nat → ClassId) (B0 : Nat) (n0 : Nat → Nat) (ad0 : Nat → Nat → Nat) (c0 s0 y : Nat) (p : Program) (l : Launch) (e : Env) (R : Room) (s : State) (m : MethodId) (args : Array Value) (below : List Frame) (meth : Method) (c : Code) (Q : State → Prop) (pc : Nat) (ls : List (Option av_V)) (st : List av_V) (μ : av_M) : Prop :=
  ∀ (ad : Nat → Nat → Nat) (H : Heap) (locs : List Loc) (cells slots : Nat) (Lc : Array Slot), av_I D tA B0 n0 ad0 c0 s0 y ad ls st μ H locs cells slots Lc → W p l e R s m args below meth c H locs cells slots Q (F0 m pc Lc (st.map (av_vm ad)))
theorem av_I.st {D : va_G} {tA : Nat → ClassId} {B0 : Nat} {n0 : Nat → Nat} {ad0 : Nat → Nat → Nat} {c0 s0 y : Nat} {ad : Nat → Nat → Nat} {ls : List (Option av_V)} {st st' : List av_V} {μ : av_M} {H : Heap} {locs : List Loc} {cells slots : Nat} {Lc : Array Slot} (h : av_I D tA B0 n0 ad0 c0 s0 y ad ls st μ H locs cells slots Lc) (h' : ∀ v ∈ st', av_live μ v) : av_I D tA B0 n0 ad0 c0 s0 y ad ls st' μ H locs cells slots Lc := ⟨h.1, h.2.1, h', h.2.2.2⟩
theorem av_I.ls {D : va_G} {tA : Nat → ClassId} {B0 : Nat} {n0 : Nat → Nat} {ad0 : Nat → Nat → Nat} {c0 s0 y : Nat} {ad : Nat → Nat → Nat} {ls ls' : List (Option av_V)} {st st' : List av_V} {μ : av_M} {H : Heap} {locs : List Loc} {cells slots : Nat} {Lc Lc' : Array Slot} (h : av_I D tA B0 n0 ad0 c0 s0 y ad ls st μ H locs cells slots Lc) (h' : ∀ v ∈ st', av_live μ v) (hL : av_L ad μ (tl_max y) ls' Lc') : av_I D tA B0 n0 ad0 c0 s0 y ad ls' st' μ H locs cells slots Lc' := ⟨h.1, hL, h', h.2.2.2⟩
theorem av_ml {μ : av_M} {v : av_V} {r : List av_V} (h : ∀ x ∈ v :: r, av_live μ x) : av_live μ v ∧ ∀ x ∈ r, av_live μ x := ⟨h v List.mem_cons_self, fun x hx => h x (List.mem_cons_of_mem _ hx)⟩
theorem av_mc {μ : av_M} {v : av_V} {r : List av_V} (hv : av_live μ v) (h : ∀ x ∈ r, av_live μ x) : ∀ x ∈ v :: r, av_live μ x := fun x hx => by
  rcases List.mem_cons.mp hx with rfl | hx
  · exact hv
  · exact h x hx
section Steps7
variable {D : va_G} {tA : Nat → ClassId} {B0 : Nat} {n0 : Nat → Nat} {ad0 : Nat → Nat → Nat} {c0 s0 y : Nat} {p : Program} {l : Launch} {e : Env} {R : Room} {s : State} {m : MethodId} {args : Array Value} {below : List Frame} {meth : Method} {c : Code} {Q : State → Prop} {pc : Nat} {ls : List (Option av_V)} {r : List av_V} {μ : av_M}
theorem st_iadd (X : av_X D tA p R s m args meth c y) (h : tl_ins y pc = some .iadd) {a b : Int32} (K : av_KK D tA B0 n0 ad0 c0 s0 y p l e R s m args below meth c Q (pc + 1) ls (.inl (a + b) :: r) μ) : av_KK D tA B0 n0 ad0 c0 s0 y p l e R s m args below meth c Q pc ls (.inl b :: .inl a :: r) μ := by
  intro ad H locs cells slots Lc I
  exact lv_iadd X.1 X.2.1 (tl_dec h rfl) (K ad H locs cells slots Lc (I.st (av_mc trivial (av_ml (av_ml I.2.2.1).2).2)))
theorem st_isub (X : av_X D tA p R s m args meth c y) (h : tl_ins y pc = some .isub) {a b : Int32} (K : av_KK D tA B0 n0 ad0 c0 s0 y p l e R s m args below meth c Q (pc + 1) ls (.inl (a - b) :: r) μ) : av_KK D tA B0 n0 ad0 c0 s0 y p l e R s m args below meth c Q pc ls (.inl b :: .inl a :: r) μ := by
  intro ad H locs cells slots Lc I
  exact lv_isub X.1 X.2.1 (tl_dec h rfl) (K ad H locs cells slots Lc (I.st (av_mc trivial (av_ml (av_ml I.2.2.1).2).2)))
theorem st_imul (X : av_X D tA p R s m args meth c y) (h : tl_ins y pc = some .imul) {a b : Int32} (K : av_KK D tA B0 n0 ad0 c0 s0 y p l e R s m args below meth c Q (pc + 1) ls (.inl (a * b) :: r) μ) : av_KK D tA B0 n0 ad0 c0 s0 y p l e R s m args below meth c Q pc ls (.inl b :: .inl a :: r) μ := by
  intro ad H locs cells slots Lc I
  exact lv_imul X.1 X.2.1 (tl_dec h rfl) (K ad H locs cells slots Lc (I.st (av_mc trivial (av_ml (av_ml I.2.2.1).2).2)))
theorem st_iand (X : av_X D tA p R s m args meth c y) (h : tl_ins y pc = some .iand) {a b : Int32} (K : av_KK D tA B0 n0 ad0 c0 s0 y p l e R s m args below meth c Q (pc + 1) ls (.inl (a &&& b) :: r) μ) : av_KK D tA B0 n0 ad0 c0 s0 y p l e R s m args below meth c Q pc ls (.inl b :: .inl a :: r) μ := by
  intro ad H locs cells slots Lc I
  exact lv_iand X.1 X.2.1 (tl_dec h rfl) (K ad H locs cells slots Lc (I.st (av_mc trivial (av_ml (av_ml I.2.2.1).2).2)))
theorem st_ior (X : av_X D tA p R s m args meth c y) (h : tl_ins y pc = some .ior) {a b : Int32} (K : av_KK D tA B0 n0 ad0 c0 s0 y p l e R s m args below meth c Q (pc + 1) ls (.inl (a ||| b) :: r) μ) : av_KK D tA B0 n0 ad0 c0 s0 y p l e R s m args below meth c Q pc ls (.inl b :: .inl a :: r) μ := by
  intro ad H locs cells slots Lc I
  exact lv_ior X.1 X.2.1 (tl_dec h rfl) (K ad H locs cells slots Lc (I.st (av_mc trivial (av_ml (av_ml I.2.2.1).2).2)))
theorem st_ixor (X : av_X D tA p R s m args meth c y) (h : tl_ins y pc = some .ixor) {a b : Int32} (K : av_KK D tA B0 n0 ad0 c0 s0 y p l e R s m args below meth c Q (pc + 1) ls (.inl (a ^^^ b) :: r) μ) : av_KK D tA B0 n0 ad0 c0 s0 y p l e R s m args below meth c Q pc ls (.inl b :: .inl a :: r) μ := by
  intro ad H locs cells slots Lc I
  exact lv_ixor X.1 X.2.1 (tl_dec h rfl) (K ad H locs cells slots Lc (I.st (av_mc trivial (av_ml (av_ml I.2.2.1).2).2)))
theorem st_ishl (X : av_X D tA p R s m args meth c y) (h : tl_ins y pc = some .ishl) {a b : Int32} (K : av_KK D tA B0 n0 ad0 c0 s0 y p l e R s m args below meth c Q (pc + 1) ls (.inl (a <<< (b &&& 31)) :: r) μ) : av_KK D tA B0 n0 ad0 c0 s0 y p l e R s m args below meth c Q pc ls (.inl b :: .inl a :: r) μ := by
  intro ad H locs cells slots Lc I
  exact lv_ishl X.1 X.2.1 (tl_dec h rfl) (K ad H locs cells slots Lc (I.st (av_mc trivial (av_ml (av_ml I.2.2.1).2).2)))
theorem st_ishr (X : av_X D tA p R s m args meth c y) (h : tl_ins y pc = some .ishr) {a b : Int32} (K : av_KK D tA B0 n0 ad0 c0 s0 y p l e R s m args below meth c Q (pc + 1) ls (.inl (a >>> (b &&& 31)) :: r) μ) : av_KK D tA B0 n0 ad0 c0 s0 y p l e R s m args below meth c Q pc ls (.inl b :: .inl a :: r) μ := by
  intro ad H locs cells slots Lc I
  exact lv_ishr X.1 X.2.1 (tl_dec h rfl) (K ad H locs cells slots Lc (I.st (av_mc trivial (av_ml (av_ml I.2.2.1).2).2)))
theorem st_iushr (X : av_X D tA p R s m args meth c y) (h : tl_ins y pc = some .iushr) {a b : Int32} (K : av_KK D tA B0 n0 ad0 c0 s0 y p l e R s m args below meth c Q (pc + 1) ls (.inl ((a.toUInt32 >>> (b.toUInt32 &&& Int32.toUInt32 31)).toInt32) :: r) μ) : av_KK D tA B0 n0 ad0 c0 s0 y p l e R s m args below meth c Q pc ls (.inl b :: .inl a :: r) μ := by
  intro ad H locs cells slots Lc I
  exact lv_iushr X.1 X.2.1 (tl_dec h rfl) rfl (K ad H locs cells slots Lc (I.st (av_mc trivial (av_ml (av_ml I.2.2.1).2).2)))
theorem st_idiv (X : av_X D tA p R s m args meth c y) (h : tl_ins y pc = some .idiv) {a b : Int32} (hb : ¬ b = 0) (K : av_KK D tA B0 n0 ad0 c0 s0 y p l e R s m args below meth c Q (pc + 1) ls (.inl (a / b) :: r) μ) : av_KK D tA B0 n0 ad0 c0 s0 y p l e R s m args below meth c Q pc ls (.inl b :: .inl a :: r) μ := by
  intro ad H locs cells slots Lc I
  exact lv_idiv X.1 X.2.1 (tl_dec h rfl) hb (K ad H locs cells slots Lc (I.st (av_mc trivial (av_ml (av_ml I.2.2.1).2).2)))
theorem st_irem (X : av_X D tA p R s m args meth c y) (h : tl_ins y pc = some .irem) {a b : Int32} (hb : ¬ b = 0) (K : av_KK D tA B0 n0 ad0 c0 s0 y p l e R s m args below meth c Q (pc + 1) ls (.inl (a - a / b * b) :: r) μ) : av_KK D tA B0 n0 ad0 c0 s0 y p l e R s m args below meth c Q pc ls (.inl b :: .inl a :: r) μ := by
  intro ad H locs cells slots Lc I
  exact lv_irem X.1 X.2.1 (tl_dec h rfl) hb (K ad H locs cells slots Lc (I.st (av_mc trivial (av_ml (av_ml I.2.2.1).2).2)))
theorem st_i2l (X : av_X D tA p R s m args meth c y) (h : tl_ins y pc = some .i2l) {a : Int32} (K : av_KK D tA B0 n0 ad0 c0 s0 y p l e R s m args below meth c Q (pc + 1) ls (.inr (.inl a.toInt64) :: r) μ) : av_KK D tA B0 n0 ad0 c0 s0 y p l e R s m args below meth c Q pc ls (.inl a :: r) μ := by
  intro ad H locs cells slots Lc I
  exact lv_i2l X.1 X.2.1 (tl_dec h rfl) rfl (K ad H locs cells slots Lc (I.st (av_mc trivial (av_ml I.2.2.1).2)))
theorem st_lcmp (X : av_X D tA p R s m args meth c y) (h : tl_ins y pc = some .lcmp) {a b : Int64} (K : av_KK D tA B0 n0 ad0 c0 s0 y p l e R s m args below meth c Q (pc + 1) ls (.inl (lg_cmp a b) :: r) μ) : av_KK D tA B0 n0 ad0 c0 s0 y p l e R s m args below meth c Q pc ls (.inr (.inl b) :: .inr (.inl a) :: r) μ := by
  intro ad H locs cells slots Lc I
  exact W.lcmp X.1 X.2.1 (tl_dec h rfl) (K ad H locs cells slots Lc (I.st (av_mc trivial (av_ml (av_ml I.2.2.1).2).2)))
theorem st_iconst (X : av_X D tA p R s m args meth c y) {n : Int} (h : tl_ins y pc = some (.iconst n)) (K : av_KK D tA B0 n0 ad0 c0 s0 y p l e R s m args below meth c Q (pc + 1) ls (.inl (Int32.ofInt n) :: r) μ) : av_KK D tA B0 n0 ad0 c0 s0 y p l e R s m args below meth c Q pc ls r μ := by
  intro ad H locs cells slots Lc I
  exact lv_iconst X.1 X.2.1 (tl_dec h rfl) rfl (K ad H locs cells slots Lc (I.st (av_mc trivial I.2.2.1)))
theorem st_bipush (X : av_X D tA p R s m args meth c y) {n : Int} (h : tl_ins y pc = some (.bipush n)) (K : av_KK D tA B0 n0 ad0 c0 s0 y p l e R s m args below meth c Q (pc + 2) ls (.inl ((Int8.ofInt n).toInt32) :: r) μ) : av_KK D tA B0 n0 ad0 c0 s0 y p l e R s m args below meth c Q pc ls r μ := by
  intro ad H locs cells slots Lc I
  exact lv_bipush X.1 X.2.1 (tl_dec h rfl) rfl (K ad H locs cells slots Lc (I.st (av_mc trivial I.2.2.1)))
theorem st_sipush (X : av_X D tA p R s m args meth c y) {n : Int} (h : tl_ins y pc = some (.sipush n)) (K : av_KK D tA B0 n0 ad0 c0 s0 y p l e R s m args below meth c Q (pc + 3) ls (.inl ((Int16.ofInt n).toInt32) :: r) μ) : av_KK D tA B0 n0 ad0 c0 s0 y p l e R s m args below meth c Q pc ls r μ := by
  intro ad H locs cells slots Lc I
  exact lv_sipush X.1 X.2.1 (tl_dec h rfl) rfl (K ad H locs cells slots Lc (I.st (av_mc trivial I.2.2.1)))
theorem st_iload (X : av_X D tA p R s m args meth c y) {k : Nat} (h : tl_ins y pc = some (.iload k)) {v : Int32} (hl : ls[k]? = some (some (.inl v))) (K : av_KK D tA B0 n0 ad0 c0 s0 y p l e R s m args below meth c Q (pc + 2) ls (.inl v :: r) μ) : av_KK D tA B0 n0 ad0 c0 s0 y p l e R s m args below meth c Q pc ls r μ := by
  intro ad H locs cells slots Lc I
  exact lv_iload X.1 X.2.1 (tl_dec h rfl) (I.2.1.get hl) (K ad H locs cells slots Lc (I.st (av_mc trivial I.2.2.1)))
theorem st_iload_n (X : av_X D tA p R s m args meth c y) {k : Fin 4} (h : tl_ins y pc = some (.iload_n k)) {v : Int32} (hl : ls[k.val]? = some (some (.inl v))) (K : av_KK D tA B0 n0 ad0 c0 s0 y p l e R s m args below meth c Q (pc + 1) ls (.inl v :: r) μ) : av_KK D tA B0 n0 ad0 c0 s0 y p l e R s m args below meth c Q pc ls r μ := by
  intro ad H locs cells slots Lc I
  exact lv_iload_n X.1 X.2.1 (tl_dec h rfl) rfl (I.2.1.get hl) (K ad H locs cells slots Lc (I.st (av_mc trivial I.2.2.1)))
theorem st_aload (X : av_X D tA p R s m args meth c y) {k : Nat} (h : tl_ins y pc = some (.aload k)) {q : Nat × Nat} (hl : ls[k]? = some (some (.inr (.inr (some q))))) (K : av_KK D tA B0 n0 ad0 c0 s0 y p l e R s m args below meth c Q (pc + 2) ls (.inr (.inr (some q)) :: r) μ) : av_KK D tA B0 n0 ad0 c0 s0 y p l e R s m args below meth c Q pc ls r μ := by
  intro ad H locs cells slots Lc I
  exact lv_aload X.1 X.2.1 (tl_dec h rfl) (I.2.1.get hl) (K ad H locs cells slots Lc (I.st (av_mc (I.2.1.2.2.2 _ _ hl).2.1 I.2.2.1)))
theorem st_aload_n (X : av_X D tA p R s m args meth c y) {k : Fin 4} (h : tl_ins y pc = some (.aload_n k)) {q : Nat × Nat} (hl : ls[k.val]? = some (some (.inr (.inr (some q))))) (K : av_KK D tA B0 n0 ad0 c0 s0 y p l e R s m args below meth c Q (pc + 1) ls (.inr (.inr (some q)) :: r) μ) : av_KK D tA B0 n0 ad0 c0 s0 y p l e R s m args below meth c Q pc ls r μ := by
  intro ad H locs cells slots Lc I
  exact lv_aload_n X.1 X.2.1 (tl_dec h rfl) rfl (I.2.1.get hl) (K ad H locs cells slots Lc (I.st (av_mc (I.2.1.2.2.2 _ _ hl).2.1 I.2.2.1)))
theorem st_istore (X : av_X D tA p R s m args meth c y) {k : Nat} (h : tl_ins y pc = some (.istore k)) {v : Int32} (hk : k < ls.length) (K : av_KK D tA B0 n0 ad0 c0 s0 y p l e R s m args below meth c Q (pc + 2) (ls.set k (some (.inl v))) r μ) : av_KK D tA B0 n0 ad0 c0 s0 y p l e R s m args below meth c Q pc ls (.inl v :: r) μ := by
  intro ad H locs cells slots Lc I
  refine lv_istore X.1 X.2.1 (tl_dec h rfl) I.2.1.has (by rw [← I.2.1.2.2.1]; exact hk) rfl (fun Lc1 h1 => ?_)
  exact K ad H locs cells slots Lc1 (I.ls (av_ml I.2.2.1).2 (I.2.1.set (v := .inl v) trivial trivial hk h1))
theorem st_istore_n (X : av_X D tA p R s m args meth c y) {k : Fin 4} (h : tl_ins y pc = some (.istore_n k)) {v : Int32} (hk : k.val < ls.length) (K : av_KK D tA B0 n0 ad0 c0 s0 y p l e R s m args below meth c Q (pc + 1) (ls.set k.val (some (.inl v))) r μ) : av_KK D tA B0 n0 ad0 c0 s0 y p l e R s m args below meth c Q pc ls (.inl v :: r) μ := by
  intro ad H locs cells slots Lc I
  refine lv_istore_n X.1 X.2.1 (tl_dec h rfl) rfl I.2.1.has (by rw [← I.2.1.2.2.1]; exact hk) rfl (fun Lc1 h1 => ?_)
  exact K ad H locs cells slots Lc1 (I.ls (av_ml I.2.2.1).2 (I.2.1.set (v := .inl v) trivial trivial hk h1))
theorem st_astore (X : av_X D tA p R s m args meth c y) {k : Nat} (h : tl_ins y pc = some (.astore k)) {q : Nat × Nat} (hk : k < ls.length) (K : av_KK D tA B0 n0 ad0 c0 s0 y p l e R s m args below meth c Q (pc + 2) (ls.set k (some (.inr (.inr (some q))))) r μ) : av_KK D tA B0 n0 ad0 c0 s0 y p l e R s m args below meth c Q pc ls (.inr (.inr (some q)) :: r) μ := by
  intro ad H locs cells slots Lc I
  refine lv_astore X.1 X.2.1 (tl_dec h rfl) I.2.1.has (by rw [← I.2.1.2.2.1]; exact hk) rfl (fun Lc1 h1 => ?_)
  exact K ad H locs cells slots Lc1 (I.ls (av_ml I.2.2.1).2 (I.2.1.set (v := .inr (.inr (some q))) (av_ml I.2.2.1).1 trivial hk h1))
theorem st_astore_n (X : av_X D tA p R s m args meth c y) {k : Fin 4} (h : tl_ins y pc = some (.astore_n k)) {q : Nat × Nat} (hk : k.val < ls.length) (K : av_KK D tA B0 n0 ad0 c0 s0 y p l e R s m args below meth c Q (pc + 1) (ls.set k.val (some (.inr (.inr (some q))))) r μ) : av_KK D tA B0 n0 ad0 c0 s0 y p l e R s m args below meth c Q pc ls (.inr (.inr (some q)) :: r) μ := by
  intro ad H locs cells slots Lc I
  refine lv_astore_n X.1 X.2.1 (tl_dec h rfl) rfl I.2.1.has (by rw [← I.2.1.2.2.1]; exact hk) rfl (fun Lc1 h1 => ?_)
  exact K ad H locs cells slots Lc1 (I.ls (av_ml I.2.2.1).2 (I.2.1.set (v := .inr (.inr (some q))) (av_ml I.2.2.1).1 trivial hk h1))
theorem st_iinc (X : av_X D tA p R s m args meth c y) {k : Nat} {n : Int} (h : tl_ins y pc = some (.iinc k n)) {v : Int32} (hl : ls[k]? = some (some (.inl v))) (K : av_KK D tA B0 n0 ad0 c0 s0 y p l e R s m args below meth c Q (pc + 3) (ls.set k (some (.inl (v + Int32.ofInt n)))) r μ) : av_KK D tA B0 n0 ad0 c0 s0 y p l e R s m args below meth c Q pc ls r μ := by
  intro ad H locs cells slots Lc I
  have hk : k < ls.length := (List.getElem?_eq_some_iff.mp hl).1
  obtain ⟨j, hj⟩ := List.getElem?_of_mem (av_asL_mem (ad := ad) (ls := ls) (q := (k, .int v)).mpr ⟨.inl v, hl, rfl⟩)
  refine lv_iinc X.1 X.2.1 (tl_dec h rfl) I.2.1.has hj rfl (by rw [← I.2.1.2.2.1]; exact hk) rfl (fun Lc1 h1 => ?_)
  exact K ad H locs cells slots Lc1 (I.ls I.2.2.1 (I.2.1.set (v := .inl (v + Int32.ofInt n)) trivial trivial hk h1))
theorem st_dupI (X : av_X D tA p R s m args meth c y) (h : tl_ins y pc = some .dup) {v : Int32} (K : av_KK D tA B0 n0 ad0 c0 s0 y p l e R s m args below meth c Q (pc + 1) ls (.inl v :: .inl v :: r) μ) : av_KK D tA B0 n0 ad0 c0 s0 y p l e R s m args below meth c Q pc ls (.inl v :: r) μ := by
  intro ad H locs cells slots Lc I
  exact lv_dup X.1 X.2.1 (tl_dec h rfl) rfl (K ad H locs cells slots Lc (I.st (av_mc trivial I.2.2.1)))
theorem st_dupA (X : av_X D tA p R s m args meth c y) (h : tl_ins y pc = some .dup) {v : Option (Nat × Nat)} (K : av_KK D tA B0 n0 ad0 c0 s0 y p l e R s m args below meth c Q (pc + 1) ls (.inr (.inr v) :: .inr (.inr v) :: r) μ) : av_KK D tA B0 n0 ad0 c0 s0 y p l e R s m args below meth c Q pc ls (.inr (.inr v) :: r) μ := by
  intro ad H locs cells slots Lc I
  exact lv_dup X.1 X.2.1 (tl_dec h rfl) (av_vm_cat (v := .inr (.inr v)) trivial) (K ad H locs cells slots Lc (I.st (av_mc (av_ml I.2.2.1).1 I.2.2.1)))
theorem st_dup2 (X : av_X D tA p R s m args meth c y) (h : tl_ins y pc = some .dup2) {v : Int32} {w : Option (Nat × Nat)} (K : av_KK D tA B0 n0 ad0 c0 s0 y p l e R s m args below meth c Q (pc + 1) ls (.inl v :: .inr (.inr w) :: .inl v :: .inr (.inr w) :: r) μ) : av_KK D tA B0 n0 ad0 c0 s0 y p l e R s m args below meth c Q pc ls (.inl v :: .inr (.inr w) :: r) μ := by
  intro ad H locs cells slots Lc I
  exact lv_dup2_11 X.1 X.2.1 (tl_dec h rfl) rfl (av_vm_cat (v := .inr (.inr w)) trivial) (K ad H locs cells slots Lc (I.st (av_mc trivial (av_mc (av_ml (av_ml I.2.2.1).2).1 I.2.2.1))))
theorem st_pop (X : av_X D tA p R s m args meth c y) (h : tl_ins y pc = some .pop) {v : Int32} (K : av_KK D tA B0 n0 ad0 c0 s0 y p l e R s m args below meth c Q (pc + 1) ls r μ) : av_KK D tA B0 n0 ad0 c0 s0 y p l e R s m args below meth c Q pc ls (.inl v :: r) μ := by
  intro ad H locs cells slots Lc I
  exact lv_pop X.1 X.2.1 (tl_dec h rfl) rfl (K ad H locs cells slots Lc (I.st (av_ml I.2.2.1).2))
theorem st_popA (X : av_X D tA p R s m args meth c y) (h : tl_ins y pc = some .pop) {v : Option (Nat × Nat)} (K : av_KK D tA B0 n0 ad0 c0 s0 y p l e R s m args below meth c Q (pc + 1) ls r μ) : av_KK D tA B0 n0 ad0 c0 s0 y p l e R s m args below meth c Q pc ls (.inr (.inr v) :: r) μ := by
  intro ad H locs cells slots Lc I
  exact lv_pop X.1 X.2.1 (tl_dec h rfl) (av_vm_cat (v := .inr (.inr v)) trivial) (K ad H locs cells slots Lc (I.st (av_ml I.2.2.1).2))
theorem st_goto (X : av_X D tA p R s m args meth c y) {off : Int} (h : tl_ins y pc = some (.goto off)) {t : Nat} (ht : av_tgt pc off = some t) (K : av_KK D tA B0 n0 ad0 c0 s0 y p l e R s m args below meth c Q t ls r μ) : av_KK D tA B0 n0 ad0 c0 s0 y p l e R s m args below meth c Q pc ls r μ := by
  intro ad H locs cells slots Lc I
  exact lv_goto X.1 X.2.1 (tl_dec h rfl) (av_tgt_spec ht) (K ad H locs cells slots Lc I)
theorem st_if_eq (X : av_X D tA p R s m args meth c y) {off : Int} (h : tl_ins y pc = some (.ifCond .eq off)) {x : Int32} {t : Nat} (ht : av_tgt pc off = some t) (K1 : x = 0 → av_KK D tA B0 n0 ad0 c0 s0 y p l e R s m args below meth c Q t ls r μ) (K2 : ¬ (x = 0) → av_KK D tA B0 n0 ad0 c0 s0 y p l e R s m args below meth c Q (pc + 3) ls r μ) : av_KK D tA B0 n0 ad0 c0 s0 y p l e R s m args below meth c Q pc ls (.inl x :: r) μ := by
  intro ad H locs cells slots Lc I
  exact lv_if_eq X.1 X.2.1 (tl_dec h rfl) (av_tgt_spec ht) (fun g => K1 g ad H locs cells slots Lc (I.st (av_ml I.2.2.1).2)) (fun g => K2 g ad H locs cells slots Lc (I.st (av_ml I.2.2.1).2))
theorem st_if_ne (X : av_X D tA p R s m args meth c y) {off : Int} (h : tl_ins y pc = some (.ifCond .ne off)) {x : Int32} {t : Nat} (ht : av_tgt pc off = some t) (K1 : ¬ x = 0 → av_KK D tA B0 n0 ad0 c0 s0 y p l e R s m args below meth c Q t ls r μ) (K2 : ¬ (¬ x = 0) → av_KK D tA B0 n0 ad0 c0 s0 y p l e R s m args below meth c Q (pc + 3) ls r μ) : av_KK D tA B0 n0 ad0 c0 s0 y p l e R s m args below meth c Q pc ls (.inl x :: r) μ := by
  intro ad H locs cells slots Lc I
  exact lv_if_ne X.1 X.2.1 (tl_dec h rfl) (av_tgt_spec ht) (fun g => K1 g ad H locs cells slots Lc (I.st (av_ml I.2.2.1).2)) (fun g => K2 (fun z => z g) ad H locs cells slots Lc (I.st (av_ml I.2.2.1).2))
theorem st_if_lt (X : av_X D tA p R s m args meth c y) {off : Int} (h : tl_ins y pc = some (.ifCond .lt off)) {x : Int32} {t : Nat} (ht : av_tgt pc off = some t) (K1 : x < 0 → av_KK D tA B0 n0 ad0 c0 s0 y p l e R s m args below meth c Q t ls r μ) (K2 : ¬ (x < 0) → av_KK D tA B0 n0 ad0 c0 s0 y p l e R s m args below meth c Q (pc + 3) ls r μ) : av_KK D tA B0 n0 ad0 c0 s0 y p l e R s m args below meth c Q pc ls (.inl x :: r) μ := by
  intro ad H locs cells slots Lc I
  exact lv_if_lt X.1 X.2.1 (tl_dec h rfl) (av_tgt_spec ht) (fun g => K1 g ad H locs cells slots Lc (I.st (av_ml I.2.2.1).2)) (fun g => K2 g ad H locs cells slots Lc (I.st (av_ml I.2.2.1).2))
theorem st_if_ge (X : av_X D tA p R s m args meth c y) {off : Int} (h : tl_ins y pc = some (.ifCond .ge off)) {x : Int32} {t : Nat} (ht : av_tgt pc off = some t) (K1 : 0 ≤ x → av_KK D tA B0 n0 ad0 c0 s0 y p l e R s m args below meth c Q t ls r μ) (K2 : ¬ (0 ≤ x) → av_KK D tA B0 n0 ad0 c0 s0 y p l e R s m args below meth c Q (pc + 3) ls r μ) : av_KK D tA B0 n0 ad0 c0 s0 y p l e R s m args below meth c Q pc ls (.inl x :: r) μ := by
  intro ad H locs cells slots Lc I
  exact lv_if_ge X.1 X.2.1 (tl_dec h rfl) (av_tgt_spec ht) (fun g => K1 g ad H locs cells slots Lc (I.st (av_ml I.2.2.1).2)) (fun g => K2 g ad H locs cells slots Lc (I.st (av_ml I.2.2.1).2))
theorem st_if_gt (X : av_X D tA p R s m args meth c y) {off : Int} (h : tl_ins y pc = some (.ifCond .gt off)) {x : Int32} {t : Nat} (ht : av_tgt pc off = some t) (K1 : 0 < x → av_KK D tA B0 n0 ad0 c0 s0 y p l e R s m args below meth c Q t ls r μ) (K2 : ¬ (0 < x) → av_KK D tA B0 n0 ad0 c0 s0 y p l e R s m args below meth c Q (pc + 3) ls r μ) : av_KK D tA B0 n0 ad0 c0 s0 y p l e R s m args below meth c Q pc ls (.inl x :: r) μ := by
  intro ad H locs cells slots Lc I
  exact lv_if_gt X.1 X.2.1 (tl_dec h rfl) (av_tgt_spec ht) (fun g => K1 g ad H locs cells slots Lc (I.st (av_ml I.2.2.1).2)) (fun g => K2 g ad H locs cells slots Lc (I.st (av_ml I.2.2.1).2))
theorem st_if_le (X : av_X D tA p R s m args meth c y) {off : Int} (h : tl_ins y pc = some (.ifCond .le off)) {x : Int32} {t : Nat} (ht : av_tgt pc off = some t) (K1 : x ≤ 0 → av_KK D tA B0 n0 ad0 c0 s0 y p l e R s m args below meth c Q t ls r μ) (K2 : ¬ (x ≤ 0) → av_KK D tA B0 n0 ad0 c0 s0 y p l e R s m args below meth c Q (pc + 3) ls r μ) : av_KK D tA B0 n0 ad0 c0 s0 y p l e R s m args below meth c Q pc ls (.inl x :: r) μ := by
  intro ad H locs cells slots Lc I
  exact lv_if_le X.1 X.2.1 (tl_dec h rfl) (av_tgt_spec ht) (fun g => K1 g ad H locs cells slots Lc (I.st (av_ml I.2.2.1).2)) (fun g => K2 g ad H locs cells slots Lc (I.st (av_ml I.2.2.1).2))
theorem st_icmp_eq (X : av_X D tA p R s m args meth c y) {off : Int} (h : tl_ins y pc = some (.if_icmp .eq off)) {a b : Int32} {t : Nat} (ht : av_tgt pc off = some t) (K1 : a = b → av_KK D tA B0 n0 ad0 c0 s0 y p l e R s m args below meth c Q t ls r μ) (K2 : ¬ (a = b) → av_KK D tA B0 n0 ad0 c0 s0 y p l e R s m args below meth c Q (pc + 3) ls r μ) : av_KK D tA B0 n0 ad0 c0 s0 y p l e R s m args below meth c Q pc ls (.inl b :: .inl a :: r) μ := by
  intro ad H locs cells slots Lc I
  exact lv_icmp_eq X.1 X.2.1 (tl_dec h rfl) (av_tgt_spec ht) (fun g => K1 g ad H locs cells slots Lc (I.st (av_ml (av_ml I.2.2.1).2).2)) (fun g => K2 g ad H locs cells slots Lc (I.st (av_ml (av_ml I.2.2.1).2).2))
theorem st_icmp_ne (X : av_X D tA p R s m args meth c y) {off : Int} (h : tl_ins y pc = some (.if_icmp .ne off)) {a b : Int32} {t : Nat} (ht : av_tgt pc off = some t) (K1 : ¬ a = b → av_KK D tA B0 n0 ad0 c0 s0 y p l e R s m args below meth c Q t ls r μ) (K2 : ¬ (¬ a = b) → av_KK D tA B0 n0 ad0 c0 s0 y p l e R s m args below meth c Q (pc + 3) ls r μ) : av_KK D tA B0 n0 ad0 c0 s0 y p l e R s m args below meth c Q pc ls (.inl b :: .inl a :: r) μ := by
  intro ad H locs cells slots Lc I
  exact lv_icmp_ne X.1 X.2.1 (tl_dec h rfl) (av_tgt_spec ht) (fun g => K1 g ad H locs cells slots Lc (I.st (av_ml (av_ml I.2.2.1).2).2)) (fun g => K2 (fun z => z g) ad H locs cells slots Lc (I.st (av_ml (av_ml I.2.2.1).2).2))
theorem st_icmp_lt (X : av_X D tA p R s m args meth c y) {off : Int} (h : tl_ins y pc = some (.if_icmp .lt off)) {a b : Int32} {t : Nat} (ht : av_tgt pc off = some t) (K1 : a < b → av_KK D tA B0 n0 ad0 c0 s0 y p l e R s m args below meth c Q t ls r μ) (K2 : ¬ (a < b) → av_KK D tA B0 n0 ad0 c0 s0 y p l e R s m args below meth c Q (pc + 3) ls r μ) : av_KK D tA B0 n0 ad0 c0 s0 y p l e R s m args below meth c Q pc ls (.inl b :: .inl a :: r) μ := by
  intro ad H locs cells slots Lc I
  exact lv_icmp_lt X.1 X.2.1 (tl_dec h rfl) (av_tgt_spec ht) (fun g => K1 g ad H locs cells slots Lc (I.st (av_ml (av_ml I.2.2.1).2).2)) (fun g => K2 g ad H locs cells slots Lc (I.st (av_ml (av_ml I.2.2.1).2).2))
theorem st_icmp_ge (X : av_X D tA p R s m args meth c y) {off : Int} (h : tl_ins y pc = some (.if_icmp .ge off)) {a b : Int32} {t : Nat} (ht : av_tgt pc off = some t) (K1 : b ≤ a → av_KK D tA B0 n0 ad0 c0 s0 y p l e R s m args below meth c Q t ls r μ) (K2 : ¬ (b ≤ a) → av_KK D tA B0 n0 ad0 c0 s0 y p l e R s m args below meth c Q (pc + 3) ls r μ) : av_KK D tA B0 n0 ad0 c0 s0 y p l e R s m args below meth c Q pc ls (.inl b :: .inl a :: r) μ := by
  intro ad H locs cells slots Lc I
  exact lv_icmp_ge X.1 X.2.1 (tl_dec h rfl) (av_tgt_spec ht) (fun g => K1 g ad H locs cells slots Lc (I.st (av_ml (av_ml I.2.2.1).2).2)) (fun g => K2 g ad H locs cells slots Lc (I.st (av_ml (av_ml I.2.2.1).2).2))
theorem st_icmp_gt (X : av_X D tA p R s m args meth c y) {off : Int} (h : tl_ins y pc = some (.if_icmp .gt off)) {a b : Int32} {t : Nat} (ht : av_tgt pc off = some t) (K1 : b < a → av_KK D tA B0 n0 ad0 c0 s0 y p l e R s m args below meth c Q t ls r μ) (K2 : ¬ (b < a) → av_KK D tA B0 n0 ad0 c0 s0 y p l e R s m args below meth c Q (pc + 3) ls r μ) : av_KK D tA B0 n0 ad0 c0 s0 y p l e R s m args below meth c Q pc ls (.inl b :: .inl a :: r) μ := by
  intro ad H locs cells slots Lc I
  exact lv_icmp_gt X.1 X.2.1 (tl_dec h rfl) (av_tgt_spec ht) (fun g => K1 g ad H locs cells slots Lc (I.st (av_ml (av_ml I.2.2.1).2).2)) (fun g => K2 g ad H locs cells slots Lc (I.st (av_ml (av_ml I.2.2.1).2).2))
theorem st_icmp_le (X : av_X D tA p R s m args meth c y) {off : Int} (h : tl_ins y pc = some (.if_icmp .le off)) {a b : Int32} {t : Nat} (ht : av_tgt pc off = some t) (K1 : a ≤ b → av_KK D tA B0 n0 ad0 c0 s0 y p l e R s m args below meth c Q t ls r μ) (K2 : ¬ (a ≤ b) → av_KK D tA B0 n0 ad0 c0 s0 y p l e R s m args below meth c Q (pc + 3) ls r μ) : av_KK D tA B0 n0 ad0 c0 s0 y p l e R s m args below meth c Q pc ls (.inl b :: .inl a :: r) μ := by
  intro ad H locs cells slots Lc I
  exact lv_icmp_le X.1 X.2.1 (tl_dec h rfl) (av_tgt_spec ht) (fun g => K1 g ad H locs cells slots Lc (I.st (av_ml (av_ml I.2.2.1).2).2)) (fun g => K2 g ad H locs cells slots Lc (I.st (av_ml (av_ml I.2.2.1).2).2))
theorem st_tsO (X : av_X D tA p R s m args meth c y) {d lo hi : Int} {offs : Array Int} (h : tl_ins y pc = some (.tableswitch d lo hi offs)) {x : Int32} {t : Nat} (h1 : x.toInt < lo ∨ hi < x.toInt) (ht : av_tgt pc d = some t) (K : av_KK D tA B0 n0 ad0 c0 s0 y p l e R s m args below meth c Q t ls r μ) : av_KK D tA B0 n0 ad0 c0 s0 y p l e R s m args below meth c Q pc ls (.inl x :: r) μ := by
  intro ad H locs cells slots Lc I
  obtain ⟨len, hd⟩ := tl_decS h
  exact lv_tableOut X.1 X.2.1 hd h1 (av_tgt_spec ht) (K ad H locs cells slots Lc (I.st (av_ml I.2.2.1).2))
theorem st_tsI (X : av_X D tA p R s m args meth c y) {d lo hi o : Int} {offs : Array Int} (h : tl_ins y pc = some (.tableswitch d lo hi offs)) {x : Int32} {t : Nat} (h1 : ¬ (x.toInt < lo ∨ hi < x.toInt)) (ho : offs[(x.toInt - lo).toNat]? = some o) (ht : av_tgt pc o = some t) (K : av_KK D tA B0 n0 ad0 c0 s0 y p l e R s m args below meth c Q t ls r μ) : av_KK D tA B0 n0 ad0 c0 s0 y p l e R s m args below meth c Q pc ls (.inl x :: r) μ := by
  intro ad H locs cells slots Lc I
  obtain ⟨len, hd⟩ := tl_decS h
  exact lv_tableIn X.1 X.2.1 hd (fun g => h1 (Or.inl g)) (fun g => h1 (Or.inr g)) ho (av_tgt_spec ht) (K ad H locs cells slots Lc (I.st (av_ml I.2.2.1).2))
end Steps7
