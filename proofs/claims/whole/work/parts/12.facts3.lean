/-! facts of the methods and of the calls -/
def tl_nmz (z : Nat) : MethodName := if z = 1000 then objectInit else if z = 1001 then Lib.Math.max.name else if z = 1002 then Lib.Math.min.name else tl_name z
def tl_wk1 : Cond → Option (String × String × String)
  | .code x _ _ _ => some (x.cls, x.name, x.desc)
  | .codeWith x _ _ _ _ => some (x.cls, x.name, x.desc)
  | _ => none
def tl_wk2 : Cond → Option (Nat × Option FieldType)
  | .code _ _ m r => some (m, r)
  | .codeWith _ _ m r _ => some (m, r)
  | _ => none
def tl_wk3 : Cond → List (Nat × Nat × Nat × Nat)
  | .code _ _ _ _ => []
  | .codeWith _ _ _ _ h => h
  | _ => []
def tl_word (z : Nat) : Cond := (tables_1[tl_cods.getD z 0]?).getD .tt
set_option maxRecDepth 40000 in
theorem tl_wk1_ok : ∀ z, z < 169 → tl_wk1 (tl_word z) = some ((tl_name z).cls, (tl_name z).name, (tl_name z).desc) := by decide +kernel
set_option maxRecDepth 40000 in
theorem tl_wk2_ok : ∀ z, z < 169 → tl_wk2 (tl_word z) = some (tl_max z, tl_ret z) := by decide +kernel
set_option maxRecDepth 40000 in
theorem tl_wk3_ok : ∀ z, z < 169 → tl_wk3 (tl_word z) = (tl_hh z) := by decide +kernel
theorem tl_code_ok {z : Nat} (hz : z < 169) : (Cond.code (tl_name z) (tl_byt z) (tl_max z) (tl_ret z) ∈ lw_tbl ∧ tl_hh z = []) ∨ Cond.codeWith (tl_name z) (tl_byt z) (tl_max z) (tl_ret z) (tl_hh z) ∈ lw_tbl := by
  have g1 := tl_wk1_ok z hz
  have g2 := tl_wk2_ok z hz
  have g3 := tl_wk3_ok z hz
  have hb : tl_byt z = tl_wb (tl_word z) := if_neg (by omega)
  unfold tl_word at g1 g2 g3 hb
  cases hw : tables_1[tl_cods.getD z 0]? with
  | none => rw [hw] at g1; cases g1
  | some w =>
    rw [hw] at g1 g2 g3 hb
    dsimp only [Option.getD_some] at g1 g2 g3 hb
    cases w with
    | code x b m r =>
      obtain ⟨h1, h2, h3⟩ : x.cls = (tl_name z).cls ∧ x.name = (tl_name z).name ∧ x.desc = (tl_name z).desc := by simpa [tl_wk1] using g1
      obtain ⟨h4, h5⟩ : m = tl_max z ∧ r = tl_ret z := by simpa [tl_wk2] using g2
      have h6 : [] = tl_hh z := by simpa [tl_wk3] using g3
      have hx : x = tl_name z := by
        cases x
        cases hn : tl_name z
        rw [hn] at h1 h2 h3
        cases h1; cases h2; cases h3; rfl
      rw [hb, ← hx, ← h4, ← h5]
      exact Or.inl ⟨tl_at hw, h6.symm⟩
    | codeWith x b m r hh =>
      obtain ⟨h1, h2, h3⟩ : x.cls = (tl_name z).cls ∧ x.name = (tl_name z).name ∧ x.desc = (tl_name z).desc := by simpa [tl_wk1] using g1
      obtain ⟨h4, h5⟩ : m = tl_max z ∧ r = tl_ret z := by simpa [tl_wk2] using g2
      have h6 : hh = tl_hh z := by simpa [tl_wk3] using g3
      have hx : x = tl_name z := by
        cases x
        cases hn : tl_name z
        rw [hn] at h1 h2 h3
        cases h1; cases h2; cases h3; rfl
      rw [hb, ← hx, ← h4, ← h5, ← h6]
      exact Or.inr (tl_at hw)
    | _ => cases g1
set_option maxRecDepth 40000 in
theorem tl_sti_ok : ∀ z, z < 169 → tables_1[(tl_sti.getD z (0, 0)).2]? = some (if tl_stq z = 1 then Cond.static (tl_name z) else Cond.instanceMethod (tl_name z)) := by decide +kernel
set_option maxRecDepth 40000 in
theorem tl_sel_ok : ∀ z, z < 169 → tl_stq z = 0 → av_isInit z = false → lw_tbl[tl_sel.getD z 0]? = some (Cond.selects (tl_cn.getD (tl_own z) "") (tl_name z) (tl_name z)) := by decide +kernel
set_option maxRecDepth 40000 in
theorem tl_nm_ok : ∀ z, z < 169 → (tl_name z).cls = tl_cn.getD (tl_own z) "" ∧ tl_own z < 17 ∧ plainName (tl_name z).cls = true ∧ ((tl_name z).cls ≠ "java/lang/invoke/MethodHandle" ∧ (tl_name z).cls ≠ "java/lang/invoke/VarHandle") := by decide +kernel
set_option maxRecDepth 40000 in
theorem tl_invs_ok : ∀ q ∈ tl_invs, tables_1[q.2.2.2.2.2]? = some (if q.2.2.2.2.1 = 0 then Cond.methodLink (tl_cn.getD q.1 "") q.2.1 (tl_nmz q.2.2.1) else Cond.methodLinkNest (tl_cn.getD q.1 "") q.2.1 (tl_nmz q.2.2.1) "TopicLedgers") := by decide +kernel
set_option maxRecDepth 40000 in
theorem tl_invs_n : ∀ q ∈ tl_invs, (parseMethodDescriptor (tl_nmz q.2.2.1).desc).map (fun d => d.parameters.length) = some q.2.2.2.1 := by decide +kernel
theorem tl_invq_ok {o idx z n : Nat} (h : tl_invq o idx = some (z, n)) : (Cond.methodLink (tl_cn.getD o "") idx (tl_nmz z) ∈ lw_tbl ∨ Cond.methodLinkNest (tl_cn.getD o "") idx (tl_nmz z) "TopicLedgers" ∈ lw_tbl) ∧ ∀ sig, parseMethodDescriptor (tl_nmz z).desc = some sig → n = sig.parameters.length := by
  unfold tl_invq at h
  cases hf : tl_invs.find? (fun q => q.1 == o && q.2.1 == idx) with
  | none => rw [hf] at h; cases h
  | some q =>
    rw [hf] at h
    have h2 : (q.2.2.1, q.2.2.2.1) = (z, n) := Option.some.inj h
    have h3 := List.find?_some hf
    simp only [Bool.and_eq_true, beq_iff_eq] at h3
    have h4 := tl_invs_ok q (List.mem_of_find?_eq_some hf)
    have h5 := tl_invs_n q (List.mem_of_find?_eq_some hf)
    cases h2
    rw [h3.1, h3.2] at h4
    refine ⟨?_, fun sig hs => ?_⟩
    · split at h4
      · exact Or.inl (tl_at h4)
      · exact Or.inr (tl_at h4)
    · rw [hs] at h5
      exact (Option.some.inj h5).symm
theorem tl_nmz_lt {z : Nat} (h : z < 169) : tl_nmz z = tl_name z := by unfold tl_nmz; rw [if_neg (by omega), if_neg (by omega), if_neg (by omega)]
theorem tl_lw {w : Cond} {i : Nat} (h : lw_tbl[i]? = some w) : w ∈ lw_tbl := List.mem_of_getElem? h
theorem tl_oi1 : Cond.instanceMethod objectInit ∈ lw_tbl := tl_at (i := 27) (by decide +kernel)
theorem tl_oi2 : Cond.code objectInit ⟨#[0xb1]⟩ 1 none ∈ lw_tbl := tl_at (i := 28) (by decide +kernel)
theorem tl_mmax1 : Cond.static Lib.Math.max.name ∈ lw_tbl := tl_at (i := 36) (by decide +kernel)
theorem tl_mmax2 : Cond.code Lib.Math.max.name Lib.Math.max.code 2 (some .int) ∈ lw_tbl := tl_at (i := 37) (by decide +kernel)
theorem tl_mmin1 : Cond.static Lib.Math.min.name ∈ lw_tbl := tl_at (i := 33) (by decide +kernel)
theorem tl_mmin2 : Cond.code Lib.Math.min.name Lib.Math.min.code 2 (some .int) ∈ lw_tbl := tl_at (i := 34) (by decide +kernel)
theorem tl_mini : Cond.initialized "java/lang/Math" ∈ lw_tbl := tl_at (i := 2) (by decide +kernel)
