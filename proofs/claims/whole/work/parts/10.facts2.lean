/-! more facts of the tables -/
set_option maxRecDepth 20000 in
theorem tl_news_ok : ∀ q ∈ tl_news, tables_1[q.2.2.2]? = some (Cond.classLink (tl_cn.getD q.1 "") q.2.1 (tl_cn.getD q.2.2.1 "")) := by decide +kernel
theorem tl_newq_ok {o idx ci : Nat} (h : tl_newq o idx = some ci) : Cond.classLink (tl_cn.getD o "") idx (tl_cn.getD ci "") ∈ lw_tbl := by
  unfold tl_newq at h
  cases hf : tl_news.find? (fun q => q.1 == o && q.2.1 == idx) with
  | none => rw [hf] at h; cases h
  | some q =>
    rw [hf] at h
    have h2 : q.2.2.1 = ci := Option.some.inj h
    have h3 := List.find?_some hf
    simp only [Bool.and_eq_true, beq_iff_eq] at h3
    have h4 := tl_news_ok q (List.mem_of_find?_eq_some hf)
    rw [h3.1, h3.2, h2] at h4
    exact tl_at h4
set_option maxRecDepth 20000 in
theorem tl_csts_ok : ∀ q ∈ tl_csts, tables_1[q.2.2.2]? = some (Cond.constant (tl_cn.getD q.1 "") q.2.1 q.2.2.1) := by decide +kernel
theorem tl_cstq_ok {o idx : Nat} {v : Int32} (h : tl_cstq o idx = some v) : Cond.constant (tl_cn.getD o "") idx v ∈ lw_tbl := by
  unfold tl_cstq at h
  cases hf : tl_csts.find? (fun q => q.1 == o && q.2.1 == idx) with
  | none => rw [hf] at h; cases h
  | some q =>
    rw [hf] at h
    have h2 : q.2.2.1 = v := Option.some.inj h
    have h3 := List.find?_some hf
    simp only [Bool.and_eq_true, beq_iff_eq] at h3
    have h4 := tl_csts_ok q (List.mem_of_find?_eq_some hf)
    rw [h3.1, h3.2, h2] at h4
    exact tl_at h4
def tl_insP : List Nat := [144, 168, 175, 48, 116, 39, 84, 22, 824]
def tl_iniP : List Nat := [8, 9, 10, 4, 7, 3, 6, 1, 11, 15, 16, 18, 19, 20, 0, 17, 5]
set_option maxRecDepth 20000 in
theorem tl_ins_ok : ∀ ci, ci < 9 → tables_1[tl_insP.getD ci 0]? = some (Cond.instantiable (tl_cn.getD ci "") (tl_NF.getD ci 0)) := by decide +kernel
set_option maxRecDepth 20000 in
theorem tl_ini_ok : ∀ ci, ci < 17 → tables_1[tl_iniP.getD ci 0]? = some (Cond.initialized (tl_cn.getD ci "")) := by decide +kernel
theorem tl_arr_int : Cond.arrayClass .int ∈ lw_tbl := tl_at (i := 83) (by decide +kernel)
theorem tl_arr_boolean : Cond.arrayClass .boolean ∈ lw_tbl := tl_at (i := 950) (by decide +kernel)
theorem tl_arr_long : Cond.arrayClass .long ∈ lw_tbl := tl_at (i := 1156) (by decide +kernel)
theorem tl_over0 : Cond.arrayOver (.object "TopicLedgers$Bookie") ∈ lw_tbl := tl_at (i := 143) (by decide +kernel)
theorem tl_over1 : Cond.arrayOver (.object "TopicLedgers$Broker") ∈ lw_tbl := tl_at (i := 167) (by decide +kernel)
theorem tl_over2 : Cond.arrayOver (.object "TopicLedgers$Delivery") ∈ lw_tbl := tl_at (i := 174) (by decide +kernel)
theorem tl_over3 : Cond.arrayOver (.object "TopicLedgers$Ledger") ∈ lw_tbl := tl_at (i := 45) (by decide +kernel)
theorem tl_over6 : Cond.arrayOver (.object "TopicLedgers$Positions") ∈ lw_tbl := tl_at (i := 47) (by decide +kernel)
theorem tl_over : ∀ ci, 30 + ci ∈ [19, 20, 21, 22, 30, 31, 32, 33, 36] → Cond.arrayOver (.object (tl_cn.getD ci "")) ∈ lw_tbl ∧ av_kty (30 + ci) = .object (tl_cn.getD ci "") := by
  intro ci h
  have h2 : ci = 0 ∨ ci = 1 ∨ ci = 2 ∨ ci = 3 ∨ ci = 6 := by simp at h; omega
  rcases h2 with rfl | rfl | rfl | rfl | rfl
  · exact ⟨tl_over0, rfl⟩
  · exact ⟨tl_over1, rfl⟩
  · exact ⟨tl_over2, rfl⟩
  · exact ⟨tl_over3, rfl⟩
  · exact ⟨tl_over6, rfl⟩
theorem tl_dv : ∀ ci, ci < 9 → ∀ (ad : Nat → Nat → Nat) (k : Nat), av_vm ad (av_dv (tl_ty ci k)) = defaultValue (tl_ty ci k)
  | 0, _ => fun ad k => by show av_vm ad (av_dv (tyF0 k)) = defaultValue (tyF0 k); unfold tyF0; split <;> rfl
  | 1, _ => fun ad k => by show av_vm ad (av_dv (tyF1 k)) = defaultValue (tyF1 k); unfold tyF1; split <;> rfl
  | 2, _ => fun ad k => by show av_vm ad (av_dv (tyF2 k)) = defaultValue (tyF2 k); unfold tyF2; split <;> rfl
  | 3, _ => fun ad k => by show av_vm ad (av_dv (tyF3 k)) = defaultValue (tyF3 k); unfold tyF3; split <;> rfl
  | 4, _ => fun ad k => by show av_vm ad (av_dv (tyF4 k)) = defaultValue (tyF4 k); unfold tyF4; split <;> rfl
  | 5, _ => fun ad k => by show av_vm ad (av_dv (tyF5 k)) = defaultValue (tyF5 k); unfold tyF5; split <;> rfl
  | 6, _ => fun ad k => by show av_vm ad (av_dv (tyF6 k)) = defaultValue (tyF6 k); unfold tyF6; split <;> rfl
  | 7, _ => fun ad k => by show av_vm ad (av_dv (tyF7 k)) = defaultValue (tyF7 k); unfold tyF7; split <;> rfl
  | 8, _ => fun ad k => by show av_vm ad (av_dv (tyF8 k)) = defaultValue (tyF8 k); unfold tyF8; split <;> rfl
  | n + 9, h => absurd h (by omega)
