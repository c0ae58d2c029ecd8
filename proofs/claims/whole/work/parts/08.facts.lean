/-! facts of the tables, decided by the kernel -/
def tl_TF (ci : Nat) : u_T := (tl_cl.getD ci ("", TF0, 0)).2.1
theorem tl_cl_at : ∀ ci, ci < 9 → tl_cl[ci]? = some (tl_cn.getD ci "", tl_TF ci, tl_NF.getD ci 0)
  | 0, _ => rfl
  | 1, _ => rfl
  | 2, _ => rfl
  | 3, _ => rfl
  | 4, _ => rfl
  | 5, _ => rfl
  | 6, _ => rfl
  | 7, _ => rfl
  | 8, _ => rfl
  | n + 9, h => absurd h (by omega)
set_option maxRecDepth 20000 in
theorem tl_lay0 : u_ws "TopicLedgers$Bookie" TF0 4 = ([157, 159, 161, 163] : List Nat).filterMap (fun i => tables_1[i]?) := by decide +kernel
set_option maxRecDepth 20000 in
theorem tl_lay1 : u_ws "TopicLedgers$Broker" TF1 11 = ([222, 224, 226, 228, 230, 232, 234, 236, 238, 240, 242] : List Nat).filterMap (fun i => tables_1[i]?) := by decide +kernel
set_option maxRecDepth 20000 in
theorem tl_lay2 : u_ws "TopicLedgers$Delivery" TF2 5 = ([191, 193, 195, 197, 199] : List Nat).filterMap (fun i => tables_1[i]?) := by decide +kernel
set_option maxRecDepth 20000 in
theorem tl_lay3 : u_ws "TopicLedgers$Ledger" TF3 6 = ([70, 72, 74, 76, 78, 80] : List Nat).filterMap (fun i => tables_1[i]?) := by decide +kernel
set_option maxRecDepth 20000 in
theorem tl_lay4 : u_ws "TopicLedgers$Messages" TF4 5 = ([131, 133, 135, 137, 139] : List Nat).filterMap (fun i => tables_1[i]?) := by decide +kernel
set_option maxRecDepth 20000 in
theorem tl_lay5 : u_ws "TopicLedgers$Meta" TF5 6 = ([102, 104, 106, 108, 110, 112] : List Nat).filterMap (fun i => tables_1[i]?) := by decide +kernel
set_option maxRecDepth 20000 in
theorem tl_lay6 : u_ws "TopicLedgers$Positions" TF6 1 = ([90] : List Nat).filterMap (fun i => tables_1[i]?) := by decide +kernel
set_option maxRecDepth 20000 in
theorem tl_lay7 : u_ws "TopicLedgers" TF7 8 = ([253, 255, 257, 259, 261, 263, 265, 267] : List Nat).filterMap (fun i => tables_1[i]?) := by decide +kernel
set_option maxRecDepth 20000 in
theorem tl_lay8 : u_ws "TopicLedgersModel" TF8 39 = ([871, 873, 875, 877, 879, 881, 883, 885, 887, 889, 891, 893, 895, 897, 899, 901, 903, 905, 907, 909, 911, 913, 915, 917, 919, 921, 923, 925, 927, 929, 931, 933, 935, 937, 939, 941, 943, 945, 947] : List Nat).filterMap (fun i => tables_1[i]?) := by decide +kernel
theorem tl_fm {ws : List Cond} {ps : List Nat} (h : ws = ps.filterMap (fun i => tables_1[i]?)) : ∀ w ∈ ws, w ∈ lw_tbl := by
  intro w hw
  rw [h] at hw
  obtain ⟨i, -, hi⟩ := List.mem_filterMap.mp hw
  exact List.mem_append_right _ (List.mem_of_getElem? hi)
theorem tl_at {w : Cond} {i : Nat} (h : tables_1[i]? = some w) : w ∈ lw_tbl := List.mem_append_right _ (List.mem_of_getElem? h)
theorem tl_lay : ∀ ci, ci < 9 → ∀ w ∈ u_ws (tl_cn.getD ci "") (tl_TF ci) (tl_NF.getD ci 0), w ∈ lw_tbl
  | 0, _ => tl_fm tl_lay0
  | 1, _ => tl_fm tl_lay1
  | 2, _ => tl_fm tl_lay2
  | 3, _ => tl_fm tl_lay3
  | 4, _ => tl_fm tl_lay4
  | 5, _ => tl_fm tl_lay5
  | 6, _ => tl_fm tl_lay6
  | 7, _ => tl_fm tl_lay7
  | 8, _ => tl_fm tl_lay8
  | n + 9, h => absurd h (by omega)
set_option maxRecDepth 20000 in
theorem tl_pty0 : ∀ k, k < 4 → parseFieldDescriptor (TF0 k).2.2.1 = some (tyF0 k) := by decide +kernel
set_option maxRecDepth 20000 in
theorem tl_nm0 : ∀ a, a < 4 → ∀ b, b < 4 → a ≠ b → (TF0 a).2.1 ≠ (TF0 b).2.1 := by decide +kernel
theorem tl_dc0 : ∀ k, (TF0 k).1 = "TopicLedgers$Bookie" := by intro k; unfold TF0; split <;> rfl
set_option maxRecDepth 20000 in
theorem tl_pty1 : ∀ k, k < 11 → parseFieldDescriptor (TF1 k).2.2.1 = some (tyF1 k) := by decide +kernel
set_option maxRecDepth 20000 in
theorem tl_nm1 : ∀ a, a < 11 → ∀ b, b < 11 → a ≠ b → (TF1 a).2.1 ≠ (TF1 b).2.1 := by decide +kernel
theorem tl_dc1 : ∀ k, (TF1 k).1 = "TopicLedgers$Broker" := by intro k; unfold TF1; split <;> rfl
set_option maxRecDepth 20000 in
theorem tl_pty2 : ∀ k, k < 5 → parseFieldDescriptor (TF2 k).2.2.1 = some (tyF2 k) := by decide +kernel
set_option maxRecDepth 20000 in
theorem tl_nm2 : ∀ a, a < 5 → ∀ b, b < 5 → a ≠ b → (TF2 a).2.1 ≠ (TF2 b).2.1 := by decide +kernel
theorem tl_dc2 : ∀ k, (TF2 k).1 = "TopicLedgers$Delivery" := by intro k; unfold TF2; split <;> rfl
set_option maxRecDepth 20000 in
theorem tl_pty3 : ∀ k, k < 6 → parseFieldDescriptor (TF3 k).2.2.1 = some (tyF3 k) := by decide +kernel
set_option maxRecDepth 20000 in
theorem tl_nm3 : ∀ a, a < 6 → ∀ b, b < 6 → a ≠ b → (TF3 a).2.1 ≠ (TF3 b).2.1 := by decide +kernel
theorem tl_dc3 : ∀ k, (TF3 k).1 = "TopicLedgers$Ledger" := by intro k; unfold TF3; split <;> rfl
set_option maxRecDepth 20000 in
theorem tl_pty4 : ∀ k, k < 5 → parseFieldDescriptor (TF4 k).2.2.1 = some (tyF4 k) := by decide +kernel
set_option maxRecDepth 20000 in
theorem tl_nm4 : ∀ a, a < 5 → ∀ b, b < 5 → a ≠ b → (TF4 a).2.1 ≠ (TF4 b).2.1 := by decide +kernel
theorem tl_dc4 : ∀ k, (TF4 k).1 = "TopicLedgers$Messages" := by intro k; unfold TF4; split <;> rfl
set_option maxRecDepth 20000 in
theorem tl_pty5 : ∀ k, k < 6 → parseFieldDescriptor (TF5 k).2.2.1 = some (tyF5 k) := by decide +kernel
set_option maxRecDepth 20000 in
theorem tl_nm5 : ∀ a, a < 6 → ∀ b, b < 6 → a ≠ b → (TF5 a).2.1 ≠ (TF5 b).2.1 := by decide +kernel
theorem tl_dc5 : ∀ k, (TF5 k).1 = "TopicLedgers$Meta" := by intro k; unfold TF5; split <;> rfl
set_option maxRecDepth 20000 in
theorem tl_pty6 : ∀ k, k < 1 → parseFieldDescriptor (TF6 k).2.2.1 = some (tyF6 k) := by decide +kernel
set_option maxRecDepth 20000 in
theorem tl_nm6 : ∀ a, a < 1 → ∀ b, b < 1 → a ≠ b → (TF6 a).2.1 ≠ (TF6 b).2.1 := by decide +kernel
theorem tl_dc6 : ∀ k, (TF6 k).1 = "TopicLedgers$Positions" := by intro k; unfold TF6; split <;> rfl
set_option maxRecDepth 20000 in
theorem tl_pty7 : ∀ k, k < 8 → parseFieldDescriptor (TF7 k).2.2.1 = some (tyF7 k) := by decide +kernel
set_option maxRecDepth 20000 in
theorem tl_nm7 : ∀ a, a < 8 → ∀ b, b < 8 → a ≠ b → (TF7 a).2.1 ≠ (TF7 b).2.1 := by decide +kernel
theorem tl_dc7 : ∀ k, (TF7 k).1 = "TopicLedgers" := by intro k; unfold TF7; split <;> rfl
set_option maxRecDepth 20000 in
theorem tl_pty8 : ∀ k, k < 39 → parseFieldDescriptor (TF8 k).2.2.1 = some (tyF8 k) := by decide +kernel
set_option maxRecDepth 20000 in
theorem tl_nm8 : ∀ a, a < 39 → ∀ b, b < 39 → a ≠ b → (TF8 a).2.1 ≠ (TF8 b).2.1 := by decide +kernel
theorem tl_dc8 : ∀ k, (TF8 k).1 = "TopicLedgersModel" := by intro k; unfold TF8; split <;> rfl
theorem tl_pty : ∀ ci, ci < 9 → ∀ k, k < tl_NF.getD ci 0 → parseFieldDescriptor (tl_TF ci k).2.2.1 = some (tl_ty ci k)
  | 0, _ => tl_pty0
  | 1, _ => tl_pty1
  | 2, _ => tl_pty2
  | 3, _ => tl_pty3
  | 4, _ => tl_pty4
  | 5, _ => tl_pty5
  | 6, _ => tl_pty6
  | 7, _ => tl_pty7
  | 8, _ => tl_pty8
  | n + 9, h => absurd h (by omega)
theorem tl_nm : ∀ ci, ci < 9 → ∀ a, a < tl_NF.getD ci 0 → ∀ b, b < tl_NF.getD ci 0 → a ≠ b → (tl_TF ci a).2.1 ≠ (tl_TF ci b).2.1
  | 0, _ => tl_nm0
  | 1, _ => tl_nm1
  | 2, _ => tl_nm2
  | 3, _ => tl_nm3
  | 4, _ => tl_nm4
  | 5, _ => tl_nm5
  | 6, _ => tl_nm6
  | 7, _ => tl_nm7
  | 8, _ => tl_nm8
  | n + 9, h => absurd h (by omega)
theorem tl_dc : ∀ ci, ci < 9 → ∀ k, (tl_TF ci k).1 = tl_cn.getD ci ""
  | 0, _ => tl_dc0
  | 1, _ => tl_dc1
  | 2, _ => tl_dc2
  | 3, _ => tl_dc3
  | 4, _ => tl_dc4
  | 5, _ => tl_dc5
  | 6, _ => tl_dc6
  | 7, _ => tl_dc7
  | 8, _ => tl_dc8
  | n + 9, h => absurd h (by omega)
set_option maxRecDepth 20000 in
theorem tl_flds_ok : ∀ q ∈ tl_flds, tables_1[q.2.2.2.2]? = some (Cond.fieldLink (tl_cn.getD q.1 "") q.2.1 (tl_cn.getD q.2.2.1 "") (tl_TF q.2.2.1 q.2.2.2.1).2.1 (tl_TF q.2.2.1 q.2.2.2.1).2.2.1) := by decide +kernel
theorem tl_fldq_ok {o idx ci k : Nat} (h : tl_fldq o idx = some (ci, k)) : Cond.fieldLink (tl_cn.getD o "") idx (tl_cn.getD ci "") (tl_TF ci k).2.1 (tl_TF ci k).2.2.1 ∈ lw_tbl := by
  unfold tl_fldq at h
  cases hf : tl_flds.find? (fun q => q.1 == o && q.2.1 == idx) with
  | none => rw [hf] at h; cases h
  | some q =>
    rw [hf] at h
    have h2 : (q.2.2.1, q.2.2.2.1) = (ci, k) := Option.some.inj h
    have h3 := List.find?_some hf
    simp only [Bool.and_eq_true, beq_iff_eq] at h3
    have h4 := tl_flds_ok q (List.mem_of_find?_eq_some hf)
    cases h2
    rw [h3.1, h3.2] at h4
    exact tl_at h4
