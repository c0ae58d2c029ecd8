/-! masks of six bits -/
def m6 (m : Int32) : Prop := ∃ j, j < 64 ∧ m = nI j
theorem b6_or : ∀ j, j < 64 → ∀ j', j' < 64 → nI j ||| nI j' = nI (j ||| j') := by decide +kernel
theorem b6_an : ∀ j, j < 64 → ∀ j', j' < 64 → nI j &&& (nI j' ^^^ (-1)) = nI (j &&& (63 ^^^ j')) := by decide +kernel
theorem b6_ad : ∀ j, j < 64 → ∀ j', j' < 64 → nI j &&& nI j' = nI (j &&& j') := by decide +kernel
theorem b6_sh : ∀ k, k < 10 → (1 : Int32) <<< (nI k &&& 31) = nI (2 ^ k) := by decide +kernel
theorem b6_bt : ∀ j, j < 64 → ∀ e, e < 8 → (bt (nI j) e ↔ j.testBit e = true) := by decide +kernel
def pc6 (j : Nat) : Nat := (j.testBit 0).toNat + (j.testBit 1).toNat + (j.testBit 2).toNat + (j.testBit 3).toNat + (j.testBit 4).toNat + (j.testBit 5).toNat
theorem b6_bc : ∀ j, j < 64 → bc (nI j) = nI (pc6 j) := by decide +kernel
theorem b6_17 : ∀ j, j < 64 → F107 (nI j) 6 0 0 = nI (pc6 j) := by decide +kernel
theorem b6_lt : ∀ j, j < 64 → ∀ j', j' < 64 → j ||| j' < 64 := fun j h j' h' => Nat.or_lt_two_pow (n := 6) h h'
theorem b6_la : ∀ j, j < 64 → ∀ j', j &&& j' < 64 := fun j h j' => Nat.lt_of_le_of_lt Nat.and_le_left h
theorem m6_0 : m6 0 := ⟨0, by decide, rfl⟩
theorem m6_or {a b : Int32} (ha : m6 a) (hb : m6 b) : m6 (a ||| b) := by
  obtain ⟨j, hj, rfl⟩ := ha
  obtain ⟨j', hj', rfl⟩ := hb
  exact ⟨j ||| j', b6_lt j hj j' hj', b6_or j hj j' hj'⟩
theorem m6_ad {a b : Int32} (ha : m6 a) (hb : m6 b) : m6 (a &&& b) := by
  obtain ⟨j, hj, rfl⟩ := ha
  obtain ⟨j', hj', rfl⟩ := hb
  exact ⟨j &&& j', b6_la j hj j', b6_ad j hj j' hj'⟩
theorem m6_an {a b : Int32} (ha : m6 a) (hb : m6 b) : m6 (a &&& (b ^^^ (-1))) := by
  obtain ⟨j, hj, rfl⟩ := ha
  obtain ⟨j', hj', rfl⟩ := hb
  exact ⟨j &&& (63 ^^^ j'), b6_la j hj _, b6_an j hj j' hj'⟩
theorem m6_sh {k : Nat} (hk : k < 6) : m6 (1 <<< (nI k &&& 31)) := ⟨2 ^ k, Nat.pow_lt_pow_right (by decide) hk, b6_sh k (by omega)⟩
theorem bt_or {a b : Int32} (ha : m6 a) (hb : m6 b) {e : Nat} (he : e < 8) : bt (a ||| b) e ↔ bt a e ∨ bt b e := by
  obtain ⟨j, hj, rfl⟩ := ha
  obtain ⟨j', hj', rfl⟩ := hb
  rw [b6_or j hj j' hj', b6_bt _ (b6_lt j hj j' hj') e he, b6_bt j hj e he, b6_bt j' hj' e he, Nat.testBit_or, Bool.or_eq_true]
theorem bt_ad {a b : Int32} (ha : m6 a) (hb : m6 b) {e : Nat} (he : e < 8) : bt (a &&& b) e ↔ bt a e ∧ bt b e := by
  obtain ⟨j, hj, rfl⟩ := ha
  obtain ⟨j', hj', rfl⟩ := hb
  rw [b6_ad j hj j' hj', b6_bt _ (b6_la j hj j') e he, b6_bt j hj e he, b6_bt j' hj' e he, Nat.testBit_and, Bool.and_eq_true]
theorem b6_hi : ∀ j, j < 64 → ∀ e, e < 8 → 6 ≤ e → j.testBit e = false := by decide +kernel
theorem b6_63 : ∀ e, e < 8 → e < 6 → (63 : Nat).testBit e = true := by decide +kernel
theorem bt_hi {a : Int32} (ha : m6 a) {e : Nat} (he : e < 8) (h6 : 6 ≤ e) : ¬ bt a e := by
  obtain ⟨j, hj, rfl⟩ := ha
  rw [b6_bt j hj e he, b6_hi j hj e he h6]
  exact Bool.false_ne_true
theorem bt_an {a b : Int32} (ha : m6 a) (hb : m6 b) {e : Nat} (he : e < 8) : bt (a &&& (b ^^^ (-1))) e ↔ bt a e ∧ ¬ bt b e := by
  by_cases h6 : 6 ≤ e
  · exact ⟨fun z => absurd z (bt_hi (m6_an ha hb) he h6), fun z => absurd z.1 (bt_hi ha he h6)⟩
  · obtain ⟨j, hj, rfl⟩ := ha
    obtain ⟨j', hj', rfl⟩ := hb
    rw [b6_an j hj j' hj', b6_bt _ (b6_la j hj _) e he, b6_bt j hj e he, b6_bt j' hj' e he, Nat.testBit_and, Nat.testBit_xor, b6_63 e he (by omega)]
    cases j.testBit e <;> cases j'.testBit e <;> simp
theorem bt_sh {k e : Nat} (hk : k < 6) (he : e < 8) : bt (1 <<< (nI k &&& 31)) e ↔ e = k := by
  rw [b6_sh k (by omega), b6_bt _ (Nat.pow_lt_pow_right (a := 2) (by decide) hk) e he, Nat.testBit_two_pow, decide_eq_true_iff]
  exact ⟨fun z => z.symm, fun z => z.symm⟩
theorem bt_0 {e : Nat} (he : e < 8) : ¬ bt 0 e := by
  have := b6_bt 0 (by decide) e he
  rw [Nat.zero_testBit] at this
  exact fun z => Bool.false_ne_true (this.mp z)
theorem m6_e {a b : Int32} (ha : m6 a) (hb : m6 b) (h : ∀ e, e < 6 → (bt a e ↔ bt b e)) : a = b := by
  obtain ⟨j, hj, rfl⟩ := ha
  obtain ⟨j', hj', rfl⟩ := hb
  congr 1
  refine Nat.eq_of_testBit_eq (fun e => ?_)
  by_cases he : e < 6
  · have := h e he
    rw [b6_bt j hj e (by omega), b6_bt j' hj' e (by omega)] at this
    cases h1 : j.testBit e <;> cases h2 : j'.testBit e <;> simp_all
  · rw [Nat.testBit_lt_two_pow (Nat.lt_of_lt_of_le (show j < 2 ^ 6 from hj) (Nat.pow_le_pow_right (by decide) (by omega))), Nat.testBit_lt_two_pow (Nat.lt_of_lt_of_le (show j' < 2 ^ 6 from hj') (Nat.pow_le_pow_right (by decide) (by omega)))]
/-- how many of the six bits -/
def cb (m : Int32) : Nat := (List.range 6).countP (fun e => decide (bt m e))
theorem cb_le (m : Int32) : cb m ≤ 6 := by
  have := List.countP_le_length (p := fun e => decide (bt m e)) (l := List.range 6)
  simpa [cb] using this
theorem b6_cb : ∀ j, j < 64 → (List.range 6).countP (fun e => decide (bt (nI j) e)) = pc6 j := by decide +kernel
theorem bc_cb {m : Int32} (h : m6 m) : bc m = nI (cb m) := by
  obtain ⟨j, hj, rfl⟩ := h
  rw [b6_bc j hj]
  unfold cb
  rw [b6_cb j hj]
theorem f7_cb {m : Int32} (h : m6 m) : F107 m 6 0 0 = nI (cb m) := by
  obtain ⟨j, hj, rfl⟩ := h
  rw [b6_17 j hj]
  unfold cb
  rw [b6_cb j hj]
/-- fences: ten bits -/
def m10 (m : Int32) : Prop := ∃ j, j < 1024 ∧ m = nI j
theorem b10_or : ∀ k, k < 10 → ∀ j, j < 1024 → nI j ||| nI (2 ^ k) = nI (j ||| 2 ^ k) := by decide +kernel
theorem b10_bt : ∀ e, e < 10 → ∀ j, j < 1024 → (bt (nI j) e ↔ j.testBit e = true) := by decide +kernel
theorem m10_0 : m10 0 := ⟨0, by decide, rfl⟩
theorem m10_or {a : Int32} {k : Nat} (ha : m10 a) (hk : k < 10) : m10 (a ||| 1 <<< (nI k &&& 31)) := by
  obtain ⟨j, hj, rfl⟩ := ha
  rw [b6_sh k hk]
  exact ⟨j ||| 2 ^ k, Nat.or_lt_two_pow (n := 10) hj (Nat.pow_lt_pow_right (by decide) hk), b10_or k hk j hj⟩
theorem bt10_or {a : Int32} {k e : Nat} (ha : m10 a) (hk : k < 10) (he : e < 10) : bt (a ||| 1 <<< (nI k &&& 31)) e ↔ bt a e ∨ e = k := by
  obtain ⟨j, hj, rfl⟩ := ha
  rw [b6_sh k hk, b10_or k hk j hj, b10_bt e he _ (Nat.or_lt_two_pow (n := 10) hj (Nat.pow_lt_pow_right (by decide) hk)), b10_bt e he j hj, Nat.testBit_or, Bool.or_eq_true, Nat.testBit_two_pow, decide_eq_true_iff]
  exact ⟨fun z => z.imp id (fun y => y.symm), fun z => z.imp id (fun y => y.symm)⟩
theorem bt10_0 {e : Nat} (he : e < 10) : ¬ bt 0 e := by
  have := b10_bt e he 0 (by decide)
  rw [Nat.zero_testBit] at this
  exact fun z => Bool.false_ne_true (this.mp z)
