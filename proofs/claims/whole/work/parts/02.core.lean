/-! The abstract machine. A value: an int, a long, null, or a reference (site, number). A memory: (cells made, slots made), how many objects a site has made, lengths, contents. A configuration: method, pc, locals, stack, memory. -/
abbrev av_V : Type := Int32 ⊕ (Int64 ⊕ Option (Nat × Nat))
abbrev av_M : Type := (Nat × Nat) × ((Nat → Nat) × ((Nat → Nat → Nat) × (Nat → Nat → Nat → av_V)))
abbrev av_O : Type := Option av_V ⊕ (Nat × Nat)
abbrev av_R : Type := av_O × av_M
abbrev av_C : Type := Nat × (Nat × (List (Option av_V) × (List av_V × av_M)))
abbrev av_A : Type := Option av_R ⊕ (av_C ⊕ (av_C × (av_R → Option av_R ⊕ av_C)))
def av_go (ac : av_C → av_A) : Nat → av_C → Option av_R
  | 0, _ => none
  | n + 1, c => match ac c with
    | .inl r => r
    | .inr (.inl c1) => av_go ac n c1
    | .inr (.inr q) => match av_go ac n q.1 with
      | none => none
      | some r => match q.2 r with
        | .inl r1 => r1
        | .inr c2 => av_go ac n c2
theorem av_mono (ac : av_C → av_A) : ∀ (n : Nat) (c : av_C) (r : av_R), av_go ac n c = some r → av_go ac (n + 1) c = some r := by
  intro n
  induction n with
  | zero => intro c r h; cases h
  | succ n ih =>
    intro c r h
    rw [av_go] at h ⊢
    cases hA : ac c with
    | inl r0 => rw [hA] at h; exact h
    | inr x =>
      cases x with
      | inl c1 => rw [hA] at h; exact ih _ _ h
      | inr q =>
        rw [hA] at h
        dsimp only at h ⊢
        cases h1 : av_go ac n q.1 with
        | none => rw [h1] at h; cases h
        | some r1 =>
          rw [h1] at h
          rw [ih _ _ h1]
          dsimp only at h ⊢
          cases h2 : q.2 r1 with
          | inl r2 => rw [h2] at h; exact h
          | inr c2 => rw [h2] at h; exact ih _ _ h
theorem av_mono2 (ac : av_C → av_A) {n m : Nat} (hnm : n ≤ m) {c : av_C} {r : av_R} (h : av_go ac n c = some r) : av_go ac m c = some r := by
  induction hnm with
  | refl => exact h
  | step _ ih => exact av_mono ac _ _ _ ih
theorem av_det (ac : av_C → av_A) {n m : Nat} {c : av_C} {r r' : av_R} (h : av_go ac n c = some r) (h' : av_go ac m c = some r') : r = r' := by
  have a := av_mono2 ac (Nat.le_max_left n m) h
  have b := av_mono2 ac (Nat.le_max_right n m) h'
  exact Option.some.inj (a.symm.trans b)
noncomputable def av_den (ac : av_C → av_A) (c : av_C) : Option av_R :=
  @dite _ (∃ r, ∃ n, av_go ac n c = some r) (Classical.propDecidable _) (fun h => some (Classical.choose h)) (fun _ => none)
theorem av_den_iff {ac : av_C → av_A} {c : av_C} {r : av_R} : av_den ac c = some r ↔ ∃ n, av_go ac n c = some r := by
  unfold av_den
  split
  · rename_i h
    obtain ⟨n, hn⟩ := Classical.choose_spec h
    constructor
    · intro q
      refine ⟨n, ?_⟩
      rw [hn]; exact q
    · intro ⟨m, hm⟩
      rw [av_det ac hn hm]
  · rename_i h
    constructor
    · intro q; cases q
    · intro q; exact absurd ⟨r, q⟩ h
noncomputable def av_D (ac : av_C → av_A) : av_A → Option av_R
  | .inl r => r
  | .inr (.inl c1) => av_den ac c1
  | .inr (.inr q) => match av_den ac q.1 with
    | none => none
    | some r => match q.2 r with
      | .inl r1 => r1
      | .inr c2 => av_den ac c2
theorem av_den_eq (ac : av_C → av_A) (c : av_C) : av_den ac c = av_D ac (ac c) := by
  apply Option.ext
  intro r
  show av_den ac c = some r ↔ av_D ac (ac c) = some r
  rw [av_den_iff]
  constructor
  · intro ⟨n, h⟩
    cases n with
    | zero => cases h
    | succ n =>
      rw [av_go] at h
      cases hA : ac c with
      | inl r0 => rw [hA] at h; exact h
      | inr x =>
        cases x with
        | inl c1 => rw [hA] at h; exact av_den_iff.mpr ⟨n, h⟩
        | inr q =>
          rw [hA] at h
          dsimp only at h
          unfold av_D
          dsimp only
          cases h1 : av_go ac n q.1 with
          | none => rw [h1] at h; cases h
          | some r1 =>
            rw [h1] at h
            rw [av_den_iff.mpr ⟨n, h1⟩]
            dsimp only at h ⊢
            cases h2 : q.2 r1 with
            | inl r2 => rw [h2] at h; exact h
            | inr c2 => rw [h2] at h; exact av_den_iff.mpr ⟨n, h⟩
  · intro h
    cases hA : ac c with
    | inl r0 => rw [hA] at h; exact ⟨1, by rw [av_go, hA]; exact h⟩
    | inr x =>
      cases x with
      | inl c1 =>
        rw [hA] at h
        obtain ⟨n, hn⟩ := av_den_iff.mp h
        exact ⟨n + 1, by rw [av_go, hA]; exact hn⟩
      | inr q =>
        rw [hA] at h
        unfold av_D at h
        dsimp only at h
        cases h1 : av_den ac q.1 with
        | none => rw [h1] at h; cases h
        | some r1 =>
          rw [h1] at h
          dsimp only at h
          obtain ⟨n, hn⟩ := av_den_iff.mp h1
          cases h2 : q.2 r1 with
          | inl r2 =>
            rw [h2] at h
            refine ⟨n + 1, ?_⟩
            rw [av_go, hA]
            dsimp only
            rw [hn]
            dsimp only
            rw [h2]; exact h
          | inr c2 =>
            rw [h2] at h
            obtain ⟨k, hk⟩ := av_den_iff.mp h
            refine ⟨max n k + 1, ?_⟩
            rw [av_go, hA]
            dsimp only
            rw [av_mono2 ac (Nat.le_max_left n k) hn]
            dsimp only
            rw [h2]
            exact av_mono2 ac (Nat.le_max_right n k) hk
