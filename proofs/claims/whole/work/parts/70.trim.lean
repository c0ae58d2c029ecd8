/-! trim -/
theorem F29_c {l : Nat} {g g' : mG} (h : ag [22] g g') : ∀ (d e : Nat), F29 l g' d e = F29 l g d e := by
  have h22 := h 22 (by decide)
  intro d
  induction d with
  | zero => exact fun _ => rfl
  | succ d ih =>
    intro e
    show (if bt (g' 22 0 l) e then (if bt (g' 22 1 l) e then F29 l g' d (e + 1) else false) else false) = (if bt (g 22 0 l) e then (if bt (g 22 1 l) e then F29 l g d (e + 1) else false) else false)
    rw [h22, h22, ih]
theorem F136_c {l : Nat} {g g' : mG} (h : ag [40] g g') : ∀ (d e : Nat), F136 l g' d e = F136 l g d e := by
  have h40 := h 40 (by decide)
  intro d
  induction d with
  | zero => exact fun _ => rfl
  | succ d ih =>
    intro e
    show (if ¬ g' 40 0 (8 * l + e) = 0 ∧ ¬ g' 40 0 (80 + 8 * l + e) = 0 then F136 l g' d (e + 1) else false) = (if ¬ g 40 0 (8 * l + e) = 0 ∧ ¬ g 40 0 (80 + 8 * l + e) = 0 then F136 l g d (e + 1) else false)
    rw [h40, h40, ih]
def st90 (g : mG) : Nat → Nat → Nat
  | 0, z => z
  | d + 1, z => if g 20 z 0 = 2 ∧ F29 z g (cL z g) 0 = true then st90 g d (z + 1) else z
def st135 (g : mG) : Nat → Nat → Nat
  | 0, z => z
  | d + 1, z => if g 37 0 z = 2 ∧ F136 z g (cM z g) 0 = true then st135 g d (z + 1) else z
theorem st90_c {g g' : mG} (h : ag [20, 22] g g') : ∀ (d z : Nat), st90 g' d z = st90 g d z := by
  have h20 := h 20 (by decide)
  intro d
  induction d with
  | zero => exact fun _ => rfl
  | succ d ih =>
    intro z
    show (if g' 20 z 0 = 2 ∧ F29 z g' (cL z g') 0 = true then st90 g' d (z + 1) else z) = (if g 20 z 0 = 2 ∧ F29 z g (cL z g) 0 = true then st90 g d (z + 1) else z)
    unfold cL
    rw [h20, h20, F29_c (ag_s h (by decide)), ih]
theorem st135_c {g g' : mG} (h : ag [37, 38, 40] g g') : ∀ (d z : Nat), st135 g' d z = st135 g d z := by
  have h37 := h 37 (by decide)
  have h38 := h 38 (by decide)
  intro d
  induction d with
  | zero => exact fun _ => rfl
  | succ d ih =>
    intro z
    show (if g' 37 0 z = 2 ∧ F136 z g' (cM z g') 0 = true then st135 g' d (z + 1) else z) = (if g 37 0 z = 2 ∧ F136 z g (cM z g) 0 = true then st135 g d (z + 1) else z)
    unfold cM
    rw [h37, h38, F136_c (ag_s h (by decide)), ih]
theorem st90_le (g : mG) : ∀ (d z : Nat), z ≤ st90 g d z ∧ st90 g d z ≤ z + d := by
  intro d
  induction d with
  | zero => exact fun z => ⟨Nat.le_refl _, Nat.le_refl _⟩
  | succ d ih =>
    intro z
    show z ≤ (if g 20 z 0 = 2 ∧ F29 z g (cL z g) 0 = true then st90 g d (z + 1) else z) ∧ (if g 20 z 0 = 2 ∧ F29 z g (cL z g) 0 = true then st90 g d (z + 1) else z) ≤ z + (d + 1)
    split
    · have := ih (z + 1); omega
    · omega
theorem st90_2 (g : mG) : ∀ (d z l : Nat), z ≤ l → l < st90 g d z → g 20 l 0 = 2 := by
  intro d
  induction d with
  | zero => intro z l h1 h2; exact absurd (show l < z from h2) (by omega)
  | succ d ih =>
    intro z l h1 h2
    have h2' : l < (if g 20 z 0 = 2 ∧ F29 z g (cL z g) 0 = true then st90 g d (z + 1) else z) := h2
    split at h2'
    · rename_i h
      by_cases e : l = z
      · rw [e]; exact h.1
      · exact ih (z + 1) l (by omega) h2'
    · omega
theorem F91_v (l f i j : Nat) (hf : f = 1 ∨ f = 2) : ∀ (m k : Nat) (g : mG), F91 l m k g f i j = if k ≤ i ∧ i < k + m ∧ j = l ∧ ¬ g 26 i 0 = 0 then 0 else g f i j := by
  intro m
  induction m with
  | zero => intro k g; rw [if_neg (by omega)]; rfl
  | succ m ih =>
    intro k g
    show F91 l m (k + 1) (if g 26 k 0 = 0 then g else gu (gu g 1 k l 0) 2 k l 0) f i j = _
    rw [ih (k + 1)]
    have e26 : (if g 26 k 0 = 0 then g else gu (gu g 1 k l 0) 2 k l 0) 26 i 0 = g 26 i 0 := by
      split
      · rfl
      · rw [gu_f _ _ _ _ _ _ _ _ (by decide), gu_f _ _ _ _ _ _ _ _ (by decide)]
    have ef : (if g 26 k 0 = 0 then g else gu (gu g 1 k l 0) 2 k l 0) f i j = if i = k ∧ j = l ∧ ¬ g 26 i 0 = 0 then 0 else g f i j := by
      by_cases h : g 26 k 0 = 0
      · rw [if_pos h, if_neg (fun y => y.2.2 (by rw [y.1]; exact h))]
      · rw [if_neg h]
        by_cases e : i = k ∧ j = l
        · obtain ⟨rfl, rfl⟩ := e
          rw [if_pos ⟨rfl, rfl, h⟩]
          rcases hf with rfl | rfl <;> simp [gu]
        · rw [if_neg (fun y => e ⟨y.1, y.2.1⟩)]
          rw [gu_ne _ _ _ _ _ _ _ _ (fun y => e ⟨y.2.1, y.2.2⟩), gu_ne _ _ _ _ _ _ _ _ (fun y => e ⟨y.2.1, y.2.2⟩)]
    rw [e26, ef]
    by_cases h0 : j = l ∧ ¬ g 26 i 0 = 0
    · by_cases h1 : i = k
      · rw [if_pos (show i = k ∧ j = l ∧ ¬ g 26 i 0 = 0 from ⟨h1, h0⟩), if_pos (show k ≤ i ∧ i < k + (m + 1) ∧ j = l ∧ ¬ g 26 i 0 = 0 from ⟨by omega, by omega, h0⟩)]
        split <;> rfl
      · rw [if_neg (show ¬ (i = k ∧ j = l ∧ ¬ g 26 i 0 = 0) from fun y => h1 y.1)]
        by_cases h2 : k + 1 ≤ i ∧ i < k + 1 + m
        · rw [if_pos ⟨h2.1, h2.2, h0⟩, if_pos ⟨by omega, by omega, h0⟩]
        · rw [if_neg (fun y => h2 ⟨y.1, y.2.1⟩), if_neg (fun y => h2 ⟨by omega, by omega⟩)]
    · rw [if_neg (fun y => h0 y.2.2), if_neg (fun y => h0 y.2), if_neg (fun y => h0 y.2.2)]
theorem F90_v (N : Nat) : ∀ (d z : Nat) (g : mG), (∀ f i j, ¬ f = 1 → ¬ f = 2 → ¬ (f = 23 ∧ j = 3) → F90 N d z g f i j = g f i j) ∧ (∀ f i j, f = 1 ∨ f = 2 → F90 N d z g f i j = if i < N ∧ z ≤ j ∧ j < st90 g d z ∧ ¬ g 26 i 0 = 0 then 0 else g f i j) ∧ (g 23 0 3 = nI z → F90 N d z g 23 0 3 = nI (st90 g d z)) := by
  intro d
  induction d with
  | zero =>
    intro z g
    refine ⟨fun _ _ _ _ _ _ => rfl, fun f i j _ => ?_, fun h => h⟩
    rw [show st90 g 0 z = z from rfl, if_neg (by omega)]
    rfl
  | succ d ih =>
    intro z g
    have hF : F90 N (d + 1) z g = if g 20 z 0 = 2 ∧ F29 z g (cL z g) 0 = true then F90 N d (z + 1) (gu (F91 z N 0 g) 23 0 3 (nI (z + 1))) else g := rfl
    have hS : st90 g (d + 1) z = if g 20 z 0 = 2 ∧ F29 z g (cL z g) 0 = true then st90 g d (z + 1) else z := rfl
    rw [hF, hS]
    by_cases h : g 20 z 0 = 2 ∧ F29 z g (cL z g) 0 = true
    · rw [if_pos h, if_pos h]
      obtain ⟨i1, i2, i3⟩ := ih (z + 1) (gu (F91 z N 0 g) 23 0 3 (nI (z + 1)))
      have fr : ∀ f i j, ¬ f = 1 → ¬ f = 2 → ¬ (f = 23 ∧ j = 3) → gu (F91 z N 0 g) 23 0 3 (nI (z + 1)) f i j = g f i j := fun f i j b1 b2 b3 => by
        rw [gu_ne _ _ _ _ _ _ _ _ (fun y => b3 ⟨y.1, y.2.2⟩), F91_f _ _ _ _ b1 b2]
      have es : st90 (gu (F91 z N 0 g) 23 0 3 (nI (z + 1))) d (z + 1) = st90 g d (z + 1) := st90_c (fun f hf i j => by
        have : f = 20 ∨ f = 22 := by simpa using hf
        exact fr f i j (by omega) (by omega) (by omega)) d (z + 1)
      have hle := st90_le g d (z + 1)
      refine ⟨fun f i j b1 b2 b3 => (i1 f i j b1 b2 b3).trans (fr f i j b1 b2 b3), fun f i j hf => ?_, fun _ => ?_⟩
      · rw [i2 f i j hf, es, fr 26 i 0 (by decide) (by decide) (by decide), gu_f _ _ _ _ _ _ _ _ (by omega), F91_v z f i j hf]
        by_cases h0 : i < N ∧ ¬ g 26 i 0 = 0
        · by_cases h1 : j = z
          · rw [if_pos (show 0 ≤ i ∧ i < 0 + N ∧ j = z ∧ ¬ g 26 i 0 = 0 from ⟨by omega, by omega, h1, h0.2⟩), if_pos (show i < N ∧ z ≤ j ∧ j < st90 g d (z + 1) ∧ ¬ g 26 i 0 = 0 from ⟨h0.1, by omega, by omega, h0.2⟩)]
            split <;> rfl
          · rw [if_neg (show ¬ (0 ≤ i ∧ i < 0 + N ∧ j = z ∧ ¬ g 26 i 0 = 0) from fun y => h1 y.2.2.1)]
            by_cases h2 : z + 1 ≤ j ∧ j < st90 g d (z + 1)
            · rw [if_pos ⟨h0.1, h2.1, h2.2, h0.2⟩, if_pos ⟨h0.1, by omega, h2.2, h0.2⟩]
            · rw [if_neg (fun y => h2 ⟨y.2.1, y.2.2.1⟩), if_neg (fun y => h2 ⟨by omega, y.2.2.1⟩)]
        · rw [if_neg (fun y => h0 ⟨y.1, y.2.2.2⟩), if_neg (fun y => h0 ⟨by omega, y.2.2.2⟩), if_neg (fun y => h0 ⟨y.1, y.2.2.2⟩)]
      · rw [i3 (gu_same _ _ _ _ _), es]
    · rw [if_neg h, if_neg h]
      refine ⟨fun _ _ _ _ _ _ => rfl, fun f i j _ => ?_, fun h => h⟩
      rw [if_neg (by omega)]
theorem F135e_v (k z f j : Nat) (hf : f = 47 ∨ f = 48) : ∀ (d e : Nat) (g : mG), F135e k z d e g f 0 j = if 80 * k + 8 * z + e ≤ j ∧ j < 80 * k + 8 * z + e + d then 0 else g f 0 j := by
  intro d
  induction d with
  | zero => intro e g; rw [if_neg (by omega)]; rfl
  | succ d ih =>
    intro e g
    show F135e k z d (e + 1) (gu (gu g 47 0 (80 * k + 8 * z + e) 0) 48 0 (80 * k + 8 * z + e) 0) f 0 j = _
    rw [ih (e + 1)]
    have hv : gu (gu g 47 0 (80 * k + 8 * z + e) 0) 48 0 (80 * k + 8 * z + e) 0 f 0 j = if j = 80 * k + 8 * z + e then 0 else g f 0 j := by
      rcases hf with rfl | rfl <;> simp [gu]
    rw [hv]
    by_cases h1 : j = 80 * k + 8 * z + e
    · rw [if_pos h1, if_pos (show 80 * k + 8 * z + e ≤ j ∧ j < 80 * k + 8 * z + e + (d + 1) by omega)]
      split <;> rfl
    · rw [if_neg h1]
      by_cases h2 : 80 * k + 8 * z + (e + 1) ≤ j ∧ j < 80 * k + 8 * z + (e + 1) + d
      · rw [if_pos h2, if_pos (by omega)]
      · rw [if_neg h2, if_neg (by omega)]
theorem F135k_v (z f j : Nat) (hz : z < 10) (hf : f = 47 ∨ f = 48) : ∀ (d k : Nat) (g : mG), F135k z d k g f 0 j = if k ≤ j / 80 ∧ j / 80 < k + d ∧ j % 80 / 8 = z ∧ ¬ g 46 0 (j / 80) = 0 then 0 else g f 0 j := by
  intro d
  induction d with
  | zero => intro k g; rw [if_neg (by omega)]; rfl
  | succ d ih =>
    intro k g
    show F135k z d (k + 1) (if g 46 0 k = 0 then g else F135e k z 8 0 g) f 0 j = _
    rw [ih (k + 1)]
    have e46 : (if g 46 0 k = 0 then g else F135e k z 8 0 g) 46 0 (j / 80) = g 46 0 (j / 80) := by
      split
      · rfl
      · exact F135e_f k z 46 0 (j / 80) (by decide) (by decide) 8 0 g
    have ef : (if g 46 0 k = 0 then g else F135e k z 8 0 g) f 0 j = if j / 80 = k ∧ j % 80 / 8 = z ∧ ¬ g 46 0 (j / 80) = 0 then 0 else g f 0 j := by
      by_cases h : g 46 0 k = 0
      · rw [if_pos h, if_neg (fun y => y.2.2 (by rw [y.1]; exact h))]
      · rw [if_neg h, F135e_v k z f j hf]
        by_cases e : j / 80 = k ∧ j % 80 / 8 = z
        · rw [if_pos (show 80 * k + 8 * z + 0 ≤ j ∧ j < 80 * k + 8 * z + 0 + 8 by omega), if_pos ⟨e.1, e.2, by rw [e.1]; exact h⟩]
        · rw [if_neg (show ¬ (80 * k + 8 * z + 0 ≤ j ∧ j < 80 * k + 8 * z + 0 + 8) by omega), if_neg (fun y => e ⟨y.1, y.2.1⟩)]
    rw [e46, ef]
    by_cases h0 : j % 80 / 8 = z ∧ ¬ g 46 0 (j / 80) = 0
    · by_cases h1 : j / 80 = k
      · rw [if_pos (show j / 80 = k ∧ j % 80 / 8 = z ∧ ¬ g 46 0 (j / 80) = 0 from ⟨h1, h0⟩), if_pos (show k ≤ j / 80 ∧ j / 80 < k + (d + 1) ∧ j % 80 / 8 = z ∧ ¬ g 46 0 (j / 80) = 0 from ⟨by omega, by omega, h0⟩)]
        split <;> rfl
      · rw [if_neg (show ¬ (j / 80 = k ∧ j % 80 / 8 = z ∧ ¬ g 46 0 (j / 80) = 0) from fun y => h1 y.1)]
        by_cases h2 : k + 1 ≤ j / 80 ∧ j / 80 < k + 1 + d
        · rw [if_pos ⟨h2.1, h2.2, h0⟩, if_pos ⟨by omega, by omega, h0⟩]
        · rw [if_neg (fun y => h2 ⟨y.1, y.2.1⟩), if_neg (fun y => h2 ⟨by omega, by omega⟩)]
    · rw [if_neg (fun y => h0 y.2.2), if_neg (fun y => h0 y.2), if_neg (fun y => h0 y.2.2)]
theorem F135_v (N : Nat) : ∀ (d z c : Nat) (g : mG), z + d ≤ 10 → (∀ f i j, ¬ f = 47 → ¬ f = 48 → ¬ (f = 65 ∧ j = 8) → (F135 N d z (nI c) g).2 f i j = g f i j) ∧ (∀ f j, f = 47 ∨ f = 48 → (F135 N d z (nI c) g).2 f 0 j = if j / 80 < N ∧ z ≤ j % 80 / 8 ∧ j % 80 / 8 < st135 g d z ∧ ¬ g 46 0 (j / 80) = 0 then 0 else g f 0 j) ∧ (g 65 0 8 = nI z → (F135 N d z (nI c) g).2 65 0 8 = nI (st135 g d z)) ∧ (F135 N d z (nI c) g).1 = nI (c + (st135 g d z - z)) ∧ z ≤ st135 g d z := by
  intro d
  induction d with
  | zero =>
    intro z c g _
    refine ⟨fun _ _ _ _ _ _ => rfl, fun f j _ => ?_, fun h => h, ?_, Nat.le_refl _⟩
    · rw [show st135 g 0 z = z from rfl, if_neg (by omega)]
      rfl
    · rw [show st135 g 0 z = z from rfl, Nat.sub_self]; rfl
  | succ d ih =>
    intro z c g hz
    have hF : F135 N (d + 1) z (nI c) g = if g 37 0 z = 2 ∧ F136 z g (cM z g) 0 = true then F135 N d (z + 1) (nI c + 1) (gu (F135k z N 0 g) 65 0 8 (nI (z + 1))) else (nI c, g) := rfl
    have hS : st135 g (d + 1) z = if g 37 0 z = 2 ∧ F136 z g (cM z g) 0 = true then st135 g d (z + 1) else z := rfl
    rw [hF, hS]
    by_cases h : g 37 0 z = 2 ∧ F136 z g (cM z g) 0 = true
    · rw [if_pos h, if_pos h, iI_s]
      obtain ⟨i1, i2, i3, i4, i5⟩ := ih (z + 1) (c + 1) (gu (F135k z N 0 g) 65 0 8 (nI (z + 1))) (by omega)
      have fr : ∀ f i j, ¬ f = 47 → ¬ f = 48 → ¬ (f = 65 ∧ j = 8) → gu (F135k z N 0 g) 65 0 8 (nI (z + 1)) f i j = g f i j := fun f i j b1 b2 b3 => by
        rw [gu_ne _ _ _ _ _ _ _ _ (fun y => b3 ⟨y.1, y.2.2⟩), F135k_f _ _ _ _ b1 b2]
      have es : st135 (gu (F135k z N 0 g) 65 0 8 (nI (z + 1))) d (z + 1) = st135 g d (z + 1) := st135_c (fun f hf i j => by
        have : f = 37 ∨ f = 38 ∨ f = 40 := by simpa using hf
        exact fr f i j (by omega) (by omega) (by omega)) d (z + 1)
      rw [es] at i2 i3 i4 i5
      refine ⟨fun f i j b1 b2 b3 => (i1 f i j b1 b2 b3).trans (fr f i j b1 b2 b3), fun f j hf => ?_, fun _ => i3 (gu_same _ _ _ _ _), ?_, by omega⟩
      · rw [i2 f j hf, fr 46 0 (j / 80) (by decide) (by decide) (by omega), gu_f _ _ _ _ _ _ _ _ (by omega), F135k_v z f j (by omega) hf]
        by_cases h0 : j / 80 < N ∧ ¬ g 46 0 (j / 80) = 0
        · by_cases h1 : j % 80 / 8 = z
          · rw [if_pos (show 0 ≤ j / 80 ∧ j / 80 < 0 + N ∧ j % 80 / 8 = z ∧ ¬ g 46 0 (j / 80) = 0 from ⟨by omega, by omega, h1, h0.2⟩), if_pos (show j / 80 < N ∧ z ≤ j % 80 / 8 ∧ j % 80 / 8 < st135 g d (z + 1) ∧ ¬ g 46 0 (j / 80) = 0 from ⟨h0.1, by omega, by omega, h0.2⟩)]
            split <;> rfl
          · rw [if_neg (show ¬ (0 ≤ j / 80 ∧ j / 80 < 0 + N ∧ j % 80 / 8 = z ∧ ¬ g 46 0 (j / 80) = 0) from fun y => h1 y.2.2.1)]
            by_cases h2 : z + 1 ≤ j % 80 / 8 ∧ j % 80 / 8 < st135 g d (z + 1)
            · rw [if_pos ⟨h0.1, h2.1, h2.2, h0.2⟩, if_pos ⟨h0.1, by omega, h2.2, h0.2⟩]
            · rw [if_neg (fun y => h2 ⟨y.2.1, y.2.2.1⟩), if_neg (fun y => h2 ⟨by omega, y.2.2.1⟩)]
        · rw [if_neg (fun y => h0 ⟨y.1, y.2.2.2⟩), if_neg (fun y => h0 ⟨by omega, y.2.2.2⟩), if_neg (fun y => h0 ⟨y.1, y.2.2.2⟩)]
      · rw [i4]
        exact congrArg nI (by omega)
    · rw [if_neg h, if_neg h]
      refine ⟨fun _ _ _ _ _ _ => rfl, fun f j _ => ?_, fun h => h, ?_, Nat.le_refl _⟩
      · rw [if_neg (by omega)]
      · rw [Nat.sub_self]; rfl
section O6
variable {N w q a V n z M : Nat} {g : mG} (L : Nat)
theorem st_e (r : Rel N w q a V n z M g) (hn : n ≤ 10) : ∀ (d z' : Nat), z' + d ≤ n → st135 g d z' = st90 g d z' := by
  have hL := r.2.2.1.1
  have hV := r.2.2.2.2.2.2.2.2.2
  have fe : ∀ l, l < 10 → ∀ (d e : Nat), e + d ≤ 6 → F136 l g d e = F29 l g d e := by
    intro l hl d
    induction d with
    | zero => exact fun _ _ => rfl
    | succ d ih =>
      intro e he
      show (if ¬ g 40 0 (8 * l + e) = 0 ∧ ¬ g 40 0 (80 + 8 * l + e) = 0 then F136 l g d (e + 1) else false) = (if bt (g 22 0 l) e then (if bt (g 22 1 l) e then F29 l g d (e + 1) else false) else false)
      have h0 := ((hV 0 (by decide)) l hl).2 e (by omega)
      have h1 := ((hV 1 (by decide)) l hl).2 e (by omega)
      rw [Nat.mul_zero, Nat.zero_add] at h0
      rw [Nat.mul_one] at h1
      by_cases p0 : bt (g 22 0 l) e
      · by_cases p1 : bt (g 22 1 l) e
        · rw [h0, h1, bI_t _ p0, bI_t _ p1, if_pos ⟨by decide, by decide⟩, if_pos p0, if_pos p1, ih (e + 1) (by omega)]
        · rw [h0, h1, bI_t _ p0, bI_f _ p1, if_neg (fun y => y.2 rfl), if_pos p0, if_neg p1]
      · rw [h0, bI_f _ p0, if_neg (fun y => y.1 rfl), if_neg p0]
  intro d
  induction d with
  | zero => exact fun _ _ => rfl
  | succ d ih =>
    intro z' hz
    show (if g 37 0 z' = 2 ∧ F136 z' g (cM z' g) 0 = true then st135 g d (z' + 1) else z') = (if g 20 z' 0 = 2 ∧ F29 z' g (cL z' g) 0 = true then st90 g d (z' + 1) else z')
    obtain ⟨⟨m, st, s1, s2, s3, s4, s5, s6, s7, s8⟩, _, _⟩ := hL z' (by omega)
    have c1 : cM z' g = m := by
      unfold cM
      rw [s6, Int32.sub_add_cancel]
      exact tn (by omega)
    have c2 : cL z' g = m := by
      unfold cL
      rw [s5, Int32.sub_add_cancel]
      exact tn (by omega)
    rw [c1, c2, s3, s4, fe z' (by omega) m 0 (by omega), ih (z' + 1) (by omega)]
theorem op_90 (hp : pr N w q a) (hb : nb V n z M) (r : Rel N w q a V n z M g) (b : Int32) : opI N L 90 135 [.inl b] (cd 163) (nxt N w q a V g) g := by
  have hN : N ≤ 6 := hp.2.1
  have hn : n ≤ 10 := hb.2.1
  have hz : z ≤ n := hb.2.2.1
  by_cases h : ¬ b < 0 ∧ ¬ 3 ≤ b
  · obtain ⟨b', hb', rfl⟩ := inr_of (n := 3) (by decide) h
    have wk := wk_z hb' r
    by_cases p : g 28 b' 1 = 0
    · exact Or.inr ⟨31, 0, g, _, by decide, fun c s x o => m_90s N L c s x o b' hb' g p, fun c s x o => m_135s N L c s x o b' hb' g (fun y => wk.mp y p), fun _ => rfl, gu_same _ _ _ _ _, nxt_00 hb r⟩
    by_cases hv : g 23 0 0 ≤ g 28 b' 2
    · have hC : ∀ l, l < 10 → ∃ m, m ≤ 6 ∧ g 20 l 1 = nI m - 1 := fun l hl => by
        by_cases e : l < n
        · obtain ⟨⟨m, st, s1, s2, s3, s4, s5, _⟩, _⟩ := r.2.2.1.1 l e
          exact ⟨m, s1, s5⟩
        · exact ⟨0, by decide, by rw [(r.2.2.1.2.1 l (by omega) hl).2.1]; rfl⟩
      have hC2 : ∀ l, l < n → ∃ m, m ≤ 6 ∧ g 38 0 l = nI m - 1 := fun l hl => by
        obtain ⟨⟨m, st, s1, s2, s3, s4, s5, s6, _⟩, _⟩ := r.2.2.1.1 l hl
        exact ⟨m, s1, s6⟩
      have rV := Rel_VW hb' hb r hv
      obtain ⟨v1, v2, v3⟩ := F90_v N (n - z) z (gV b' g)
      have vf : ∀ f i j, ¬ f = 23 → ¬ f = 28 → gV b' g f i j = g f i j := fun f i j b1 b2 => by unfold gV; rw [gu_f _ _ _ _ _ _ _ _ b2, gu_f _ _ _ _ _ _ _ _ b1]
      have s90 : st90 (gV b' g) (n - z) z = st90 g (n - z) z := st90_c (fun f hf i j => by
        have : f = 20 ∨ f = 22 := by simpa using hf
        exact vf f i j (by omega) (by omega)) _ _
      have z23 : gV b' g 23 0 3 = nI z := by unfold gV; rw [gu_f _ _ _ _ _ _ _ _ (by decide), gu_k _ _ _ _ _ _ (by decide)]; exact r.2.1.2.2.2.2.2.1
      have e3 := v3 z23
      rw [s90] at v2 e3
      have hS := st90_le g (n - z) z
      have S2 := st90_2 g (n - z) z
      have hSe := st_e r hn (n - z) z (by omega)
      generalize hSS : st90 g (n - z) z = S at *
      have k1 : ∀ f i j, ¬ f = 1 → ¬ f = 2 → ¬ f = 23 → ¬ f = 28 → F90 N (n - z) z (gV b' g) f i j = g f i j := fun f i j b1 b2 b3 b4 => (v1 f i j b1 b2 (fun y => b3 y.1)).trans (vf f i j b3 b4)
      have m65 : ∀ j, ¬ j = 5 → ¬ j = 0 → gW b' (gu (F90 N (n - z) z (gV b' g)) 65 0 0 0) 65 0 j = g 65 0 j := fun j a1 a2 => by
        rw [gW_f _ _ _ _ _ (fun y => a1 y.2) (by decide), gu_k _ _ _ _ _ _ a2, k1 65 0 j (by decide) (by decide) (by decide) (by decide)]
      have mf : ∀ f i j, 24 < f → ¬ f = 26 → ¬ f = 28 → ¬ f = 52 → ¬ f = 65 → gW b' (gu (F90 N (n - z) z (gV b' g)) 65 0 0 0) f i j = g f i j := fun f i j b0 b26 b1 b2 b3 => by
        rw [gW_f _ _ _ _ _ (fun y => b3 y.1) b2, gu_f _ _ _ _ _ _ _ _ b3, k1 f i j (by omega) (by omega) (by omega) b1]
      obtain ⟨w1, w2, w3, w4, w5⟩ := F135_v N (n - z) z 0 (gW b' (gu (F90 N (n - z) z (gV b' g)) 65 0 0 0)) (by omega)
      have s135 : st135 (gW b' (gu (F90 N (n - z) z (gV b' g)) 65 0 0 0)) (n - z) z = S := (st135_c (fun f hf i j => by
        have : f = 37 ∨ f = 38 ∨ f = 40 := by simpa using hf
        exact mf f i j (by omega) (by omega) (by omega) (by omega) (by omega)) _ _).trans hSe
      rw [s135] at w2 w3 w4
      have w3' := w3 ((m65 8 (by decide) (by decide)).trans r.2.1.2.2.2.2.2.2)
      have hG : ∀ f i j, ¬ f = 47 → ¬ f = 48 → ¬ (f = 65 ∧ j = 8) → ¬ f = 1 → ¬ f = 2 → ¬ (f = 23 ∧ j = 3) → (F135 N (n - z) z (nI 0) (gW b' (gu (F90 N (n - z) z (gV b' g)) 65 0 0 0))).2 f i j = gVW b' g f i j := fun f i j b1 b2 b3 b4 b5 b6 => by
        rw [w1 f i j b1 b2 b3]
        unfold gVW
        refine gW_c ?_ ?_
        · by_cases e : f = 65
          · unfold gu; rw [v1 f i j b4 b5 b6]
          · rw [gu_f _ _ _ _ _ _ _ _ e, gu_f _ _ _ _ _ _ _ _ e, v1 f i j b4 b5 b6]
        · rw [gu_k _ _ _ _ _ _ (by decide), gu_k _ _ _ _ _ _ (by decide), v1 65 0 5 (by decide) (by decide) (by decide)]
      have hk : ∀ f i j, f = 1 ∨ f = 2 → (F135 N (n - z) z (nI 0) (gW b' (gu (F90 N (n - z) z (gV b' g)) 65 0 0 0))).2 f i j = if i < N ∧ z ≤ j ∧ j < S ∧ ¬ g 26 i 0 = 0 then 0 else g f i j := fun f i j hf => by
        rw [w1 f i j (by omega) (by omega) (by omega), gW_f _ _ _ _ _ (by omega) (by omega), gu_f _ _ _ _ _ _ _ _ (by omega), v2 f i j hf, vf 26 i 0 (by decide) (by decide), vf f i j (by omega) (by omega)]
      have hm : ∀ f j, f = 47 ∨ f = 48 → (F135 N (n - z) z (nI 0) (gW b' (gu (F90 N (n - z) z (gV b' g)) 65 0 0 0))).2 f 0 j = if j / 80 < N ∧ z ≤ j % 80 / 8 ∧ j % 80 / 8 < S ∧ ¬ g 46 0 (j / 80) = 0 then 0 else g f 0 j := fun f j hf => by
        rw [w2 f j hf, mf 46 0 _ (by decide) (by decide) (by decide) (by decide) (by decide), mf f 0 j (by omega) (by omega) (by omega) (by omega) (by omega)]
      have h23 : (F135 N (n - z) z (nI 0) (gW b' (gu (F90 N (n - z) z (gV b' g)) 65 0 0 0))).2 23 0 3 = nI S := by
        rw [w1 23 0 3 (by decide) (by decide) (by decide), gW_f _ _ _ _ _ (by decide) (by decide), gu_f _ _ _ _ _ _ _ _ (by decide), e3]
      refine Or.inl ⟨nI S - nI z, F90 N (n - z) z (gV b' g), (F135 N (n - z) z (nI 0) (gW b' (gu (F90 N (n - z) z (gV b' g)) 65 0 0 0))).2, fun c s x o => ?_, fun c s x o => ?_, fun j => ?_, ?_, ?_⟩
      · rw [m_90 N L c s x o (by omega) b' n z hb' hn hz g p hv r.2.1.2.2.2.1 r.2.1.2.2.2.2.2.1 hC, e3]
      · have := m_135 N L c s x o b' n z hN hb' hn hz (F90 N (n - z) z (gV b' g)) (by
          rw [k1 50 0 b' (by decide) (by decide) (by decide) (by decide), k1 51 0 b' (by decide) (by decide) (by decide) (by decide)]; exact wk.mpr p) (by
          rw [k1 65 0 5 (by decide) (by decide) (by decide) (by decide), k1 52 0 b' (by decide) (by decide) (by decide) (by decide)]; exact (v_m hb' r).mpr hv) (by
          rw [k1 65 0 1 (by decide) (by decide) (by decide) (by decide)]; exact r.1.2.2.2.1) (by
          rw [k1 65 0 7 (by decide) (by decide) (by decide) (by decide)]; exact r.2.1.2.2.2.2.1) (by
          rw [k1 65 0 8 (by decide) (by decide) (by decide) (by decide)]; exact r.2.1.2.2.2.2.2.2) (fun l hl => by
          rw [k1 38 0 l (by decide) (by decide) (by decide) (by decide)]; exact hC2 l hl)
        refine this.trans ?_
        have e1 : (F135 N (n - z) z 0 (gW b' (gu (F90 N (n - z) z (gV b' g)) 65 0 0 0))).1 = nI S - nI z := by
          refine Eq.trans w4 ?_
          rw [Nat.zero_add, iI_sub (by omega)]
        rw [e1]
        rfl
      · exact k1 0 0 j (by decide) (by decide) (by decide) (by decide)
      · rw [hG 65 0 0 (by decide) (by decide) (by decide) (by decide) (by decide) (by decide)]
        unfold gVW
        rw [gW_f _ _ _ _ _ (by decide) (by decide), gu_same]
      · generalize (F135 N (n - z) z (nI 0) (gW b' (gu (F90 N (n - z) z (gV b' g)) 65 0 0 0))).2 = G at *
        have hgv : ∀ f i j, ¬ f = 23 → ¬ f = 28 → ¬ f = 52 → ¬ f = 65 → gVW b' g f i j = g f i j := fun f i j b1 b2 b3 b4 => gVW_f b1 b2 b3 b4
        have ho : out [47, 48, 65, 1, 2, 23] (gVW b' g) G := fun f hf i j => by
          have nf : ¬ f = 47 ∧ ¬ f = 48 ∧ ¬ f = 65 ∧ ¬ f = 1 ∧ ¬ f = 2 ∧ ¬ f = 23 := by
            simp at hf
            omega
          exact hG f i j nf.1 nf.2.1 (fun y => nf.2.2.1 y.1) nf.2.2.2.1 nf.2.2.2.2.1 (fun y => nf.2.2.2.2.2 y.1)
        have h5 : ∀ j, ¬ j = 8 → G 65 0 j = gVW b' g 65 0 j := fun j hj => hG 65 0 j (by decide) (by decide) (fun y => hj y.2) (by decide) (by decide) (by omega)
        have s5 : ∀ js : List Nat, (∀ j, j ∈ js → ¬ j = 8) → ago js (gVW b' g) G := fun js hs j hj => h5 j (hs j hj)
        obtain ⟨a1, a2, a3, a4, a5, a6, a7, a8, a9, a10⟩ := rV
        refine nxt_V (n' := n) (z' := S) (M' := M) ⟨rP_c (ag_o ho (by decide)) (s5 _ (by decide)) a1, ⟨?_, ?_, ?_, ?_, ?_, h23, w3'⟩, ⟨fun l hl => rL_c (ag_o ho (by decide)) (a3.1 l hl), fun l h1 h2 => rE_c (ag_o ho (by decide)) (a3.2.1 l h1 h2), fun l hl => ?_, fun l hl => ?_⟩, rS_c (ag_o ho (by decide)) (s5 _ (by decide)) a4, rH_c (ag_o ho (by decide)) a5, fun k hk' => ⟨rKu_a (ag_o ho (by decide)) (a6 k hk').1, fun l hl => ?_⟩, fun b hb => rB_a (ag_o ho (by decide)) (h5 4 (by decide)) (a7 b hb), rW_c (ag_o ho (by decide)) (s5 _ (by decide)) a8, fun d hd => rD_a (ag_o ho (by decide)) (a9 d hd), fun t ht => rV_a (ag_o ho (by decide)) (a10 t ht)⟩ hn (by omega) hb.2.2.2 (fun j => ?_)
        · rw [hG 23 0 0 (by decide) (by decide) (by decide) (by decide) (by decide) (by decide)]; exact a2.1
        · rw [h5 5 (by decide)]; exact a2.2.1
        · rw [hG 23 0 1 (by decide) (by decide) (by decide) (by decide) (by decide) (by decide), h5 6 (by decide)]; exact a2.2.2.1
        · rw [hG 23 0 2 (by decide) (by decide) (by decide) (by decide) (by decide) (by decide)]; exact a2.2.2.2.1
        · rw [h5 7 (by decide)]; exact a2.2.2.2.2.1
        · rw [ho 37 (by decide)]; exact a3.2.2.1 l hl
        · rw [ho 37 (by decide)]
          by_cases e : l < z
          · exact a3.2.2.2 l e
          · obtain ⟨⟨m, st, s1, s2, s3, s4, _⟩, _⟩ := r.2.2.1.1 l (by omega)
            have := S2 l (by omega) hl
            rw [hgv 37 0 l (by decide) (by decide) (by decide) (by decide), s4, ← s3]
            exact this
        · obtain ⟨⟨u1, u2, _⟩, uh⟩ := r.2.2.2.2.2.1 k hk'
          obtain ⟨m1, m2, me⟩ := uh l hl
          have x1 := hk 1 k l (Or.inl rfl)
          have x2 := hk 2 k l (Or.inr rfl)
          have x7 : ∀ x, x < 8 → G 47 0 (80 * k + 8 * l + x) = if k < N ∧ z ≤ l ∧ l < S ∧ ¬ g 46 0 k = 0 then 0 else g 47 0 (80 * k + 8 * l + x) := fun x hx => by
            have := hm 47 (80 * k + 8 * l + x) (Or.inl rfl)
            rw [show (80 * k + 8 * l + x) / 80 = k by omega, show (80 * k + 8 * l + x) % 80 / 8 = l by omega] at this
            exact this
          have x8 : ∀ x, x < 8 → G 48 0 (80 * k + 8 * l + x) = if k < N ∧ z ≤ l ∧ l < S ∧ ¬ g 46 0 k = 0 then 0 else g 48 0 (80 * k + 8 * l + x) := fun x hx => by
            have := hm 48 (80 * k + 8 * l + x) (Or.inr rfl)
            rw [show (80 * k + 8 * l + x) / 80 = k by omega, show (80 * k + 8 * l + x) % 80 / 8 = l by omega] at this
            exact this
          rw [u2] at x7 x8
          by_cases e : k < N ∧ z ≤ l ∧ l < S ∧ ¬ g 26 k 0 = 0
          · rw [if_pos e] at x1 x2
            refine ⟨by rw [x1]; exact m6_0, by rw [x2]; exact m6_0, fun x hx => ?_⟩
            have y7 := x7 x hx
            have y8 := x8 x hx
            rw [if_pos e] at y7 y8
            unfold rKe
            rw [x1, x2, y7, y8]
            exact ⟨(if_neg (bt_0 hx)).symm, (bI_f _ (bt_0 hx)).symm, id, fun y => absurd y (bt_0 hx)⟩
          · rw [if_neg e] at x1 x2
            refine ⟨by rw [x1]; exact m1, by rw [x2]; exact m2, fun x hx => ?_⟩
            have y7 := x7 x hx
            have y8 := x8 x hx
            rw [if_neg e] at y7 y8
            have := me x hx
            unfold rKe at this ⊢
            rw [x1, x2, y7, y8, ho 17 (by decide), ho 12 (by decide), hgv 17 _ _ (by decide) (by decide) (by decide) (by decide), hgv 12 _ _ (by decide) (by decide) (by decide) (by decide)]
            exact this
        · rw [ho 0 (by decide), hgv 0 0 j (by decide) (by decide) (by decide) (by decide)]
    · have f9 : ∀ f i j, ¬ f ∈ [28, 3, 4, 5, 7, 22, 10] → F8 b' g f i j = g f i j := fun f i j hf => F8_9 b' f i j g hf
      refine Or.inr ⟨33, 0, F8 b' g, _, by decide, fun c s x o => m_90u N L c s x o b' hb' g p hv, fun c s x o => m_135u N L c s x o b' hb' _ ?_ ?_, fun j => f9 0 0 j (by decide), gu_same _ _ _ _ _, nxt_lv hb' hb r⟩
      · rw [f9 50 0 b' (by decide), f9 51 0 b' (by decide)]; exact wk.mpr p
      · rw [f9 65 0 5 (by decide), f9 52 0 b' (by decide)]; exact fun y => hv ((v_m hb' r).mp y)
  · exact Or.inr ⟨30, 0, g, _, by decide, fun c s x o => m_90a N L c s x o b h g, fun c s x o => m_135a N L c s x o b g (fun k => h ((i_b3 b).mp k)), fun _ => rfl, gu_same _ _ _ _ _, nxt_00 hb r⟩
end O6
