/-! a broker that leaves forgets all: class and model -/
theorem F101a_v (f j : Nat) (hf : f = 55 ∨ f = 57 ∨ f = 58) : ∀ (d e : Nat) (g : mG), F101a d e g f 0 j = if e ≤ j ∧ j < e + d then 0 else g f 0 j := by
  intro d
  induction d with
  | zero => intro e g; rw [if_neg (by omega)]; rfl
  | succ d ih =>
    intro e g
    show F101a d (e + 1) (gu (gu (gu g 55 0 e 0) 57 0 e 0) 58 0 e 0) f 0 j = _
    rw [ih (e + 1)]
    have hv : gu (gu (gu g 55 0 e 0) 57 0 e 0) 58 0 e 0 f 0 j = if j = e then 0 else g f 0 j := by
      rcases hf with rfl | rfl | rfl <;> simp [gu]
    rw [hv]
    by_cases h1 : j = e
    · rw [if_pos h1, if_pos (show e ≤ j ∧ j < e + (d + 1) by omega)]
      split <;> rfl
    · rw [if_neg h1]
      by_cases h2 : e + 1 ≤ j ∧ j < e + 1 + d
      · rw [if_pos h2, if_pos (by omega)]
      · rw [if_neg h2, if_neg (by omega)]
theorem F101b_v (f j : Nat) (hf : f = 59 ∨ f = 60) : ∀ (d e : Nat) (g : mG), F101b d e g f 0 j = if e ≤ j ∧ j < e + d then 0 else g f 0 j := by
  intro d
  induction d with
  | zero => intro e g; rw [if_neg (by omega)]; rfl
  | succ d ih =>
    intro e g
    show F101b d (e + 1) (gu (gu g 59 0 e 0) 60 0 e 0) f 0 j = _
    rw [ih (e + 1)]
    have hv : gu (gu g 59 0 e 0) 60 0 e 0 f 0 j = if j = e then 0 else g f 0 j := by
      rcases hf with rfl | rfl <;> simp [gu]
    rw [hv]
    by_cases h1 : j = e
    · rw [if_pos h1, if_pos (show e ≤ j ∧ j < e + (d + 1) by omega)]
      split <;> rfl
    · rw [if_neg h1]
      by_cases h2 : e + 1 ≤ j ∧ j < e + 1 + d
      · rw [if_pos h2, if_pos (by omega)]
      · rw [if_neg h2, if_neg (by omega)]
theorem F101c_v (j : Nat) : ∀ (d e : Nat) (g : mG), F101c d e g 61 0 j = if e ≤ j ∧ j < e + d then 0 else g 61 0 j := by
  intro d
  induction d with
  | zero => intro e g; rw [if_neg (by omega)]; rfl
  | succ d ih =>
    intro e g
    show F101c d (e + 1) (gu g 61 0 e 0) 61 0 j = _
    rw [ih (e + 1)]
    have hv : gu g 61 0 e 0 61 0 j = if j = e then 0 else g 61 0 j := by simp [gu]
    rw [hv]
    by_cases h1 : j = e
    · rw [if_pos h1, if_pos (show e ≤ j ∧ j < e + (d + 1) by omega)]
      split <;> rfl
    · rw [if_neg h1]
      by_cases h2 : e + 1 ≤ j ∧ j < e + 1 + d
      · rw [if_pos h2, if_pos (by omega)]
      · rw [if_neg h2, if_neg (by omega)]
theorem F101_a (b f j : Nat) (g : mG) (hf : f = 55 ∨ f = 57 ∨ f = 58) : F101 b g f 0 j = if 6 * b ≤ j ∧ j < 6 * b + 6 then 0 else g f 0 j := by
  unfold F101 F101d
  rw [gu_f _ _ _ _ _ _ _ _ (by omega), gu_f _ _ _ _ _ _ _ _ (by omega), F101c_f _ _ _ (by omega), F101b_f _ _ _ (by omega) (by omega), F101a_v f j hf, gu_f _ _ _ _ _ _ _ _ (by omega), gu_f _ _ _ _ _ _ _ _ (by omega), gu_f _ _ _ _ _ _ _ _ (by omega), gu_f _ _ _ _ _ _ _ _ (by omega)]
theorem F101_b (b f j : Nat) (g : mG) (hf : f = 59 ∨ f = 60) : F101 b g f 0 j = if 160 * b ≤ j ∧ j < 160 * b + 160 then 0 else g f 0 j := by
  unfold F101 F101d
  rw [gu_f _ _ _ _ _ _ _ _ (by omega), gu_f _ _ _ _ _ _ _ _ (by omega), F101c_f _ _ _ (by omega), F101b_v f j hf, F101a_f _ _ _ (by omega) (by omega) (by omega), gu_f _ _ _ _ _ _ _ _ (by omega), gu_f _ _ _ _ _ _ _ _ (by omega), gu_f _ _ _ _ _ _ _ _ (by omega), gu_f _ _ _ _ _ _ _ _ (by omega)]
theorem F101_c (b j : Nat) (g : mG) : F101 b g 61 0 j = if 8 * b ≤ j ∧ j < 8 * b + 8 then 0 else g 61 0 j := by
  unfold F101 F101d
  rw [gu_f _ _ _ _ _ _ _ _ (by omega), gu_f _ _ _ _ _ _ _ _ (by omega), F101c_v, F101b_f _ _ _ (by omega) (by omega), F101a_f _ _ _ (by omega) (by omega) (by omega), gu_f _ _ _ _ _ _ _ _ (by omega), gu_f _ _ _ _ _ _ _ _ (by omega), gu_f _ _ _ _ _ _ _ _ (by omega), gu_f _ _ _ _ _ _ _ _ (by omega)]
theorem F101_d (b j : Nat) (g : mG) : F101 b g 62 0 j = if j = 2 * b ∨ j = 2 * b + 1 then 0 else g 62 0 j := by
  unfold F101 F101d
  by_cases h1 : j = 2 * b + 1
  · rw [if_pos (Or.inr h1), h1, gu_same]
  · rw [gu_k _ _ _ _ _ _ h1]
    by_cases h2 : j = 2 * b
    · rw [if_pos (Or.inl h2), h2, gu_same]
    · rw [gu_k _ _ _ _ _ _ h2, if_neg (fun z => z.elim h2 h1), F101c_f _ _ _ (by omega), F101b_f _ _ _ (by omega) (by omega), F101a_f _ _ _ (by omega) (by omega) (by omega), gu_f _ _ _ _ _ _ _ _ (by omega), gu_f _ _ _ _ _ _ _ _ (by omega), gu_f _ _ _ _ _ _ _ _ (by omega), gu_f _ _ _ _ _ _ _ _ (by omega)]
theorem F101_e (b f j : Nat) (g : mG) (hf : f = 51 ∨ f = 52 ∨ f = 54 ∨ f = 56) : F101 b g f 0 j = if j = b then 0 else g f 0 j := by
  unfold F101 F101d
  rw [gu_f _ _ _ _ _ _ _ _ (by omega), gu_f _ _ _ _ _ _ _ _ (by omega), F101c_f _ _ _ (by omega), F101b_f _ _ _ (by omega) (by omega), F101a_f _ _ _ (by omega) (by omega) (by omega)]
  rcases hf with rfl | rfl | rfl | rfl <;> simp [gu]
theorem F8_0 (b b' j : Nat) (g : mG) (h : ¬ b' = b) : F8 b g 28 b' j = g 28 b' j := by
  simp [F8, F15, F9, gf, gu, h]
theorem F8_1 (b : Nat) (g : mG) : F8 b g 28 b 0 = g 28 b 0 ∧ F8 b g 28 b 1 = 0 ∧ F8 b g 28 b 2 = 0 ∧ F8 b g 28 b 3 = -1 ∧ F8 b g 28 b 4 = 0 ∧ F8 b g 28 b 5 = 0 ∧ F8 b g 28 b 6 = 0 := by
  simp [F8, F15, F9, gf, gu]
theorem F8_3 (b b' f i : Nat) (g : mG) (hf : f = 3 ∨ f = 4 ∨ f = 5) (hi : i < 6) : F8 b g f b' i = if b' = b then 0 else g f b' i := by
  rcases hf with rfl | rfl | rfl <;> simp [F8, F15, F9, gf, gu, hi]
theorem F8_7 (b d : Nat) (g : mG) : F8 b g 7 d 0 = (if d / 2 = b then 0 else g 7 d 0) ∧ F8 b g 7 d 1 = (if d / 2 = b then 3 else g 7 d 1) := by
  by_cases h1 : d = 2 * b + 1
  · rw [if_pos (by omega), if_pos (by omega)]; subst h1; simp [F8, F15, F9, gf, gu]
  · by_cases h2 : d = 2 * b
    · rw [if_pos (by omega), if_pos (by omega)]; subst h2; simp [F8, F15, F9, gf, gu]
    · rw [if_neg (by omega), if_neg (by omega)]; simp [F8, F15, F9, gf, gu, h1, h2]
theorem F8_22 (b d l : Nat) (g : mG) (hl : l < 10) : F8 b g 22 (2 + d) l = if d / 2 = b then 0 else g 22 (2 + d) l := by
  by_cases h1 : d = 2 * b + 1
  · rw [if_pos (by omega)]; subst h1; simp [F8, F15, F9, gf, gu, hl]
  · by_cases h2 : d = 2 * b
    · rw [if_pos (by omega)]; subst h2; simp [F8, F15, F9, gf, gu, hl]
    · rw [if_neg (by omega)]
      have e1 : ¬ (2 + d = 2 + (2 * b + 1)) := by omega
      have e2 : ¬ (2 + d = 2 + (2 * b + 0)) := by omega
      simp [F8, F15, F9, gf, gu, h1, h2]
theorem F8_22s (b t l : Nat) (g : mG) (ht : t < 2) : F8 b g 22 t l = g 22 t l := by
  have e1 : ¬ (t = 2 + (2 * b + 1)) := by omega
  have e2 : ¬ (t = 2 + (2 * b)) := by omega
  simp [F8, F15, F9, gf, gu, e1, e2]
theorem F8_10 (b d t : Nat) (g : mG) (ht : t < 80) : F8 b g 10 d t = if d / 2 = b then -1 else g 10 d t := by
  by_cases h1 : d = 2 * b + 1
  · rw [if_pos (by omega)]; subst h1; simp [F8, F15, F9, gf, gu, ht]
  · by_cases h2 : d = 2 * b
    · rw [if_pos (by omega)]; subst h2; simp [F8, F15, F9, gf, gu, ht]
    · rw [if_neg (by omega)]; simp [F8, F15, F9, gf, gu, h1, h2]
theorem F8_9 (b f i j : Nat) (g : mG) (h : ¬ f ∈ [28, 3, 4, 5, 7, 22, 10]) : F8 b g f i j = g f i j := by
  refine F8_f b f i j g ?_ ?_ ?_ ?_ ?_ ?_ ?_ <;> (intro z; exact h (by rw [z]; decide))
/-- the state of a broker that left -/
def lvo (b : Nat) (g g' : mG) : Prop := (∀ j, g' 28 b j = g 28 b j) ∧ (∀ f, f ∈ [50, 51, 52, 53, 54, 56] → g' f 0 b = g f 0 b) ∧ (∀ f, f ∈ [3, 4, 5] → ∀ i, i < 6 → g' f b i = g f b i) ∧ (∀ f, f ∈ [55, 57, 58] → ∀ i, i < 6 → g' f 0 (6 * b + i) = g f 0 (6 * b + i))
def lvb (b : Nat) (u : Int32) (g' : mG) : Prop := g' 28 b 0 = u ∧ g' 50 0 b = u ∧ g' 28 b 1 = 0 ∧ g' 51 0 b = 0 ∧ g' 28 b 2 = 0 ∧ g' 52 0 b = 0 ∧ g' 28 b 3 = -1 ∧ g' 28 b 4 = 0 ∧ g' 54 0 b = 0 ∧ g' 28 b 5 = 0 ∧ g' 28 b 6 = 0 ∧ g' 56 0 b = 0 ∧ (∀ f, f ∈ [3, 4, 5] → ∀ i, i < 6 → g' f b i = 0) ∧ (∀ f, f ∈ [55, 57, 58] → ∀ i, i < 6 → g' f 0 (6 * b + i) = 0)
def ldo (d : Nat) (g g' : mG) : Prop := (∀ j, j < 2 → g' 7 d j = g 7 d j) ∧ (∀ q, q < 4 → g' 61 0 (4 * d + q) = g 61 0 (4 * d + q)) ∧ g' 62 0 d = g 62 0 d ∧ (∀ l, l < 10 → g' 22 (2 + d) l = g 22 (2 + d) l) ∧ (∀ t, t < 80 → g' 59 0 (80 * d + t) = g 59 0 (80 * d + t) ∧ g' 10 d t = g 10 d t ∧ g' 60 0 (80 * d + t) = g 60 0 (80 * d + t))
def ldz (d : Nat) (g' : mG) : Prop := g' 7 d 0 = 0 ∧ g' 7 d 1 = 3 ∧ (∀ q, q < 4 → g' 61 0 (4 * d + q) = 0) ∧ g' 62 0 d = 0 ∧ (∀ l, l < 10 → g' 22 (2 + d) l = 0) ∧ (∀ t, t < 80 → g' 59 0 (80 * d + t) = 0 ∧ g' 10 d t = -1 ∧ g' 60 0 (80 * d + t) = 0)
def lvT : List Nat := [28, 3, 4, 5, 7, 22, 10, 50, 51, 52, 54, 55, 56, 57, 58, 59, 60, 61, 62, 65, 63, 0]
def lv (b : Nat) (u : Int32) (g g' : mG) : Prop := out lvT g g' ∧ ago [1, 2, 3, 4, 5, 6, 7, 8, 14] g g' ∧ (∀ b', b' < 3 → ¬ b' = b → lvo b' g g') ∧ lvb b u g' ∧ (∀ d, d < 6 → ¬ d / 2 = b → ldo d g g') ∧ (∀ d, d < 6 → d / 2 = b → ldz d g') ∧ ∀ t l, t < 2 → l < 10 → g' 22 t l = g 22 t l
theorem rDc_g {d : Nat} {g g' : mG} (h7 : ∀ j, j < 2 → g' 7 d j = g 7 d j) (h9 : ∀ q, q < 4 → g' 9 d q = g 9 d q) (h61 : ∀ q, q < 4 → g' 61 0 (4 * d + q) = g 61 0 (4 * d + q)) (h62 : g' 62 0 d = g 62 0 d) (r : rDc d g) : rDc d g' := by
  obtain ⟨a1, a2, a3⟩ := r
  have e0 := h7 0 (by decide)
  have e1 := h7 1 (by decide)
  refine ⟨by rw [e0]; exact a1, fun q hq => ?_, by rw [e1, h62]; exact a3⟩
  rw [e0, h9 q hq, h61 q hq]
  exact a2 q hq
theorem rD_o {d : Nat} {g g' : mG} (h9 : ∀ q, q < 4 → g' 9 d q = g 9 d q) (h : ldo d g g') (r : rD d g) : rD d g' := by
  obtain ⟨a1, a2, a3, a4, a5⟩ := h
  exact ⟨rDc_g a1 h9 a2 a3 r.1, rDa_c a4 (fun t ht => (a5 t ht).1) r.2.1, rDs_c a4 (fun t ht => (a5 t ht).2.1) (fun t ht => (a5 t ht).2.2) r.2.2⟩
theorem rD_z {d : Nat} {g' : mG} (h : ldz d g') : rD d g' := by
  obtain ⟨a1, a2, a3, a4, a5, a6⟩ := h
  refine ⟨⟨by rw [a1]; exact m6_0, fun q hq => ⟨fun z => absurd z (by rw [a1]; exact bt_0 (by omega)), fun _ => a3 q hq⟩, 3, 0, by decide, by decide, a2, a4, by decide⟩, fun l hl => ⟨by rw [a5 l hl]; exact m6_0, fun e he => ?_⟩, fun t ht _ => Or.inl ⟨(a6 t ht).2.1, (a6 t ht).2.2⟩⟩
  have := (a6 (8 * l + e) (by omega)).1
  rw [← Nat.add_assoc] at this
  rw [this, a5 l hl, bI_f _ (bt_0 he)]
/-- nothing written, told, replied -/
theorem rBw_z {b ph l : Nat} {g' : mG} (h3 : ¬ ph = 3) (a1 : g' 28 b 4 = 0) (a2 : g' 54 0 b = 0) (a3 : g' 28 b 5 = 0) (a4 : ∀ i, i < 6 → g' 3 b i = 0) (a5 : ∀ i, i < 6 → g' 55 0 (6 * b + i) = 0) : rBw b ph l 0 g' :=
  ⟨by decide, a1, a2, fun _ => rfl, a3, fun i hi => ⟨by rw [a4 i hi, a5 i hi], by rw [a4 i hi]; exact m6_0, fun _ => a4 i hi⟩, fun z => absurd z h3⟩
theorem rBr_z {b ph l : Nat} {g' : mG} (a1 : g' 28 b 6 = 0) (a2 : g' 56 0 b = 0) (a3 : ∀ i, i < 6 → g' 4 b i = 0) (a4 : ∀ i, i < 6 → g' 5 b i = 0) (a5 : ∀ i, i < 6 → g' 57 0 (6 * b + i) = 0) (a6 : ∀ i, i < 6 → g' 58 0 (6 * b + i) = 0) : rBr b ph l g' := by
  refine ⟨by rw [a1, a2], by rw [a1]; exact m6_0, fun _ => a1, fun k hk => ?_⟩
  rw [a3 k hk, a4 k hk, a5 k hk, a6 k hk]
  exact ⟨rfl, m6_0, m6_0, rfl, fun _ => rfl, fun _ => ⟨rfl, rfl⟩, fun i hi z => absurd z (bt_0 (by omega))⟩
theorem rB_z {n V b l : Nat} {u : Int32} {g' : mG} (hl : l < 10) (h53 : g' 53 0 b = nI l) (hu : u = 0 ∨ u = 1) (h : lvb b u g') : rB n V b g' := by
  obtain ⟨a1, a2, a3, a4, a5, a6, a7, a8, a9, a10, a11, a12, a13, a14⟩ := h
  refine ⟨0, l, 0, 0, ⟨by decide, hl, Nat.zero_le _, by rw [a1]; exact hu, by rw [a1, a2], fun _ => rfl, a3, a4, a5, a6, h53, fun z => by omega, fun _ => a7⟩, rBw_z (by decide) a8 a9 a10 (a13 3 (by decide)) (a14 55 (by decide)), rBr_z a11 a12 (a13 4 (by decide)) (a13 5 (by decide)) (a14 57 (by decide)) (a14 58 (by decide))⟩
theorem Rel_lv {N w q a V n z M b : Nat} {u : Int32} {g g' : mG} (hb : b < 3) (hu : u = 0 ∨ u = 1) (h : lv b u g g') (r : Rel N w q a V n z M g) : Rel N w q a V n z M g' := by
  obtain ⟨h1, h2, h3, h4, h5, h6, h7⟩ := h
  obtain ⟨a1, a2, a3, a4, a5, a6, a7, a8, a9, a10⟩ := r
  have s5 : ∀ js : List Nat, (∀ j, j ∈ js → j ∈ [1, 2, 3, 4, 5, 6, 7, 8, 14]) → ago js g g' := fun js hs j hj => h2 j (hs j hj)
  have e53 : ∀ i j, g' 53 i j = g 53 i j := h1 53 (by decide)
  refine ⟨rP_c (ag_o h1 (by decide)) (s5 _ (by decide)) a1, rM_c (ag_o h1 (by decide)) (s5 _ (by decide)) a2, rLL_c (ag_o h1 (by decide)) a3, rS_c (ag_o h1 (by decide)) (s5 _ (by decide)) a4, rH_c (ag_o h1 (by decide)) a5, fun k hk => ⟨rKu_a (ag_o h1 (by decide)) (a6 k hk).1, rKh_a (ag_o h1 (by decide)) (a6 k hk).2⟩, fun b' hb' => ?_, ?_, fun d hd => ?_, fun t ht => ?_⟩
  · by_cases e : b' = b
    · subst e
      obtain ⟨ph, l, v, e, c1, c2, c3⟩ := a7 b' hb'
      exact rB_z c1.2.1 ((e53 0 b').trans c1.2.2.2.2.2.2.2.2.2.2.1) hu h4
    · obtain ⟨o1, o2, o3, o4⟩ := h3 b' hb' e
      exact rB_c o1 o2 o3 o4 (ag_o h1 (by decide)) (h2 4 (by decide)) (a7 b' hb')
  · refine ⟨fun x y hx hy hxy p1 p2 => ?_, fun x hx hc => ?_⟩
    · have n1 : ¬ x = b := fun e => by rw [e, h4.2.2.2.1] at p1; exact absurd p1 (by decide)
      have n2 : ¬ y = b := fun e => by rw [e, h4.2.2.2.1] at p2; exact absurd p2 (by decide)
      rw [(h3 x hx n1).2.1 51 (by decide)] at p1
      rw [(h3 y hy n2).2.1 51 (by decide)] at p2
      rw [e53, e53]
      exact a8.1 x y hx hy hxy p1 p2
    · by_cases e : x = b
      · rw [e, h4.2.2.2.1]
        exact ⟨fun y => absurd y (by decide), fun y => y.elim (fun t => absurd t (by decide)) (fun t => absurd t (by decide))⟩
      · have o := (h3 x hx e).2.1
        have e37 : ∀ j, g' 37 0 j = g 37 0 j := fun j => h1 37 (by decide) 0 j
        rw [o 52 (by decide), h2 5 (by decide)] at hc
        rw [o 51 (by decide), h2 7 (by decide), e53]
        simp only [e37]
        exact a8.2 x hx hc
  · by_cases e : d / 2 = b
    · exact rD_z (h6 d hd e)
    · exact rD_o (fun q _ => h1 9 (by decide) d q) (h5 d hd e) (a9 d hd)
  · exact rV_c (fun l hl => h7 t l ht hl) (fun u _ => h1 40 (by decide) 0 _) (a10 t ht)
/-- the class forgets, then the model leaves -/
theorem lv_F {b : Nat} {u : Int32} {g g1 g2 : mG} (hb : b < 3) (h1 : ∀ f i j, ¬ f ∈ [63, 65, 0] → ¬ (f = 50 ∧ j = b) → g1 f i j = F8 b g f i j) (h5 : ago [1, 2, 3, 4, 5, 6, 7, 8, 14] g g1) (hu : g 28 b 0 = u) (hu2 : g1 50 0 b = u) (h2 : ∀ f i j, ¬ f ∈ [63, 65, 0] → g2 f i j = F101 b g1 f i j) (h6 : ago [1, 2, 3, 4, 5, 6, 7, 8, 14] g1 g2) : lv b u g g2 := by
  have k1 : ∀ f i j, ¬ f ∈ [63, 65, 0] → ¬ f = 50 → g1 f i j = F8 b g f i j := fun f i j a1 a2 => h1 f i j a1 (fun z => a2 z.1)
  have kc : ∀ f i j, f < 50 → ¬ f = 0 → g2 f i j = F8 b g f i j := by
    intro f i j hf h0
    have nm : ¬ f ∈ [63, 65, 0] := by
      intro z
      simp at z
      omega
    rw [h2 f i j nm, F101_f _ _ _ _ _ (by omega), k1 f i j nm (by omega)]
  have km : ∀ f i j, 50 < f → f < 63 → g1 f i j = g f i j := by
    intro f i j hf h0
    have nm : ¬ f ∈ [63, 65, 0] := by
      intro z
      simp at z
      omega
    have nm2 : ¬ f ∈ [28, 3, 4, 5, 7, 22, 10] := by
      intro z
      simp at z
      omega
    rw [k1 f i j nm (by omega), F8_9 b f i j g nm2]
  have k50 : ∀ j, g2 50 0 j = if j = b then u else g 50 0 j := by
    intro j
    rw [h2 50 0 j (by decide), F101_f _ _ _ _ _ (by omega)]
    by_cases e : j = b
    · rw [if_pos e, e, hu2]
    · rw [if_neg e, h1 50 0 j (by decide) (fun z => e z.2), F8_9 b 50 0 j g (by decide)]
  have ke : ∀ f j, (f = 51 ∨ f = 52 ∨ f = 54 ∨ f = 56) → g2 f 0 j = if j = b then 0 else g f 0 j := by
    intro f j hf
    have nm : ¬ f ∈ [63, 65, 0] := by
      intro z
      simp at z
      omega
    rw [h2 f 0 j nm, F101_e b f j g1 hf, km f 0 j (by omega) (by omega)]
  have ka : ∀ f j, (f = 55 ∨ f = 57 ∨ f = 58) → g2 f 0 j = if 6 * b ≤ j ∧ j < 6 * b + 6 then 0 else g f 0 j := by
    intro f j hf
    have nm : ¬ f ∈ [63, 65, 0] := by
      intro z
      simp at z
      omega
    rw [h2 f 0 j nm, F101_a b f j g1 hf, km f 0 j (by omega) (by omega)]
  have kb : ∀ f j, (f = 59 ∨ f = 60) → g2 f 0 j = if 160 * b ≤ j ∧ j < 160 * b + 160 then 0 else g f 0 j := by
    intro f j hf
    have nm : ¬ f ∈ [63, 65, 0] := by
      intro z
      simp at z
      omega
    rw [h2 f 0 j nm, F101_b b f j g1 hf, km f 0 j (by omega) (by omega)]
  have k61 : ∀ j, g2 61 0 j = if 8 * b ≤ j ∧ j < 8 * b + 8 then 0 else g 61 0 j := by
    intro j
    rw [h2 61 0 j (by decide), F101_c b j g1, km 61 0 j (by omega) (by omega)]
  have k62 : ∀ j, g2 62 0 j = if j = 2 * b ∨ j = 2 * b + 1 then 0 else g 62 0 j := by
    intro j
    rw [h2 62 0 j (by decide), F101_d b j g1, km 62 0 j (by omega) (by omega)]
  have k53 : ∀ i j, g2 53 i j = g 53 i j := fun i j => by
    rw [h2 53 i j (by decide), F101_f _ _ _ _ _ (by omega), km 53 i j (by omega) (by omega)]
  obtain ⟨c0, c1, c2, c3, c4, c5, c6⟩ := F8_1 b g
  refine ⟨?_, ?_, ?_, ?_, ?_, ?_, ?_⟩
  · intro f hf i j
    have nf : ¬ f = 50 ∧ ¬ f = 51 ∧ ¬ f = 52 ∧ ¬ f = 54 ∧ ¬ f = 55 ∧ ¬ f = 56 ∧ ¬ f = 57 ∧ ¬ f = 58 ∧ ¬ f = 59 ∧ ¬ f = 60 ∧ ¬ f = 61 ∧ ¬ f = 62 ∧ ¬ f = 65 ∧ ¬ f = 63 ∧ ¬ f = 0 := by
      simp [lvT] at hf
      omega
    have nm : ¬ f ∈ [63, 65, 0] := by
      intro z
      simp at z
      omega
    have nm2 : ¬ f ∈ [28, 3, 4, 5, 7, 22, 10] := by
      simp [lvT] at hf
      intro z
      simp at z
      omega
    rw [h2 f i j nm, F101_f _ _ _ _ _ (by omega), k1 f i j nm nf.1, F8_9 b f i j g nm2]
  · intro j hj
    rw [h6 j hj, h5 j hj]
  · intro b' hb' e
    refine ⟨fun j => ?_, ?_, ?_, ?_⟩
    · rw [kc 28 b' j (by decide) (by decide), F8_0 b b' j g e]
    · intro f hf
      simp at hf
      rcases hf with rfl | rfl | rfl | rfl | rfl | rfl
      · rw [k50, if_neg e]
      · rw [ke 51 b' (by omega), if_neg e]
      · rw [ke 52 b' (by omega), if_neg e]
      · exact k53 0 b'
      · rw [ke 54 b' (by omega), if_neg e]
      · rw [ke 56 b' (by omega), if_neg e]
    · intro f hf i hi
      simp at hf
      rw [kc f b' i (by omega) (by omega), F8_3 b b' f i g hf hi, if_neg e]
    · intro f hf i hi
      simp at hf
      rw [ka f _ hf, if_neg (by omega)]
  · refine ⟨by rw [kc 28 b 0 (by decide) (by decide), c0, hu], by rw [k50, if_pos rfl], by rw [kc 28 b 1 (by decide) (by decide), c1], by rw [ke 51 b (by omega), if_pos rfl], by rw [kc 28 b 2 (by decide) (by decide), c2], by rw [ke 52 b (by omega), if_pos rfl], by rw [kc 28 b 3 (by decide) (by decide), c3], by rw [kc 28 b 4 (by decide) (by decide), c4], by rw [ke 54 b (by omega), if_pos rfl], by rw [kc 28 b 5 (by decide) (by decide), c5], by rw [kc 28 b 6 (by decide) (by decide), c6], by rw [ke 56 b (by omega), if_pos rfl], ?_, ?_⟩
    · intro f hf i hi
      simp at hf
      rw [kc f b i (by omega) (by omega), F8_3 b b f i g hf hi, if_pos rfl]
    · intro f hf i hi
      simp at hf
      rw [ka f _ hf, if_pos (by omega)]
  · intro d hd e
    obtain ⟨f0, f1⟩ := F8_7 b d g
    rw [if_neg e] at f0 f1
    refine ⟨fun j hj => ?_, fun y hy => ?_, ?_, fun l hl => ?_, fun t ht => ⟨?_, ?_, ?_⟩⟩
    · have hj2 : j = 0 ∨ j = 1 := by omega
      rcases hj2 with rfl | rfl
      · rw [kc 7 d 0 (by decide) (by decide), f0]
      · rw [kc 7 d 1 (by decide) (by decide), f1]
    · rw [k61, if_neg (by omega)]
    · rw [k62, if_neg (by omega)]
    · rw [kc 22 _ l (by decide) (by decide), F8_22 b d l g hl, if_neg e]
    · rw [kb 59 _ (by omega), if_neg (by omega)]
    · rw [kc 10 d t (by decide) (by decide), F8_10 b d t g ht, if_neg e]
    · rw [kb 60 _ (by omega), if_neg (by omega)]
  · intro d hd e
    obtain ⟨f0, f1⟩ := F8_7 b d g
    rw [if_pos e] at f0 f1
    refine ⟨by rw [kc 7 d 0 (by decide) (by decide), f0], by rw [kc 7 d 1 (by decide) (by decide), f1], fun y hy => ?_, ?_, fun l hl => ?_, fun t ht => ⟨?_, ?_, ?_⟩⟩
    · rw [k61, if_pos (by omega)]
    · rw [k62, if_pos (by omega)]
    · rw [kc 22 _ l (by decide) (by decide), F8_22 b d l g hl, if_pos e]
    · rw [kb 59 _ (by omega), if_pos (by omega)]
    · rw [kc 10 d t (by decide) (by decide), F8_10 b d t g ht, if_pos e]
    · rw [kb 60 _ (by omega), if_pos (by omega)]
  · intro t l ht hl
    rw [kc 22 t l (by decide) (by decide), F8_22s b t l g ht]
