/-! own -/
theorem F51_28 (b b' j : Nat) (g : mG) (h : ¬ b' = b) : F51 b g 28 b' j = g 28 b' j := by
  unfold F51
  rw [F33_f _ _ _ _ _ (by decide), F33_f _ _ _ _ _ (by decide), gu_ne _ _ _ _ _ _ _ _ (fun y => h y.2.1), gu_ne _ _ _ _ _ _ _ _ (fun y => h y.2.1), F8_0 b b' j _ h, gu_f _ _ _ _ _ _ _ _ (by decide), gu_f _ _ _ _ _ _ _ _ (by decide)]
theorem F51_8 (b : Nat) (g : mG) : F51 b g 28 b 0 = g 28 b 0 ∧ F51 b g 28 b 2 = g 23 0 0 + 1 ∧ F51 b g 28 b 3 = -1 ∧ F51 b g 28 b 4 = 0 ∧ F51 b g 28 b 5 = 0 ∧ F51 b g 28 b 6 = 0 := by
  unfold F51
  obtain ⟨c0, c1, c2, c3, c4, c5, c6⟩ := F8_1 b (gu (gu g 23 0 0 (g 23 0 0 + 1)) 23 0 1 (nI b))
  simp only [F33_f _ _ 28 _ _ (by decide)]
  refine ⟨?_, ?_, ?_, ?_, ?_, ?_⟩
  · rw [gu_k _ _ _ _ _ _ (by decide), gu_k _ _ _ _ _ _ (by decide), c0, gu_f _ _ _ _ _ _ _ _ (by decide), gu_f _ _ _ _ _ _ _ _ (by decide)]
  · rw [gu_k _ _ _ _ _ _ (by decide), gu_same]
  · rw [gu_k _ _ _ _ _ _ (by decide), gu_k _ _ _ _ _ _ (by decide), c3]
  · rw [gu_k _ _ _ _ _ _ (by decide), gu_k _ _ _ _ _ _ (by decide), c4]
  · rw [gu_k _ _ _ _ _ _ (by decide), gu_k _ _ _ _ _ _ (by decide), c5]
  · rw [gu_k _ _ _ _ _ _ (by decide), gu_k _ _ _ _ _ _ (by decide), c6]
theorem F51_e (b f i j : Nat) (g : mG) (h1 : ¬ f = 28) (h2 : ¬ f = 22) (h3 : ¬ f = 23) : F51 b g f i j = F8 b (gu (gu g 23 0 0 (g 23 0 0 + 1)) 23 0 1 (nI b)) f i j := by
  unfold F51
  rw [F33_f _ _ _ _ _ h2, F33_f _ _ _ _ _ h2, gu_f _ _ _ _ _ _ _ _ h1, gu_f _ _ _ _ _ _ _ _ h1]
theorem F51_23 (b : Nat) (g : mG) : F51 b g 23 0 0 = g 23 0 0 + 1 ∧ F51 b g 23 0 1 = nI b := by
  unfold F51
  refine ⟨?_, ?_⟩
  · rw [F33_f _ _ _ _ _ (by decide), F33_f _ _ _ _ _ (by decide), gu_f _ _ _ _ _ _ _ _ (by decide), gu_f _ _ _ _ _ _ _ _ (by decide), F8_9 b 23 0 0 _ (by decide), gu_k _ _ _ _ _ _ (by decide), gu_same]
  · rw [F33_f _ _ _ _ _ (by decide), F33_f _ _ _ _ _ (by decide), gu_f _ _ _ _ _ _ _ _ (by decide), gu_f _ _ _ _ _ _ _ _ (by decide), F8_9 b 23 0 1 _ (by decide), gu_same]
theorem or_0 {m : Int32} (h : m6 m) : 0 ||| m = m := by
  obtain ⟨j, hj, rfl⟩ := h
  rw [show (0 : Int32) = nI 0 from rfl, b6_or 0 (by decide) j hj, Nat.zero_or]
theorem F51_22 (b d l : Nat) (g : mG) (hl : l < 10) (hm : ∀ t, t < 2 → m6 (g 22 t l)) : F51 b g 22 (2 + d) l = if d / 2 = b then g 22 (d % 2) l else g 22 (2 + d) l := by
  unfold F51
  have k : ∀ i, gu (gu (F8 b (gu (gu g 23 0 0 (g 23 0 0 + 1)) 23 0 1 (nI b))) 28 b 2 (g 23 0 0 + 1)) 28 b 1 2 22 i l = F8 b (gu (gu g 23 0 0 (g 23 0 0 + 1)) 23 0 1 (nI b)) 22 i l := fun i => by rw [gu_f _ _ _ _ _ _ _ _ (by decide), gu_f _ _ _ _ _ _ _ _ (by decide)]
  have ks : ∀ t, t < 2 → F8 b (gu (gu g 23 0 0 (g 23 0 0 + 1)) 23 0 1 (nI b)) 22 t l = g 22 t l := fun t ht => by rw [F8_22s b t l _ ht, gu_f _ _ _ _ _ _ _ _ (by decide), gu_f _ _ _ _ _ _ _ _ (by decide)]
  have kd : ∀ d, F8 b (gu (gu g 23 0 0 (g 23 0 0 + 1)) 23 0 1 (nI b)) 22 (2 + d) l = if d / 2 = b then 0 else g 22 (2 + d) l := fun d => by rw [F8_22 b d l _ hl, gu_f _ _ _ _ _ _ _ _ (by decide), gu_f _ _ _ _ _ _ _ _ (by decide)]
  rw [F33_v _ _ l (by omega), F33_v _ _ l (by omega), F33_v _ _ l (by omega), F33_v _ _ l (by omega)]
  by_cases e1 : d = 2 * b + 1
  · subst e1
    rw [if_pos ⟨rfl, by omega, by omega⟩, if_neg (by omega), if_neg (by omega), k, k, kd, ks 1 (by decide), if_pos (by omega), if_pos (by omega), or_0 (hm 1 (by decide)), show (2 * b + 1) % 2 = 1 by omega]
  · rw [if_neg (by omega)]
    by_cases e0 : d = 2 * b
    · subst e0
      rw [if_pos ⟨by omega, by omega, by omega⟩, k, k, show 2 + (2 * b + 0) = 2 + (2 * b) by rfl, kd, ks 0 (by decide), if_pos (by omega), if_pos (by omega), or_0 (hm 0 (by decide)), show (2 * b) % 2 = 0 by omega]
    · rw [if_neg (by omega), k, kd]
      by_cases e : d / 2 = b
      · omega
      · rw [if_neg e, if_neg e]
theorem F51_22s (b t l : Nat) (g : mG) (ht : t < 2) : F51 b g 22 t l = g 22 t l := by
  unfold F51
  rw [F33_v _ _ l (by omega), F33_v _ _ l (by omega), F33_v _ _ l (by omega), F33_v _ _ l (by omega), if_neg (by omega), if_neg (by omega), gu_f _ _ _ _ _ _ _ _ (by decide), gu_f _ _ _ _ _ _ _ _ (by decide), F8_22s b t l _ ht, gu_f _ _ _ _ _ _ _ _ (by decide), gu_f _ _ _ _ _ _ _ _ (by decide)]
/-- the model's side -/
theorem F98l_v (b j : Nat) : ∀ (d k : Nat) (g : mG), F98l b d k g 59 0 j = if 160 * b + k ≤ j ∧ j < 160 * b + k + d then g 40 0 (j - 160 * b) else g 59 0 j := by
  intro d
  induction d with
  | zero => intro k g; rw [if_neg (by omega)]; rfl
  | succ d ih =>
    intro k g
    show F98l b d (k + 1) (gu g 59 0 (160 * b + k) (g 40 0 k)) 59 0 j = _
    rw [ih (k + 1), gu_f _ _ _ _ 40 _ _ _ (by decide)]
    by_cases h1 : j = 160 * b + k
    · rw [if_neg (by omega), if_pos (by omega), h1, gu_same, show 160 * b + k - 160 * b = k by omega]
    · rw [gu_k _ _ _ _ _ _ h1]
      by_cases h2 : 160 * b + (k + 1) ≤ j ∧ j < 160 * b + (k + 1) + d
      · rw [if_pos h2, if_pos (by omega)]
      · rw [if_neg h2, if_neg (by omega)]
theorem F98_e (b f j : Nat) (g : mG) (h1 : ¬ f = 65) (h2 : ¬ f = 52) (h3 : ¬ f = 59) (h4 : ¬ f = 51) : F98 b g f 0 j = F101 b (gu g 65 0 0 0) f 0 j := by
  unfold F98
  rw [gu_f _ _ _ _ _ _ _ _ h4, F98l_f _ _ _ _ h3, gu_f _ _ _ _ _ _ _ _ h1, gu_f _ _ _ _ _ _ _ _ h2, gu_f _ _ _ _ _ _ _ _ h1]
theorem F98_51 (b j : Nat) (g : mG) : F98 b g 51 0 j = if j = b then 2 else g 51 0 j := by
  unfold F98
  by_cases e : j = b
  · rw [e, gu_same, if_pos rfl]
  · rw [gu_k _ _ _ _ _ _ e, if_neg e, F98l_f _ _ _ _ (by decide), gu_f _ _ _ _ _ _ _ _ (by decide), gu_f _ _ _ _ _ _ _ _ (by decide), gu_f _ _ _ _ _ _ _ _ (by decide), F101_e b 51 j _ (by omega), if_neg e, gu_f _ _ _ _ _ _ _ _ (by decide)]
theorem F98_52 (b j : Nat) (g : mG) : F98 b g 52 0 j = if j = b then g 65 0 5 + 1 else g 52 0 j := by
  unfold F98
  rw [gu_f _ _ _ _ _ _ _ _ (by decide), F98l_f _ _ _ _ (by decide), gu_f _ _ _ _ _ _ _ _ (by decide)]
  by_cases e : j = b
  · rw [e, gu_same, if_pos rfl]
  · rw [gu_k _ _ _ _ _ _ e, if_neg e, gu_f _ _ _ _ _ _ _ _ (by decide), F101_e b 52 j _ (by omega), if_neg e, gu_f _ _ _ _ _ _ _ _ (by decide)]
theorem F98_59 (b j : Nat) (g : mG) : F98 b g 59 0 j = if 160 * b ≤ j ∧ j < 160 * b + 160 then g 40 0 (j - 160 * b) else g 59 0 j := by
  unfold F98
  rw [gu_f _ _ _ _ _ _ _ _ (by decide), F98l_v, gu_f _ _ _ _ 40 _ _ _ (by decide), gu_f _ _ _ _ 40 _ _ _ (by decide), gu_f _ _ _ _ 40 _ _ _ (by decide), F101_f _ _ _ _ _ (by omega), gu_f _ _ _ _ _ _ _ _ (by decide), gu_f _ _ _ _ _ _ _ _ (by decide), gu_f _ _ _ _ _ _ _ _ (by decide), gu_f _ _ _ _ _ _ _ _ (by decide), F101_b b 59 j _ (by omega), gu_f _ _ _ _ _ _ _ _ (by decide)]
  by_cases e : 160 * b ≤ j ∧ j < 160 * b + 160
  · rw [if_pos (by omega), if_pos e]
  · rw [if_neg (by omega), if_neg e, if_neg e]
theorem F98_65 (b : Nat) (g : mG) : F98 b g 65 0 0 = 0 ∧ F98 b g 65 0 5 = g 65 0 5 + 1 ∧ F98 b g 65 0 6 = nI b ∧ ∀ j, ¬ j = 0 → ¬ j = 5 → ¬ j = 6 → F98 b g 65 0 j = g 65 0 j := by
  unfold F98
  simp only [gu_f _ 51 _ _ 65 _ _ _ (by decide), F98l_f _ 65 _ _ (by decide)]
  refine ⟨?_, ?_, ?_, fun j h0 h5 h6 => ?_⟩
  · rw [gu_k _ _ _ _ _ _ (by decide), gu_f _ _ _ _ _ _ _ _ (by decide), gu_k _ _ _ _ _ _ (by decide), F101_f _ _ _ _ _ (by omega), gu_same]
  · rw [gu_k _ _ _ _ _ _ (by decide), gu_f _ _ _ _ _ _ _ _ (by decide), gu_same]
  · rw [gu_same]
  · rw [gu_k _ _ _ _ _ _ h6, gu_f _ _ _ _ _ _ _ _ (by decide), gu_k _ _ _ _ _ _ h5, F101_f _ _ _ _ _ (by omega), gu_k _ _ _ _ _ _ h0]
theorem F98_h (b f i j : Nat) (g : mG) (h : f < 51 ∨ f = 53 ∨ (62 < f ∧ ¬ f = 65)) : F98 b g f i j = g f i j := by
  unfold F98
  rw [gu_f _ _ _ _ _ _ _ _ (by omega), F98l_f _ _ _ _ (by omega), gu_f _ _ _ _ _ _ _ _ (by omega), gu_f _ _ _ _ _ _ _ _ (by omega), gu_f _ _ _ _ _ _ _ _ (by omega), F101_f _ _ _ _ _ (by omega), gu_f _ _ _ _ _ _ _ _ (by omega)]
theorem rLe_c' {N w l : Nat} {g g' : mG} (h20 : g' 20 l 2 = g 20 l 2) (h : ag [11, 36] g g') (r : rLe N w l g) : rLe N w l g' := by
  have h11 := h 11 (by decide)
  have h36 := h 36 (by decide)
  unfold rLe at r ⊢
  simp only [h20, h11, h36]
  exact r
section O7
variable {N w q a V n z M : Nat} {g : mG} (L : Nat)
theorem rU_own {b : Nat} {G : mG} (hV : V ≤ 600) (h5 : G 65 0 5 = nI (V + 1)) (ho : ∀ b', b' < 3 → ¬ b' = b → ∃ v, v ≤ V ∧ G 52 0 b' = nI v) (hn : (G 51 0 b = 2 → ∀ m, m < 10 → G 65 0 7 = nI (m + 1) → G 37 0 m = 2) ∧ (G 51 0 b = 1 ∨ G 51 0 b = 3 → G 65 0 7 = G 53 0 b + 1)) : rU G := by
  intro x hx hc
  by_cases e : x = b
  · rw [e]; exact hn
  · obtain ⟨v, hv, e2⟩ := ho x hx e
    rw [e2, h5, iI_eq (by omega) (by omega)] at hc
    omega
theorem v52 {b' : Nat} (r : Rel N w q a V n z M g) (hb' : b' < 3) : ∃ v, v ≤ V ∧ g 52 0 b' = nI v := by
  obtain ⟨ph, l, v, e, c1, _, _⟩ := r.2.2.2.2.2.2.1 b' hb'
  exact ⟨v, c1.2.2.1, c1.2.2.2.2.2.2.2.2.2.1⟩
theorem Rel_own {b : Nat} {G : mG} (hbb : b < 3) (h1 : out ([20, 37, 53, 23] ++ lvT) g G) (h23 : G 23 0 0 = nI (V + 1) ∧ G 23 0 1 = nI b ∧ ∀ j, 2 ≤ j → G 23 0 j = g 23 0 j) (h65 : G 65 0 5 = nI (V + 1) ∧ G 65 0 6 = nI b ∧ ago [1, 2, 3, 4, 7, 8, 14] g G) (hLL : rLL N w q n z G) (ho : ∀ b', b' < 3 → ¬ b' = b → lvo b' g G) (hB : rB n (V + 1) b G) (h51 : ¬ G 51 0 b = 3) (hU : rU G) (hd : ∀ d, d < 6 → ¬ d / 2 = b → ldo d g G) (hD : ∀ d, d < 6 → d / 2 = b → rD d G) (h22 : ∀ t l, t < 2 → l < 10 → G 22 t l = g 22 t l) (r : Rel N w q a V n z M g) : Rel N w q a (V + 1) n z M G := by
  obtain ⟨a1, a2, a3, a4, a5, a6, a7, a8, a9, a10⟩ := r
  have s5 : ∀ js : List Nat, (∀ j, j ∈ js → j ∈ [1, 2, 3, 4, 7, 8, 14]) → ago js g G := fun js hs j hj => h65.2.2 j (hs j hj)
  refine ⟨rP_c (ag_o h1 (by decide)) (s5 _ (by decide)) a1, ⟨h23.1, h65.1, ?_, ?_, ?_, ?_, ?_⟩, hLL, rS_c (ag_o h1 (by decide)) (s5 _ (by decide)) a4, rH_c (ag_o h1 (by decide)) a5, fun k hk => ⟨rKu_a (ag_o h1 (by decide)) (a6 k hk).1, rKh_a (ag_o h1 (by decide)) (a6 k hk).2⟩, fun b' hb' => ?_, ?_, fun d hd' => ?_, fun t ht => ?_⟩
  · rw [h23.2.1, h65.2.1]
  · rw [h23.2.2 2 (by decide)]; exact a2.2.2.2.1
  · rw [h65.2.2 7 (by decide)]; exact a2.2.2.2.2.1
  · rw [h23.2.2 3 (by decide)]; exact a2.2.2.2.2.2.1
  · rw [h65.2.2 8 (by decide)]; exact a2.2.2.2.2.2.2
  · by_cases e : b' = b
    · subst e; exact hB
    · obtain ⟨o1, o2, o3, o4⟩ := ho b' hb' e
      exact rB_up (Nat.le_refl _) (Nat.le_succ _) (rB_c o1 o2 o3 o4 (ag_o h1 (by decide)) (h65.2.2 4 (by decide)) (a7 b' hb'))
  · refine ⟨?_, hU⟩
    intro x y hx hy hxy p1 p2
    have n1 : ¬ x = b := fun e => h51 (by rw [← e]; exact p1)
    have n2 : ¬ y = b := fun e => h51 (by rw [← e]; exact p2)
    rw [(ho x hx n1).2.1 51 (by decide)] at p1
    rw [(ho y hy n2).2.1 51 (by decide)] at p2
    rw [(ho x hx n1).2.1 53 (by decide), (ho y hy n2).2.1 53 (by decide)]
    exact a8.1 x y hx hy hxy p1 p2
  · by_cases e : d / 2 = b
    · exact hD d hd' e
    · exact rD_o (fun q _ => h1 9 (by decide) d q) (hd d hd' e) (a9 d hd')
  · exact rV_c (fun l hl => h22 t l ht hl) (fun u _ => h1 40 (by decide) 0 _) (a10 t ht)
/-- what own leaves behind, but for a ledger to recover -/
def oS (b V : Nat) (g G : mG) : Prop := out ([20, 23] ++ lvT) g G ∧ (G 23 0 0 = nI (V + 1) ∧ G 23 0 1 = nI b ∧ ∀ j, 2 ≤ j → G 23 0 j = g 23 0 j) ∧ (G 65 0 5 = nI (V + 1) ∧ G 65 0 6 = nI b ∧ ago [1, 2, 3, 4, 7, 8, 14] g G) ∧ (∀ b', b' < 3 → ¬ b' = b → lvo b' g G) ∧ (G 28 b 0 = g 28 b 0 ∧ G 28 b 2 = nI (V + 1) ∧ G 52 0 b = nI (V + 1) ∧ G 28 b 4 = 0 ∧ G 54 0 b = 0 ∧ G 28 b 5 = 0 ∧ G 28 b 6 = 0 ∧ G 56 0 b = 0) ∧ ((∀ f, f ∈ [3, 4, 5] → ∀ i, i < 6 → G f b i = 0) ∧ ∀ f, f ∈ [55, 57, 58] → ∀ i, i < 6 → G f 0 (6 * b + i) = 0) ∧ (∀ d, d < 6 → ¬ d / 2 = b → ldo d g G) ∧ (∀ d, d < 6 → d / 2 = b → rD d G) ∧ (∀ t l, t < 2 → l < 10 → G 22 t l = g 22 t l)
theorem oS_e {b : Nat} {g1 : mG} (hbb : b < 3) (r : Rel N w q a V n z M g) (h1 : ∀ f i j, ¬ f = 20 → ¬ (f = 28 ∧ i = b ∧ (j = 1 ∨ j = 3)) → g1 f i j = F51 b g f i j) : oS b V g (F98 b g1) := by
  have hV := r.2.2.2.2.2.2.2.2.2
  have hm : ∀ l, l < 10 → ∀ t, t < 2 → m6 (g 22 t l) := fun l hl t ht => ((hV t ht) l hl).1
  have nf : ∀ f i j, ¬ f ∈ [20, 28, 3, 4, 5, 7, 22, 10, 23] → g1 f i j = g f i j := fun f i j hf => by
    have n1 : ¬ f = 20 ∧ ¬ f = 28 ∧ ¬ f = 3 ∧ ¬ f = 4 ∧ ¬ f = 5 ∧ ¬ f = 7 ∧ ¬ f = 22 ∧ ¬ f = 10 ∧ ¬ f = 23 := by
      simp at hf
      omega
    rw [h1 f i j n1.1 (fun y => n1.2.1 y.1), F51_f b f i j g n1.2.1 n1.2.2.1 n1.2.2.2.1 n1.2.2.2.2.1 n1.2.2.2.2.2.1 n1.2.2.2.2.2.2.1 n1.2.2.2.2.2.2.2.1 (fun y => n1.2.2.2.2.2.2.2.2 y.1)]
  have cf : ∀ f i j, f < 51 → ¬ f = 20 → ¬ (f = 28 ∧ i = b ∧ (j = 1 ∨ j = 3)) → F98 b g1 f i j = F51 b g f i j := fun f i j hf h20 h28 => by
    rw [F98_f b f i j g1 (by omega), h1 f i j h20 h28]
  have k5 : g1 65 0 5 = nI V := (nf 65 0 5 (by decide)).trans r.2.1.2.1
  have k0 : g 23 0 0 = nI V := r.2.1.1
  obtain ⟨e0, e2, e3, e4, e5, e6⟩ := F51_8 b g
  obtain ⟨f0, f5, f6, f7⟩ := F98_65 b g1
  have ec : ∀ f j, f = 54 ∨ f = 56 → F98 b g1 f 0 j = if j = b then 0 else g f 0 j := fun f j hf => by
    rw [F98_e b f j g1 (by omega) (by omega) (by omega) (by omega), F101_e b f j _ (by omega), gu_f _ _ _ _ _ _ _ _ (by omega)]
    have : ¬ f ∈ [20, 28, 3, 4, 5, 7, 22, 10, 23] := by
      intro y
      simp at y
      omega
    rw [nf f 0 j this]
  have ea : ∀ f j, f = 55 ∨ f = 57 ∨ f = 58 → F98 b g1 f 0 j = if 6 * b ≤ j ∧ j < 6 * b + 6 then 0 else g f 0 j := fun f j hf => by
    rw [F98_e b f j g1 (by omega) (by omega) (by omega) (by omega), F101_a b f j _ hf, gu_f _ _ _ _ _ _ _ _ (by omega)]
    have : ¬ f ∈ [20, 28, 3, 4, 5, 7, 22, 10, 23] := by
      intro y
      simp at y
      omega
    rw [nf f 0 j this]
  have e60 : ∀ j, F98 b g1 60 0 j = if 160 * b ≤ j ∧ j < 160 * b + 160 then 0 else g 60 0 j := fun j => by
    rw [F98_e b 60 j g1 (by decide) (by decide) (by decide) (by decide), F101_b b 60 j _ (by omega), gu_f _ _ _ _ _ _ _ _ (by decide), nf 60 0 j (by decide)]
  have e61 : ∀ j, F98 b g1 61 0 j = if 8 * b ≤ j ∧ j < 8 * b + 8 then 0 else g 61 0 j := fun j => by
    rw [F98_e b 61 j g1 (by decide) (by decide) (by decide) (by decide), F101_c b j _, gu_f _ _ _ _ _ _ _ _ (by decide), nf 61 0 j (by decide)]
  have e62 : ∀ j, F98 b g1 62 0 j = if j = 2 * b ∨ j = 2 * b + 1 then 0 else g 62 0 j := fun j => by
    rw [F98_e b 62 j g1 (by decide) (by decide) (by decide) (by decide), F101_d b j _, gu_f _ _ _ _ _ _ _ _ (by decide), nf 62 0 j (by decide)]
  have e59 : ∀ j, F98 b g1 59 0 j = if 160 * b ≤ j ∧ j < 160 * b + 160 then g 40 0 (j - 160 * b) else g 59 0 j := fun j => by
    rw [F98_59, nf 40 0 _ (by decide), nf 59 0 j (by decide)]
  have c3 : ∀ f b' i, f = 3 ∨ f = 4 ∨ f = 5 → i < 6 → F98 b g1 f b' i = if b' = b then 0 else g f b' i := fun f b' i hf hi => by
    rw [cf f b' i (by omega) (by omega) (by omega), F51_e b f b' i g (by omega) (by omega) (by omega), F8_3 b b' f i _ hf hi, gu_f _ _ _ _ _ _ _ _ (by omega), gu_f _ _ _ _ _ _ _ _ (by omega)]
  have c7 : ∀ d, F98 b g1 7 d 0 = (if d / 2 = b then 0 else g 7 d 0) ∧ F98 b g1 7 d 1 = (if d / 2 = b then 3 else g 7 d 1) := fun d => by
    obtain ⟨y0, y1⟩ := F8_7 b d (gu (gu g 23 0 0 (g 23 0 0 + 1)) 23 0 1 (nI b))
    rw [gu_f _ _ _ _ 7 _ _ _ (by decide), gu_f _ _ _ _ 7 _ _ _ (by decide)] at y0 y1
    exact ⟨by rw [cf 7 d 0 (by decide) (by decide) (by omega), F51_e b 7 d 0 g (by decide) (by decide) (by decide), y0], by rw [cf 7 d 1 (by decide) (by decide) (by omega), F51_e b 7 d 1 g (by decide) (by decide) (by decide), y1]⟩
  have c10 : ∀ d t, t < 80 → F98 b g1 10 d t = if d / 2 = b then -1 else g 10 d t := fun d t ht => by
    rw [cf 10 d t (by decide) (by decide) (by omega), F51_e b 10 d t g (by decide) (by decide) (by decide), F8_10 b d t _ ht, gu_f _ _ _ _ 10 _ _ _ (by decide), gu_f _ _ _ _ 10 _ _ _ (by decide)]
  have c22 : ∀ d l, l < 10 → F98 b g1 22 (2 + d) l = if d / 2 = b then g 22 (d % 2) l else g 22 (2 + d) l := fun d l hl => by
    rw [cf 22 _ l (by decide) (by decide) (by omega), F51_22 b d l g hl (hm l hl)]
  have c22s : ∀ t l, t < 2 → F98 b g1 22 t l = g 22 t l := fun t l ht => by
    rw [cf 22 t l (by decide) (by decide) (by omega), F51_22s b t l g ht]
  refine ⟨fun f hf i j => ?_, ⟨?_, ?_, fun j hj => ?_⟩, ⟨?_, f6, fun j hj => ?_⟩, fun b' hb' e => ⟨fun j => ?_, fun f hf => ?_, fun f hf i hi => ?_, fun f hf i hi => ?_⟩, ⟨?_, ?_, ?_, ?_, ?_, ?_, ?_, ?_⟩, ⟨fun f hf i hi => ?_, fun f hf i hi => ?_⟩, fun d hd e => ⟨fun j hj => ?_, fun y hy => ?_, ?_, fun l hl => ?_, fun t ht => ⟨?_, ?_, ?_⟩⟩, fun d hd e => ⟨⟨?_, fun y hy => ⟨fun x => ?_, fun _ => ?_⟩, 3, 0, by decide, by decide, ?_, ?_, by decide⟩, fun l hl => ⟨?_, fun x hx => ?_⟩, fun t ht _ => Or.inl ⟨?_, ?_⟩⟩, fun t l ht _ => c22s t l ht⟩
  · have n1 : ¬ f = 20 ∧ ¬ f = 23 ∧ ¬ f = 28 ∧ ¬ f = 3 ∧ ¬ f = 4 ∧ ¬ f = 5 ∧ ¬ f = 7 ∧ ¬ f = 22 ∧ ¬ f = 10 ∧ ¬ f = 50 ∧ ¬ f = 51 ∧ ¬ f = 52 ∧ ¬ f = 54 ∧ ¬ f = 55 ∧ ¬ f = 56 ∧ ¬ f = 57 ∧ ¬ f = 58 ∧ ¬ f = 59 ∧ ¬ f = 60 ∧ ¬ f = 61 ∧ ¬ f = 62 ∧ ¬ f = 65 ∧ ¬ f = 63 ∧ ¬ f = 0 := by
      simp [lvT] at hf
      omega
    have n2 : ¬ f ∈ [20, 28, 3, 4, 5, 7, 22, 10, 23] := by
      intro y
      simp at y
      omega
    rw [F98_h b f i j g1 (by omega), nf f i j n2]
  · rw [cf 23 0 0 (by decide) (by decide) (by omega), (F51_23 b g).1, k0, iI_s]
  · rw [cf 23 0 1 (by decide) (by decide) (by omega), (F51_23 b g).2]
  · rw [cf 23 0 j (by decide) (by decide) (by omega), F51_f b 23 0 j g (by decide) (by decide) (by decide) (by decide) (by decide) (by decide) (by decide) (by omega)]
  · rw [f5, k5, iI_s]
  · have nj : ¬ j = 0 ∧ ¬ j = 5 ∧ ¬ j = 6 := by
      simp at hj
      omega
    rw [f7 j nj.1 nj.2.1 nj.2.2, nf 65 0 j (by decide)]
  · rw [cf 28 b' j (by decide) (by decide) (fun y => e y.2.1), F51_28 b b' j g e]
  · simp at hf
    rcases hf with rfl | rfl | rfl | rfl | rfl | rfl
    · rw [F98_h b 50 0 b' g1 (by omega), nf 50 0 b' (by decide)]
    · rw [F98_51, if_neg e, nf 51 0 b' (by decide)]
    · rw [F98_52, if_neg e, nf 52 0 b' (by decide)]
    · rw [F98_h b 53 0 b' g1 (by omega), nf 53 0 b' (by decide)]
    · rw [ec 54 b' (by omega), if_neg e]
    · rw [ec 56 b' (by omega), if_neg e]
  · simp at hf
    rw [c3 f b' i hf hi, if_neg e]
  · simp at hf
    rw [ea f _ hf, if_neg (by omega)]
  · rw [cf 28 b 0 (by decide) (by decide) (by omega), e0]
  · rw [cf 28 b 2 (by decide) (by decide) (by omega), e2, k0, iI_s]
  · rw [F98_52, if_pos rfl, k5, iI_s]
  · rw [cf 28 b 4 (by decide) (by decide) (by omega), e4]
  · rw [ec 54 b (by omega), if_pos rfl]
  · rw [cf 28 b 5 (by decide) (by decide) (by omega), e5]
  · rw [cf 28 b 6 (by decide) (by decide) (by omega), e6]
  · rw [ec 56 b (by omega), if_pos rfl]
  · simp at hf
    rw [c3 f b i hf hi, if_pos rfl]
  · simp at hf
    rw [ea f _ hf, if_pos (by omega)]
  · have hj2 : j = 0 ∨ j = 1 := by omega
    rcases hj2 with rfl | rfl
    · rw [(c7 d).1, if_neg e]
    · rw [(c7 d).2, if_neg e]
  · rw [e61, if_neg (by omega)]
  · rw [e62, if_neg (by omega)]
  · rw [c22 d l hl, if_neg e]
  · rw [e59, if_neg (by omega)]
  · rw [c10 d t ht, if_neg e]
  · rw [e60, if_neg (by omega)]
  · rw [(c7 d).1, if_pos e]; exact m6_0
  · rw [(c7 d).1, if_pos e] at x
    exact absurd x (bt_0 (by omega))
  · rw [e61, if_pos (by omega)]
  · rw [(c7 d).2, if_pos e]; rfl
  · rw [e62, if_pos (by omega)]; rfl
  · rw [c22 d l hl, if_pos e]; exact hm l hl (d % 2) (by omega)
  · rw [c22 d l hl, if_pos e, e59, if_pos (by omega), show 80 * d + 8 * l + x - 160 * b = 80 * (d % 2) + 8 * l + x by omega]
    exact ((hV (d % 2) (by omega)) l hl).2 x hx
  · rw [c10 d t ht, if_pos e]
  · rw [e60, if_pos (by omega)]
theorem op_51 (hb : nb V n z M) (r : Rel N w q a V n z M g) (b : Int32) : opI N L 51 98 [.inl b] (cd 150) (nxt N w q a V g) g := by
  have hn : n ≤ 10 := hb.2.1
  by_cases h : ¬ b < 0 ∧ ¬ 3 ≤ b
  · obtain ⟨b', hb', rfl⟩ := inr_of (n := 3) (by decide) h
    obtain ⟨ph, l, ve, e, c1, _, _⟩ := r.2.2.2.2.2.2.1 b' hb'
    by_cases p : g 28 b' 0 = 0
    · exact Or.inr ⟨31, 0, g, _, by decide, fun c s x o => m_51s N L c s x o b' hb' g p, fun c s x o => m_98s N L c s x o b' hb' g (c1.2.2.2.2.1.trans p), fun _ => rfl, gu_same _ _ _ _ _, nxt_00 hb r⟩
    have hs : ∀ k, k < 160 → g 40 0 k = 0 ∨ g 40 0 k = 1 := fun k hk => by
      have := ((r.2.2.2.2.2.2.2.2.2 (k / 80) (by omega)) (k % 80 / 8) (by omega)).2 (k % 8) (by omega)
      rw [show 80 * (k / 80) + 8 * (k % 80 / 8) + k % 8 = k by omega] at this
      rw [this]
      exact Eq.mpr (bI_ok _) trivial
    have nf : ∀ f i j, ¬ f ∈ [28, 3, 4, 5, 7, 22, 10, 23] → F51 b' g f i j = g f i j := fun f i j hf => by
      have n1 : ¬ f = 28 ∧ ¬ f = 3 ∧ ¬ f = 4 ∧ ¬ f = 5 ∧ ¬ f = 7 ∧ ¬ f = 22 ∧ ¬ f = 10 ∧ ¬ f = 23 := by
        simp at hf
        omega
      exact F51_f b' f i j g n1.1 n1.2.1 n1.2.2.1 n1.2.2.2.1 n1.2.2.2.2.1 n1.2.2.2.2.2.1 n1.2.2.2.2.2.2.1 (fun y => n1.2.2.2.2.2.2.2 y.1)
    by_cases hc : n = 0 ∨ g 20 (n - 1) 0 = 2
    · have hc2 : n = 0 ∨ g 37 0 (n - 1) = 2 := by
        by_cases e0 : n = 0
        · exact Or.inl e0
        · obtain ⟨⟨m, st, s1, s2, s3, s4, _⟩, _⟩ := r.2.2.1.1 (n - 1) (by omega)
          exact Or.inr (by rw [s4, ← s3]; exact hc.resolve_left e0)
      refine Or.inl ⟨2, _, _, fun c s x o => m_51n N L c s x o b' n hb' hn g p r.2.1.2.2.2.1 hc, fun c s x o => m_98n N L c s x o b' n hb' hn _ ?_ ?_ ?_ ?_, fun j => nf 0 0 j (by decide), (F98_65 b' _).1, ?_⟩
      · rw [nf 50 0 b' (by decide), c1.2.2.2.2.1]; exact p
      · intro k hk; rw [nf 40 0 k (by decide)]; exact hs k hk
      · rw [nf 65 0 7 (by decide)]; exact r.2.1.2.2.2.2.1
      · rw [nf 37 0 (n - 1) (by decide)]; exact hc2
      · obtain ⟨o1, o2, o3, o4, o5, o6, o7, o8, o9⟩ := oS_e hb' r (g1 := F51 b' g) (fun _ _ _ _ _ => rfl)
        have k20 : ∀ i j, F98 b' (F51 b' g) 20 i j = g 20 i j := fun i j => by rw [F98_h b' 20 i j _ (by omega), nf 20 i j (by decide)]
        have o1' : out ([23] ++ lvT) g (F98 b' (F51 b' g)) := fun f hf i j => by
          by_cases e : f = 20
          · rw [e]; exact k20 i j
          · refine o1 f ?_ i j
            simp at hf ⊢
            exact ⟨e, hf⟩
        have k53 : F98 b' (F51 b' g) 53 0 b' = g 53 0 b' := o1' 53 (by decide) 0 b'
        have k51 : F98 b' (F51 b' g) 51 0 b' = 2 := by rw [F98_51, if_pos rfl]
        have k28 : F98 b' (F51 b' g) 28 b' 1 = 2 ∧ F98 b' (F51 b' g) 28 b' 3 = -1 := ⟨by rw [F98_h b' 28 b' 1 _ (by omega), F51_1], by rw [F98_h b' 28 b' 3 _ (by omega), (F51_8 b' g).2.2.1]⟩
        refine nxt_V (Rel_own hb' (out_m o1' (by decide)) o2 o3 (rLL_c (ag_o o1' (by decide)) r.2.2.1) o4 ⟨2, l, V + 1, 0, ⟨by decide, c1.2.1, Nat.le_refl _, ?_, ?_, ?_, k28.1, k51, o5.2.1, o5.2.2.1, k53.trans c1.2.2.2.2.2.2.2.2.2.2.1, fun y => by omega, fun _ => k28.2⟩, rBw_z (by decide) o5.2.2.2.1 o5.2.2.2.2.1 o5.2.2.2.2.2.1 (o6.1 3 (by decide)) (o6.2 55 (by decide)), rBr_z o5.2.2.2.2.2.2.1 o5.2.2.2.2.2.2.2 (o6.1 4 (by decide)) (o6.1 5 (by decide)) (o6.2 57 (by decide)) (o6.2 58 (by decide))⟩ (by rw [k51]; decide) (rU_own (b := b') hb.1 o3.1 (fun b2 hb2 e2 => by rw [(o4 b2 hb2 e2).2.1 52 (by decide)]; exact v52 r hb2) ⟨fun _ m' hm' e7 => ?_, fun y => by rw [k51] at y; exact y.elim (fun t => absurd t (by decide)) (fun t => absurd t (by decide))⟩) o7 o8 o9 r) hn hb.2.2.1 hb.2.2.2 (fun j => ?_)
        · rw [o5.1]; exact c1.2.2.2.1
        · rw [o5.1, F98_h b' 50 0 b' _ (by omega), nf 50 0 b' (by decide)]; exact c1.2.2.2.2.1
        · rw [o5.1]; exact fun y => absurd y p
        · rw [o3.2.2 7 (by decide), r.2.1.2.2.2.2.1, iI_eq (by omega) (by omega)] at e7
          rw [o1' 37 (by decide), show m' = n - 1 by omega]
          exact hc2.resolve_left (by omega)
        · rw [F98_h b' 0 0 j _ (by omega), nf 0 0 j (by decide)]
    · have h0 : ¬ n = 0 := fun y => hc (Or.inl y)
      have hc1 : ¬ g 20 (n - 1) 0 = 2 := fun y => hc (Or.inr y)
      obtain ⟨⟨m, st, s1, s2, s3, s4, s5, s6, s7, s8⟩, sE, sW⟩ := r.2.2.1.1 (n - 1) (by omega)
      have hc2 : ¬ g 37 0 (n - 1) = 2 := by rw [s4, ← s3]; exact hc1
      have nst : ¬ st = 2 := fun y => hc1 (by rw [s3, y]; rfl)
      have hm0 : m = 0 := s7 nst
      subst hm0
      have fr : ∀ f i j, ¬ f = 20 → ¬ (f = 28 ∧ i = b' ∧ (j = 1 ∨ j = 3)) → gu (gu (gu (F51 b' g) 20 (n - 1) 0 1) 28 b' 1 1) 28 b' 3 (nI (n - 1)) f i j = F51 b' g f i j := fun f i j y1 y2 => by
        rw [gu_ne _ _ _ _ _ _ _ _ (fun y => y2 ⟨y.1, y.2.1, Or.inr y.2.2⟩), gu_ne _ _ _ _ _ _ _ _ (fun y => y2 ⟨y.1, y.2.1, Or.inl y.2.2⟩), gu_f _ _ _ _ _ _ _ _ y1]
      refine Or.inl ⟨1, _, _, fun c s x o => m_51r N L c s x o b' n hb' hn g p r.2.1.2.2.2.1 h0 hc1, fun c s x o => m_98 N L c s x o b' n hb' hn _ ?_ ?_ ?_ h0 ?_, fun j => ?_, ?_, ?_⟩
      · rw [fr 50 0 b' (by decide) (by omega), nf 50 0 b' (by decide), c1.2.2.2.2.1]; exact p
      · intro k hk; rw [fr 40 0 k (by decide) (by omega), nf 40 0 k (by decide)]; exact hs k hk
      · rw [fr 65 0 7 (by decide) (by omega), nf 65 0 7 (by decide)]; exact r.2.1.2.2.2.2.1
      · rw [fr 37 0 (n - 1) (by decide) (by omega), nf 37 0 (n - 1) (by decide)]; exact hc2
      · rw [fr 0 0 j (by decide) (by omega), nf 0 0 j (by decide)]
      · rw [gu_f _ _ _ _ _ _ _ _ (by decide), gu_f _ _ _ _ _ _ _ _ (by decide), gu_f _ _ _ _ _ _ _ _ (by decide)]; exact (F98_65 b' _).1
      · obtain ⟨o1, o2, o3, o4, o5, o6, o7, o8, o9⟩ := oS_e hb' r fr
        have g20 : ∀ i j, F98 b' (gu (gu (gu (F51 b' g) 20 (n - 1) 0 1) 28 b' 1 1) 28 b' 3 (nI (n - 1))) 20 i j = if i = n - 1 ∧ j = 0 then 1 else g 20 i j := fun i j => by
          rw [F98_h b' 20 i j _ (by omega), gu_f _ _ _ _ _ _ _ _ (by decide), gu_f _ _ _ _ _ _ _ _ (by decide)]
          by_cases y : i = n - 1 ∧ j = 0
          · rw [if_pos y, y.1, y.2, gu_same]
          · rw [if_neg y, gu_ne _ _ _ _ _ _ _ _ (fun x => y ⟨x.2.1, x.2.2⟩), nf 20 i j (by decide)]
        have g28 : F98 b' (gu (gu (gu (F51 b' g) 20 (n - 1) 0 1) 28 b' 1 1) 28 b' 3 (nI (n - 1))) 28 b' 1 = 1 ∧ F98 b' (gu (gu (gu (F51 b' g) 20 (n - 1) 0 1) 28 b' 1 1) 28 b' 3 (nI (n - 1))) 28 b' 3 = nI (n - 1) := ⟨by rw [F98_h b' 28 b' 1 _ (by omega), gu_k _ _ _ _ _ _ (by decide), gu_same], by rw [F98_h b' 28 b' 3 _ (by omega), gu_same]⟩
        have g50 : F98 b' (gu (gu (gu (F51 b' g) 20 (n - 1) 0 1) 28 b' 1 1) 28 b' 3 (nI (n - 1))) 50 0 b' = g 50 0 b' := by rw [F98_h b' 50 0 b' _ (by omega), fr 50 0 b' (by decide) (by omega), nf 50 0 b' (by decide)]
        have g0 : ∀ j, F98 b' (gu (gu (gu (F51 b' g) 20 (n - 1) 0 1) 28 b' 1 1) 28 b' 3 (nI (n - 1))) 0 0 j = g 0 0 j := fun j => by rw [F98_h b' 0 0 j _ (by omega), fr 0 0 j (by decide) (by omega), nf 0 0 j (by decide)]
        generalize F98 b' (gu (gu (gu (F51 b' g) 20 (n - 1) 0 1) 28 b' 1 1) 28 b' 3 (nI (n - 1))) = H at o1 o2 o3 o4 o5 o6 o7 o8 o9 g20 g28 g50 g0 ⊢
        have kH : ∀ f i j, ¬ f = 37 → ¬ f = 51 → ¬ f = 53 → gu (gu (gu H 37 0 (n - 1) 1) 51 0 b' 1) 53 0 b' (nI (n - 1)) f i j = H f i j := fun f i j y1 y2 y3 => by
          rw [gu_f _ _ _ _ _ _ _ _ y3, gu_f _ _ _ _ _ _ _ _ y2, gu_f _ _ _ _ _ _ _ _ y1]
        have k37 : ∀ j, gu (gu (gu H 37 0 (n - 1) 1) 51 0 b' 1) 53 0 b' (nI (n - 1)) 37 0 j = if j = n - 1 then 1 else g 37 0 j := fun j => by
          rw [gu_f _ _ _ _ _ _ _ _ (by decide), gu_f _ _ _ _ _ _ _ _ (by decide)]
          by_cases y : j = n - 1
          · rw [if_pos y, y, gu_same]
          · rw [if_neg y, gu_k _ _ _ _ _ _ y, o1 37 (by decide)]
        have k51 : ∀ j, gu (gu (gu H 37 0 (n - 1) 1) 51 0 b' 1) 53 0 b' (nI (n - 1)) 51 0 j = if j = b' then 1 else H 51 0 j := fun j => by
          rw [gu_f _ _ _ _ _ _ _ _ (by decide)]
          by_cases y : j = b'
          · rw [if_pos y, y, gu_same]
          · rw [if_neg y, gu_k _ _ _ _ _ _ y, gu_f _ _ _ _ _ _ _ _ (by decide)]
        have k53 : ∀ j, gu (gu (gu H 37 0 (n - 1) 1) 51 0 b' 1) 53 0 b' (nI (n - 1)) 53 0 j = if j = b' then nI (n - 1) else H 53 0 j := fun j => by
          by_cases y : j = b'
          · rw [if_pos y, y, gu_same]
          · rw [if_neg y, gu_k _ _ _ _ _ _ y, gu_f _ _ _ _ _ _ _ _ (by decide), gu_f _ _ _ _ _ _ _ _ (by decide)]
        generalize gu (gu (gu H 37 0 (n - 1) 1) 51 0 b' 1) 53 0 b' (nI (n - 1)) = K at kH k37 k51 k53 ⊢
        have oK : out ([20, 37, 53, 23] ++ lvT) g K := fun f hf i j => by
          have n1 : ¬ f = 37 ∧ ¬ f = 51 ∧ ¬ f = 53 := by
            simp [lvT] at hf
            omega
          rw [kH f i j n1.1 n1.2.1 n1.2.2]
          refine o1 f ?_ i j
          simp [lvT] at hf ⊢
          omega
        refine nxt_V (Rel_own hb' oK ⟨by rw [kH 23 0 0 (by decide) (by decide) (by decide)]; exact o2.1, by rw [kH 23 0 1 (by decide) (by decide) (by decide)]; exact o2.2.1, fun j hj => by rw [kH 23 0 j (by decide) (by decide) (by decide)]; exact o2.2.2 j hj⟩ ⟨by rw [kH 65 0 5 (by decide) (by decide) (by decide)]; exact o3.1, by rw [kH 65 0 6 (by decide) (by decide) (by decide)]; exact o3.2.1, fun j hj => by rw [kH 65 0 j (by decide) (by decide) (by decide)]; exact o3.2.2 j hj⟩ ⟨fun l' hl' => ?_, fun l' h1 h2 => ?_, fun l' hl' => ?_, fun l' hl' => ?_⟩ (fun b2 hb2 e2 => ?_) ⟨1, n - 1, V + 1, 0, ⟨by decide, by omega, Nat.le_refl _, ?_, ?_, ?_, ?_, ?_, ?_, ?_, ?_, fun _ => ⟨by omega, ?_⟩, fun y => by omega⟩, rBw_z (by decide) ?_ ?_ ?_ (fun i hi => ?_) (fun i hi => ?_), rBr_z ?_ ?_ (fun i hi => ?_) (fun i hi => ?_) (fun i hi => ?_) (fun i hi => ?_)⟩ (by rw [k51, if_pos rfl]; decide) (rU_own (b := b') hb.1 (by rw [kH 65 0 5 (by decide) (by decide) (by decide)]; exact o3.1) (fun b2 hb2 e2 => by rw [kH 52 0 b2 (by decide) (by decide) (by decide), (o4 b2 hb2 e2).2.1 52 (by decide)]; exact v52 r hb2) ⟨fun y => absurd y (by rw [k51, if_pos rfl]; decide), fun _ => by rw [kH 65 0 7 (by decide) (by decide) (by decide), o3.2.2 7 (by decide), r.2.1.2.2.2.2.1, k53, if_pos rfl, iI_s]; exact congrArg nI (by omega)⟩) (fun d hd e => ?_) (fun d hd e => ?_) (fun t l' ht hl' => ?_) r) hn hb.2.2.1 hb.2.2.2 (fun j => ?_)
        · obtain ⟨⟨m', st', t1, t2, t3, t4, t5, t6, t7, t8⟩, tE, tW⟩ := r.2.2.1.1 l' hl'
          have a20 : ∀ j, ¬ (l' = n - 1 ∧ j = 0) → K 20 l' j = g 20 l' j := fun j y => by rw [kH 20 l' j (by decide) (by decide) (by decide), g20, if_neg y]
          have ao : ∀ f i j, ¬ f ∈ [20, 37, 53, 23] ++ lvT → K f i j = g f i j := fun f i j hf => oK f hf i j
          refine ⟨?_, rLe_c' (a20 2 (by omega)) (ag_o oK (by decide)) tE, rLw_c (ag_o oK (by decide)) tW⟩
          by_cases e : l' = n - 1
          · subst e
            refine ⟨0, 1, by decide, by decide, ?_, ?_, ?_, ?_, fun _ => rfl, fun p hp => ?_⟩
            · rw [kH 20 _ 0 (by decide) (by decide) (by decide), g20, if_pos ⟨rfl, rfl⟩]; rfl
            · rw [k37, if_pos rfl]; rfl
            · rw [a20 1 (by omega), s5]
            · rw [ao 38 0 _ (by decide), s6]
            · rw [ao 13 _ p (by decide), if_neg (by decide), s8 p hp, if_neg nst]
          · refine ⟨m', st', t1, t2, ?_, ?_, ?_, ?_, t7, fun p hp => ?_⟩
            · rw [a20 0 (fun y => e y.1)]; exact t3
            · rw [k37, if_neg e]; exact t4
            · rw [a20 1 (by omega)]; exact t5
            · rw [ao 38 0 _ (by decide)]; exact t6
            · rw [ao 13 _ p (by decide), ao 39 0 _ (by decide)]; exact t8 p hp
        · have tE := r.2.2.1.2.1 l' h1 h2
          have a20 : ∀ j, K 20 l' j = g 20 l' j := fun j => by rw [kH 20 l' j (by decide) (by decide) (by decide), g20, if_neg (by omega)]
          have ao : ∀ f i j, ¬ f ∈ [20, 37, 53, 23] ++ lvT → K f i j = g f i j := fun f i j hf => oK f hf i j
          unfold rE at tE ⊢
          simp only [a20, ao 11 _ _ (by decide), ao 12 _ _ (by decide), ao 13 _ _ (by decide), ao 17 _ _ (by decide)]
          exact tE
        · rw [k37, if_neg (by omega)]; exact r.2.2.1.2.2.1 l' hl'
        · rw [k37]
          by_cases e : l' = n - 1
          · exact absurd (r.2.2.1.2.2.2 l' hl') (by rw [e]; exact hc2)
          · rw [if_neg e]; exact r.2.2.1.2.2.2 l' hl'
        · obtain ⟨y1, y2, y3, y4⟩ := o4 b2 hb2 e2
          refine ⟨fun j => by rw [kH 28 b2 j (by decide) (by decide) (by decide)]; exact y1 j, fun f hf => ?_, fun f hf i hi => ?_, fun f hf i hi => ?_⟩
          · have := y2 f hf
            simp at hf
            rcases hf with rfl | rfl | rfl | rfl | rfl | rfl
            · rw [kH 50 0 b2 (by decide) (by decide) (by decide)]; exact this
            · rw [k51, if_neg e2]; exact this
            · rw [kH 52 0 b2 (by decide) (by decide) (by decide)]; exact this
            · rw [k53, if_neg e2]; exact this
            · rw [kH 54 0 b2 (by decide) (by decide) (by decide)]; exact this
            · rw [kH 56 0 b2 (by decide) (by decide) (by decide)]; exact this
          · have := y3 f hf i hi
            simp at hf
            rw [kH f b2 i (by omega) (by omega) (by omega)]; exact this
          · have := y4 f hf i hi
            simp at hf
            rw [kH f 0 _ (by omega) (by omega) (by omega)]; exact this
        · rw [kH 28 b' 0 (by decide) (by decide) (by decide), o5.1]; exact c1.2.2.2.1
        · rw [kH 28 b' 0 (by decide) (by decide) (by decide), o5.1, kH 50 0 b' (by decide) (by decide) (by decide), g50]; exact c1.2.2.2.2.1
        · rw [kH 28 b' 0 (by decide) (by decide) (by decide), o5.1]; exact fun y => absurd y p
        · rw [kH 28 b' 1 (by decide) (by decide) (by decide)]; exact g28.1
        · rw [k51, if_pos rfl]; rfl
        · rw [kH 28 b' 2 (by decide) (by decide) (by decide)]; exact o5.2.1
        · rw [kH 52 0 b' (by decide) (by decide) (by decide)]; exact o5.2.2.1
        · rw [k53, if_pos rfl]
        · rw [kH 28 b' 3 (by decide) (by decide) (by decide)]; exact g28.2
        · rw [kH 28 b' 4 (by decide) (by decide) (by decide)]; exact o5.2.2.2.1
        · rw [kH 54 0 b' (by decide) (by decide) (by decide)]; exact o5.2.2.2.2.1
        · rw [kH 28 b' 5 (by decide) (by decide) (by decide)]; exact o5.2.2.2.2.2.1
        · rw [kH 3 b' i (by decide) (by decide) (by decide)]; exact o6.1 3 (by decide) i hi
        · rw [kH 55 0 _ (by decide) (by decide) (by decide)]; exact o6.2 55 (by decide) i hi
        · rw [kH 28 b' 6 (by decide) (by decide) (by decide)]; exact o5.2.2.2.2.2.2.1
        · rw [kH 56 0 b' (by decide) (by decide) (by decide)]; exact o5.2.2.2.2.2.2.2
        · rw [kH 4 b' i (by decide) (by decide) (by decide)]; exact o6.1 4 (by decide) i hi
        · rw [kH 5 b' i (by decide) (by decide) (by decide)]; exact o6.1 5 (by decide) i hi
        · rw [kH 57 0 _ (by decide) (by decide) (by decide)]; exact o6.2 57 (by decide) i hi
        · rw [kH 58 0 _ (by decide) (by decide) (by decide)]; exact o6.2 58 (by decide) i hi
        · obtain ⟨y1, y2, y3, y4, y5⟩ := o7 d hd e
          exact ⟨fun j hj => by rw [kH 7 d j (by decide) (by decide) (by decide)]; exact y1 j hj, fun x hx => by rw [kH 61 0 _ (by decide) (by decide) (by decide)]; exact y2 x hx, by rw [kH 62 0 d (by decide) (by decide) (by decide)]; exact y3, fun l' hl' => by rw [kH 22 _ l' (by decide) (by decide) (by decide)]; exact y4 l' hl', fun t ht => ⟨by rw [kH 59 0 _ (by decide) (by decide) (by decide)]; exact (y5 t ht).1, by rw [kH 10 d t (by decide) (by decide) (by decide)]; exact (y5 t ht).2.1, by rw [kH 60 0 _ (by decide) (by decide) (by decide)]; exact (y5 t ht).2.2⟩⟩
        · exact rD_a (fun f hf i j => by
            have : f = 7 ∨ f = 9 ∨ f = 61 ∨ f = 62 ∨ f = 22 ∨ f = 59 ∨ f = 10 ∨ f = 60 := by simpa using hf
            exact kH f i j (by omega) (by omega) (by omega)) (o8 d hd e)
        · rw [kH 22 t l' (by decide) (by decide) (by decide)]; exact o9 t l' ht hl'
        · rw [kH 0 0 j (by decide) (by decide) (by decide)]; exact g0 j
  · exact Or.inr ⟨30, 0, g, _, by decide, fun c s x o => m_51a N L c s x o b h g, fun c s x o => m_98a N L c s x o b g (fun k => h ((i_b3 b).mp k)), fun _ => rfl, gu_same _ _ _ _ _, nxt_00 hb r⟩
end O7
