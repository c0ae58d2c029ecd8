/-! what does not change keeps the relation -/
def ag (fs : List Nat) (g g' : mG) : Prop := ∀ f, f ∈ fs → ∀ i j, g' f i j = g f i j
def out (T : List Nat) (g g' : mG) : Prop := ∀ f, ¬ f ∈ T → ∀ i j, g' f i j = g f i j
theorem ag_o {T fs : List Nat} {g g' : mG} (h : out T g g') (hd : ∀ f, f ∈ fs → ¬ f ∈ T) : ag fs g g' := fun f hf => h f (hd f hf)
theorem out_r (T : List Nat) (g : mG) : out T g g := fun _ _ _ _ => rfl
theorem out_t {T : List Nat} {g g' g'' : mG} (h1 : out T g g') (h2 : out T g' g'') : out T g g'' := fun f hf i j => (h2 f hf i j).trans (h1 f hf i j)
theorem out_u {T : List Nat} {g g' : mG} {f i k : Nat} {v : Int32} (hf : f ∈ T) (h : out T g g') : out T g (gu g' f i k v) := fun f' hf' i' j' => (gu_f _ _ _ _ _ _ _ _ (fun z => hf' (by rw [z]; exact hf))).trans (h f' hf' i' j')
theorem out_i {T : List Nat} {g g' : mG} {f i n : Nat} {v : Int32} (hf : f ∈ T) (h : out T g g') : out T g (gf g' f i n v) := fun f' hf' i' j' => (gf_f _ _ _ _ _ _ _ _ (fun z => hf' (by rw [z]; exact hf))).trans (h f' hf' i' j')
theorem out_m {T T' : List Nat} {g g' : mG} (h : out T g g') (hs : ∀ f, f ∈ T → f ∈ T') : out T' g g' := fun f hf i j => h f (fun z => hf (hs f z)) i j
/-- the fields of the model -/
def ago (js : List Nat) (g g' : mG) : Prop := ∀ j, j ∈ js → g' 65 0 j = g 65 0 j
theorem rP_c {N w q a : Nat} {g g' : mG} (h : ag [64] g g') (h5 : ago [1, 2, 3, 4] g g') (r : rP N w q a g) : rP N w q a g' := by
  have h' := h 64 (by decide)
  obtain ⟨a1, a2, a3, a4, a5, a6, a7⟩ := r
  exact ⟨(h' _ _).trans a1, (h' _ _).trans a2, (h' _ _).trans a3, (h5 1 (by decide)).trans a4, (h5 2 (by decide)).trans a5, (h5 3 (by decide)).trans a6, (h5 4 (by decide)).trans a7⟩
theorem rM_c {V n z : Nat} {g g' : mG} (h : ag [23] g g') (h5 : ago [5, 6, 7, 8] g g') (r : rM V n z g) : rM V n z g' := by
  have h' := h 23 (by decide)
  obtain ⟨a1, a2, a3, a4, a5, a6, a7⟩ := r
  refine ⟨(h' _ _).trans a1, (h5 5 (by decide)).trans a2, ?_, (h' _ _).trans a4, (h5 7 (by decide)).trans a5, (h' _ _).trans a6, (h5 8 (by decide)).trans a7⟩
  rw [h', h5 6 (by decide)]
  exact a3
theorem rLs_c {l m st : Nat} {g g' : mG} (h : ag [20, 37, 38, 13, 39] g g') (r : rLs l m st g) : rLs l m st g' := by
  have h20 := h 20 (by decide)
  have h37 := h 37 (by decide)
  have h38 := h 38 (by decide)
  have h13 := h 13 (by decide)
  have h39 := h 39 (by decide)
  unfold rLs at r ⊢
  simp only [h20, h37, h38, h13, h39]
  exact r
theorem rLe_c {N w l : Nat} {g g' : mG} (h : ag [20, 11, 36] g g') (r : rLe N w l g) : rLe N w l g' := by
  have h20 := h 20 (by decide)
  have h11 := h 11 (by decide)
  have h36 := h 36 (by decide)
  unfold rLe at r ⊢
  simp only [h20, h11, h36]
  exact r
theorem rLw_c {w q l : Nat} {g g' : mG} (h : ag [12, 36] g g') (r : rLw w q l g) : rLw w q l g' := by
  have h12 := h 12 (by decide)
  have h36 := h 36 (by decide)
  unfold rLw inW at r ⊢
  simp only [h12, h36]
  exact r
theorem ag_s {fs fs' : List Nat} {g g' : mG} (h : ag fs g g') (hs : ∀ f, f ∈ fs' → f ∈ fs) : ag fs' g g' := fun f hf => h f (hs f hf)
theorem rL_c {N w q l : Nat} {g g' : mG} (h : ag [20, 37, 38, 13, 39, 11, 36, 12] g g') (r : rL N w q l g) : rL N w q l g' := by
  obtain ⟨⟨m, st, a1⟩, a2, a3⟩ := r
  exact ⟨⟨m, st, rLs_c (ag_s h (by decide)) a1⟩, rLe_c (ag_s h (by decide)) a2, rLw_c (ag_s h (by decide)) a3⟩
theorem rE_c {l : Nat} {g g' : mG} (h : ag [20, 11, 12, 13, 17] g g') (r : rE l g) : rE l g' := by
  have h20 := h 20 (by decide)
  have h11 := h 11 (by decide)
  have h12 := h 12 (by decide)
  have h13 := h 13 (by decide)
  have h17 := h 17 (by decide)
  unfold rE at r ⊢
  simp only [h20, h11, h12, h13, h17]
  exact r
theorem rC_c {n z : Nat} {g g' : mG} (h : ag [37] g g') (r : rC n z g) : rC n z g' := by
  have h37 := h 37 (by decide)
  unfold rC at r ⊢
  simp only [h37]
  exact r
theorem rLL_c {N w q n z : Nat} {g g' : mG} (h : ag [20, 37, 38, 13, 39, 11, 36, 12, 17] g g') (r : rLL N w q n z g) : rLL N w q n z g' :=
  ⟨fun l hl => rL_c (ag_s h (by decide)) (r.1 l hl), fun l h1 h2 => rE_c (ag_s h (by decide)) (r.2.1 l h1 h2), rC_c (ag_s h (by decide)) r.2.2⟩
theorem rS_c {M : Nat} {g g' : mG} (h : ag [24, 14, 15, 16, 17, 41, 42, 43, 44] g g') (h5 : ago [14] g g') (r : rS M g) : rS M g' := by
  have h24 := h 24 (by decide)
  have h14 := h 14 (by decide)
  have h15 := h 15 (by decide)
  have h16 := h 16 (by decide)
  have h17 := h 17 (by decide)
  have h41 := h 41 (by decide)
  have h42 := h 42 (by decide)
  have h43 := h 43 (by decide)
  have h44 := h 44 (by decide)
  have h5' := h5 14 (by decide)
  unfold rS at r ⊢
  simp only [h24, h14, h15, h16, h17, h41, h42, h43, h44, h5']
  exact r
theorem rH_c {g g' : mG} (h : ag [29, 45] g g') (r : rH g) : rH g' := by
  have h29 := h 29 (by decide)
  have h45 := h 45 (by decide)
  unfold rH at r ⊢
  simp only [h29, h45]
  exact r
theorem rW_c {g g' : mG} (h : ag [51, 53, 52, 37] g g') (h5 : ago [5, 7] g g') (r : rW g) : rW g' := by
  have h51 := h 51 (by decide)
  have h53 := h 53 (by decide)
  have h52 := h 52 (by decide)
  have h37 := h 37 (by decide)
  have e5 := h5 5 (by decide)
  have e7 := h5 7 (by decide)
  unfold rW rWo rU at r ⊢
  simp only [h51, h53, h52, h37, e5, e7]
  exact r
theorem rKu_c {k : Nat} {g g' : mG} (h26 : ∀ j, g' 26 k j = g 26 k j) (h46 : g' 46 0 k = g 46 0 k) (h49 : ∀ l, l < 10 → g' 49 0 (10 * k + l) = g 49 0 (10 * k + l)) (r : rKu k g) : rKu k g' := by
  obtain ⟨a1, a2, a3, a4⟩ := r
  refine ⟨by rw [h26]; exact a1, by rw [h26, h46]; exact a2, by rw [h26]; exact a3, fun l hl => ?_⟩
  rw [h26, h49 l hl]
  exact a4 l hl
theorem rKh_c {k : Nat} {g g' : mG} (h1 : ∀ l, l < 10 → g' 1 k l = g 1 k l) (h2 : ∀ l, l < 10 → g' 2 k l = g 2 k l) (h47 : ∀ t, t < 80 → g' 47 0 (80 * k + t) = g 47 0 (80 * k + t)) (h48 : ∀ t, t < 80 → g' 48 0 (80 * k + t) = g 48 0 (80 * k + t)) (h : ag [12, 17] g g') (r : rKh k g) : rKh k g' := by
  have h12 := h 12 (by decide)
  have h17 := h 17 (by decide)
  intro l hl
  obtain ⟨a1, a2, a3⟩ := r l hl
  refine ⟨by rw [h1 l hl]; exact a1, by rw [h2 l hl]; exact a2, fun e he => ?_⟩
  have e1 := h47 (8 * l + e) (by omega)
  have e2 := h48 (8 * l + e) (by omega)
  rw [← Nat.add_assoc] at e1 e2
  have a4 := a3 e he
  unfold rKe at a4 ⊢
  rw [e1, e2, h1 l hl, h2 l hl, h12, h17]
  exact a4
theorem rBs_c {b n V ph l v : Nat} {g g' : mG} (h28 : ∀ j, g' 28 b j = g 28 b j) (h : ∀ f, f ∈ [50, 51, 52, 53] → g' f 0 b = g f 0 b) (r : rBs b n V ph l v g) : rBs b n V ph l v g' := by
  have e50 := h 50 (by decide)
  have e51 := h 51 (by decide)
  have e52 := h 52 (by decide)
  have e53 := h 53 (by decide)
  unfold rBs at r ⊢
  simp only [h28, e50, e51, e52, e53]
  exact r
theorem rBw_c {b ph l e : Nat} {g g' : mG} (h28 : ∀ j, g' 28 b j = g 28 b j) (h54 : g' 54 0 b = g 54 0 b) (h3 : ∀ i, i < 6 → g' 3 b i = g 3 b i) (h55 : ∀ i, i < 6 → g' 55 0 (6 * b + i) = g 55 0 (6 * b + i)) (h17 : ag [17] g g') (h4 : g' 65 0 4 = g 65 0 4) (r : rBw b ph l e g) : rBw b ph l e g' := by
  have e17 := h17 17 (by decide)
  obtain ⟨a1, a2, a3, a4, a5, a6, a7⟩ := r
  refine ⟨a1, (h28 4).trans a2, h54.trans a3, a4, ?_, ?_, ?_⟩
  · rw [h28 5, F106_g b g g' h4 h55 e 0 (by omega)]; exact a5
  · intro i hi
    rw [h3 i hi, h55 i hi]; exact a6 i hi
  · intro hp i hi
    rw [e17]; exact a7 hp i hi
theorem rBr_c {b ph l : Nat} {g g' : mG} (h28 : ∀ j, g' 28 b j = g 28 b j) (h56 : g' 56 0 b = g 56 0 b) (h4 : ∀ i, i < 6 → g' 4 b i = g 4 b i) (h5 : ∀ i, i < 6 → g' 5 b i = g 5 b i) (h57 : ∀ i, i < 6 → g' 57 0 (6 * b + i) = g 57 0 (6 * b + i)) (h58 : ∀ i, i < 6 → g' 58 0 (6 * b + i) = g 58 0 (6 * b + i)) (h : ag [12, 17] g g') (r : rBr b ph l g) : rBr b ph l g' := by
  have h12 := h 12 (by decide)
  have h17 := h 17 (by decide)
  obtain ⟨a1, a2, a3, a4⟩ := r
  refine ⟨by rw [h28, h56]; exact a1, by rw [h28]; exact a2, by rw [h28]; exact a3, fun k hk => ?_⟩
  have a5 := a4 k hk
  simp only [h28, h4 k hk, h5 k hk, h57 k hk, h58 k hk, h12, h17]
  exact a5
theorem rB_c {n V b : Nat} {g g' : mG} (h28 : ∀ j, g' 28 b j = g 28 b j) (hb : ∀ f, f ∈ [50, 51, 52, 53, 54, 56] → g' f 0 b = g f 0 b) (hs : ∀ f, f ∈ [3, 4, 5] → ∀ i, i < 6 → g' f b i = g f b i) (hm : ∀ f, f ∈ [55, 57, 58] → ∀ i, i < 6 → g' f 0 (6 * b + i) = g f 0 (6 * b + i)) (h : ag [12, 17] g g') (h4 : g' 65 0 4 = g 65 0 4) (r : rB n V b g) : rB n V b g' := by
  obtain ⟨ph, l, v, e, a1, a2, a3⟩ := r
  exact ⟨ph, l, v, e, rBs_c h28 (fun f hf => hb f ((by decide : ∀ f, f ∈ [50, 51, 52, 53] → f ∈ [50, 51, 52, 53, 54, 56]) f hf)) a1, rBw_c h28 (hb 54 (by decide)) (hs 3 (by decide)) (hm 55 (by decide)) (ag_s h (by decide)) h4 a2, rBr_c h28 (hb 56 (by decide)) (hs 4 (by decide)) (hs 5 (by decide)) (hm 57 (by decide)) (hm 58 (by decide)) h a3⟩
/-- a larger version, more ledgers -/
theorem rB_up {n n' V V' b : Nat} {g : mG} (hn : n ≤ n') (hV : V ≤ V') (r : rB n V b g) : rB n' V' b g := by
  obtain ⟨ph, l, v, e, ⟨a1, a2, a3, a4, a5, a6, a7, a8, a9, a10, a11, a12, a13⟩, b2, b3⟩ := r
  exact ⟨ph, l, v, e, ⟨a1, a2, by omega, a4, a5, a6, a7, a8, a9, a10, a11, fun z => ⟨by have := (a12 z).1; omega, (a12 z).2⟩, a13⟩, b2, b3⟩
theorem rDc_c {d : Nat} {g g' : mG} (h7 : ∀ j, g' 7 d j = g 7 d j) (h9 : ∀ q, q < 4 → g' 9 d q = g 9 d q) (h61 : ∀ q, q < 4 → g' 61 0 (4 * d + q) = g 61 0 (4 * d + q)) (h62 : g' 62 0 d = g 62 0 d) (r : rDc d g) : rDc d g' := by
  obtain ⟨a1, a2, a3⟩ := r
  refine ⟨by rw [h7]; exact a1, fun q hq => ?_, by rw [h7, h62]; exact a3⟩
  rw [h7, h9 q hq, h61 q hq]
  exact a2 q hq
theorem rDa_c {d : Nat} {g g' : mG} (h22 : ∀ l, l < 10 → g' 22 (2 + d) l = g 22 (2 + d) l) (h59 : ∀ t, t < 80 → g' 59 0 (80 * d + t) = g 59 0 (80 * d + t)) (r : rDa d g) : rDa d g' := by
  intro l hl
  obtain ⟨a1, a2⟩ := r l hl
  refine ⟨by rw [h22 l hl]; exact a1, fun e he => ?_⟩
  have e1 := h59 (8 * l + e) (by omega)
  rw [← Nat.add_assoc] at e1
  rw [e1, h22 l hl]
  exact a2 e he
theorem rDs_c {d : Nat} {g g' : mG} (h22 : ∀ l, l < 10 → g' 22 (2 + d) l = g 22 (2 + d) l) (h10 : ∀ t, t < 80 → g' 10 d t = g 10 d t) (h60 : ∀ t, t < 80 → g' 60 0 (80 * d + t) = g 60 0 (80 * d + t)) (r : rDs d g) : rDs d g' := by
  intro t ht h
  rw [h22 (t / 8) (by omega)] at h
  have := r t ht h
  unfold rDt at this ⊢
  rw [h10 t ht, h60 t ht]
  exact this
theorem rD_c {d : Nat} {g g' : mG} (h7 : ∀ j, g' 7 d j = g 7 d j) (h9 : ∀ q, q < 4 → g' 9 d q = g 9 d q) (h61 : ∀ q, q < 4 → g' 61 0 (4 * d + q) = g 61 0 (4 * d + q)) (h62 : g' 62 0 d = g 62 0 d) (h22 : ∀ l, l < 10 → g' 22 (2 + d) l = g 22 (2 + d) l) (h59 : ∀ t, t < 80 → g' 59 0 (80 * d + t) = g 59 0 (80 * d + t)) (h10 : ∀ t, t < 80 → g' 10 d t = g 10 d t) (h60 : ∀ t, t < 80 → g' 60 0 (80 * d + t) = g 60 0 (80 * d + t)) (r : rD d g) : rD d g' := ⟨rDc_c h7 h9 h61 h62 r.1, rDa_c h22 h59 r.2.1, rDs_c h22 h10 h60 r.2.2⟩
theorem rV_c {t : Nat} {g g' : mG} (h22 : ∀ l, l < 10 → g' 22 t l = g 22 t l) (h40 : ∀ u, u < 80 → g' 40 0 (80 * t + u) = g 40 0 (80 * t + u)) (r : rV t g) : rV t g' := by
  intro l hl
  obtain ⟨a1, a2⟩ := r l hl
  refine ⟨by rw [h22 l hl]; exact a1, fun e he => ?_⟩
  have e1 := h40 (8 * l + e) (by omega)
  rw [← Nat.add_assoc] at e1
  rw [e1, h22 l hl]
  exact a2 e he
/-- the same by sites -/
theorem rKu_a {k : Nat} {g g' : mG} (h : ag [26, 46, 49] g g') (r : rKu k g) : rKu k g' := rKu_c (h 26 (by decide) k) (h 46 (by decide) 0 k) (fun _ _ => h 49 (by decide) 0 _) r
theorem rKh_a {k : Nat} {g g' : mG} (h : ag [1, 2, 47, 48, 12, 17] g g') (r : rKh k g) : rKh k g' := rKh_c (fun _ _ => h 1 (by decide) k _) (fun _ _ => h 2 (by decide) k _) (fun _ _ => h 47 (by decide) 0 _) (fun _ _ => h 48 (by decide) 0 _) (ag_s h (by decide)) r
theorem rB_a {n V b : Nat} {g g' : mG} (h : ag [28, 50, 51, 52, 53, 54, 56, 3, 4, 5, 55, 57, 58, 12, 17] g g') (h4 : g' 65 0 4 = g 65 0 4) (r : rB n V b g) : rB n V b g' := rB_c (h 28 (by decide) b) (fun f hf => h f ((by decide : ∀ f, f ∈ [50, 51, 52, 53, 54, 56] → f ∈ [28, 50, 51, 52, 53, 54, 56, 3, 4, 5, 55, 57, 58, 12, 17]) f hf) 0 b) (fun f hf i _ => h f ((by decide : ∀ f, f ∈ [3, 4, 5] → f ∈ [28, 50, 51, 52, 53, 54, 56, 3, 4, 5, 55, 57, 58, 12, 17]) f hf) b i) (fun f hf i _ => h f ((by decide : ∀ f, f ∈ [55, 57, 58] → f ∈ [28, 50, 51, 52, 53, 54, 56, 3, 4, 5, 55, 57, 58, 12, 17]) f hf) 0 _) (ag_s h (by decide)) h4 r
theorem rD_a {d : Nat} {g g' : mG} (h : ag [7, 9, 61, 62, 22, 59, 10, 60] g g') (r : rD d g) : rD d g' := rD_c (h 7 (by decide) d) (fun _ _ => h 9 (by decide) d _) (fun _ _ => h 61 (by decide) 0 _) (h 62 (by decide) 0 d) (fun _ _ => h 22 (by decide) _ _) (fun _ _ => h 59 (by decide) 0 _) (fun _ _ => h 10 (by decide) d _) (fun _ _ => h 60 (by decide) 0 _) r
theorem rV_a {t : Nat} {g g' : mG} (h : ag [22, 40] g g') (r : rV t g) : rV t g' := rV_c (fun _ _ => h 22 (by decide) _ _) (fun _ _ => h 40 (by decide) 0 _) r
/-- only the model's code, its chain, or the script -/
theorem Rel_k {N w q a V n z M : Nat} {g g' : mG} (h : out [65, 63, 0] g g') (h5 : ago [1, 2, 3, 4, 5, 6, 7, 8, 14] g g') (r : Rel N w q a V n z M g) : Rel N w q a V n z M g' := by
  obtain ⟨a1, a2, a3, a4, a5, a6, a7, a8, a9, a10⟩ := r
  have s5 : ∀ js : List Nat, (∀ j, j ∈ js → j ∈ [1, 2, 3, 4, 5, 6, 7, 8, 14]) → ago js g g' := fun js hs j hj => h5 j (hs j hj)
  exact ⟨rP_c (ag_o h (by decide)) (s5 _ (by decide)) a1, rM_c (ag_o h (by decide)) (s5 _ (by decide)) a2, rLL_c (ag_o h (by decide)) a3, rS_c (ag_o h (by decide)) (s5 _ (by decide)) a4, rH_c (ag_o h (by decide)) a5, fun k hk => ⟨rKu_a (ag_o h (by decide)) (a6 k hk).1, rKh_a (ag_o h (by decide)) (a6 k hk).2⟩, fun b hb => rB_a (ag_o h (by decide)) (h5 4 (by decide)) (a7 b hb), rW_c (ag_o h (by decide)) (s5 _ (by decide)) a8, fun d hd => rD_a (ag_o h (by decide)) (a9 d hd), fun t ht => rV_a (ag_o h (by decide)) (a10 t ht)⟩
theorem Rel_0 {N w q a V n z M : Nat} {g : mG} {v : Int32} (r : Rel N w q a V n z M g) : Rel N w q a V n z M (gu g 65 0 0 v) :=
  Rel_k (out_u (by decide) (out_r _ _)) (fun j hj => gu_k _ _ _ _ _ _ ((by decide : ∀ j, j ∈ [1, 2, 3, 4, 5, 6, 7, 8, 14] → ¬ j = 0) j hj)) r
/-- a call: class and model answer alike, and the relation holds afterwards -/
def opI (N L m y : Nat) (as : List av_V) (cd : Nat → Nat) (P : mG → Prop) (g : mG) : Prop :=
  (∃ v g1 g2, (∀ c s x o, av_cal m (.inr (.inr (some (64, 0))) :: as) (mm N L c s x o g) = some (.inl (some (.inl v)), mm N L c s x o g1)) ∧ (∀ c s x o, av_cal y (.inr (.inr (some (65, 0))) :: as) (mm N L c s x o g1) = some (.inl (some (.inl v)), mm N L c s x o g2)) ∧ (∀ j, g1 0 0 j = g 0 0 j) ∧ g2 65 0 0 = 0 ∧ P g2) ∨
  (∃ f v g1 g2, ¬ cd f = 0 ∧ (∀ c s x o, av_cal m (.inr (.inr (some (64, 0))) :: as) (mm N L c s x o g) = some (.inr (f, x f), mm N L (c + 1) (s + 6) (mx x f) o g1)) ∧ (∀ c s x o, av_cal y (.inr (.inr (some (65, 0))) :: as) (mm N L c s x o g1) = some (.inl (some (.inl v)), mm N L c s x o g2)) ∧ (∀ j, g1 0 0 j = g 0 0 j) ∧ g2 65 0 0 = nI (cd f) ∧ P g2)
def opV (N L m y : Nat) (as : List av_V) (cd : Nat → Nat) (P : mG → Prop) (g : mG) : Prop :=
  (∃ g1 g2, (∀ c s x o, av_cal m (.inr (.inr (some (64, 0))) :: as) (mm N L c s x o g) = some (.inl none, mm N L c s x o g1)) ∧ (∀ c s x o, av_cal y (.inr (.inr (some (65, 0))) :: as) (mm N L c s x o g1) = some (.inl none, mm N L c s x o g2)) ∧ (∀ j, g1 0 0 j = g 0 0 j) ∧ g2 65 0 0 = 0 ∧ P g2) ∨
  (∃ f g1 g2, ¬ cd f = 0 ∧ (∀ c s x o, av_cal m (.inr (.inr (some (64, 0))) :: as) (mm N L c s x o g) = some (.inr (f, x f), mm N L (c + 1) (s + 6) (mx x f) o g1)) ∧ (∀ c s x o, av_cal y (.inr (.inr (some (65, 0))) :: as) (mm N L c s x o g1) = some (.inl none, mm N L c s x o g2)) ∧ (∀ j, g1 0 0 j = g 0 0 j) ∧ g2 65 0 0 = nI (cd f) ∧ P g2)
/-- what is only seen -/
def opO (N L m y : Nat) (as : List av_V) (P : mG → Prop) (g : mG) : Prop :=
  ∃ v g2, (∀ c s x o, av_cal m (.inr (.inr (some (64, 0))) :: as) (mm N L c s x o g) = some (.inl (some (.inl v)), mm N L c s x o g)) ∧ (∀ c s x o, av_cal y (.inr (.inr (some (65, 0))) :: as) (mm N L c s x o g) = some (.inl (some (.inl v)), mm N L c s x o g2)) ∧ P g2
/-- what holds after a call, from a state with version V -/
def nxt (N w q a V : Nat) (g0 g : mG) : Prop := (∃ V' n z M, V' ≤ V + 1 ∧ n ≤ 10 ∧ z ≤ n ∧ M ≤ 60 ∧ Rel N w q a V' n z M g) ∧ ∀ j, g 0 0 j = g0 0 0 j
