/-! publish -/
theorem F106_x (b : Nat) (g : mG) : ∀ (d x : Nat), F107 (g 55 0 (6 * b + (x + d))) 6 0 0 < g 65 0 4 → F106 b g (d + 1) x = F106 b g d x := by
  intro d
  induction d with
  | zero =>
    intro x h
    show (if F107 (g 55 0 (6 * b + x)) 6 0 0 < g 65 0 4 then x else F106 b g 0 (x + 1)) = x
    exact if_pos h
  | succ d ih =>
    intro x h
    show (if F107 (g 55 0 (6 * b + x)) 6 0 0 < g 65 0 4 then x else F106 b g (d + 1) (x + 1)) = (if F107 (g 55 0 (6 * b + x)) 6 0 0 < g 65 0 4 then x else F106 b g d (x + 1))
    rw [ih (x + 1) (by rw [show x + 1 + d = x + (d + 1) by omega]; exact h)]
section O11
variable {N w q a V n z M : Nat} {g : mG} (L : Nat)
/-- the greatest sequence -/
theorem gs_e {l p : Nat} {X : mG} (r : Rel N w q a V n z M g) (hM : M ≤ 60) (hl : l < 10) (hp : p < 4) (h44 : ∀ j, X 44 0 j = g 44 0 j) (h41 : ∀ j, X 41 0 j = g 41 0 j) (h42 : ∀ j, X 42 0 j = g 42 0 j) : ∀ (m e : Nat) (A : Int32), e + m ≤ 6 → F119 l (nI p) X m e A = F71 l (nI p) g m e A := by
  intro m
  induction m with
  | zero => exact fun _ _ _ => rfl
  | succ m ih =>
    intro e A he
    show F119 l (nI p) X m (e + 1) (if X 41 0 (X 44 0 (8 * l + e)).toNatClampNeg = nI p then (if X 42 0 (X 44 0 (8 * l + e)).toNatClampNeg ≤ A then A else X 42 0 (X 44 0 (8 * l + e)).toNatClampNeg) else A) = F71 l (nI p) g m (e + 1) (if g 14 0 (g 17 0 (8 * l + e)).toNatClampNeg = nI p then (if A < g 15 0 (g 17 0 (8 * l + e)).toNatClampNeg then g 15 0 (g 17 0 (8 * l + e)).toNatClampNeg else A) else A)
    obtain ⟨e1, j, hj, e2⟩ := r.2.2.2.1.2.2.2 (8 * l + e) (by omega)
    have ej : (g 17 0 (8 * l + e)).toNatClampNeg = j := by rw [e2]; exact tn (by omega)
    obtain ⟨m1, m2, _⟩ := r.2.2.2.1.2.2.1 j (by omega)
    rw [h44, ← e1, ej, h41, h42, ← m1, ← m2, ih (e + 1) _ (by omega)]
    by_cases y : g 14 0 j = nI p
    · rw [if_pos y, if_pos y]
      by_cases t : A < g 15 0 j
      · rw [if_pos t, if_neg (lt_le.mp t)]
      · rw [if_neg t, if_pos (Int32.not_lt.mp t)]
    · rw [if_neg y, if_neg y]
theorem er_e {l p : Nat} (hn : n ≤ 10) (r : Rel N w q a V n z M g) (hl : l < n) (hp : p < 4) : (if l = 0 then 0 else g 39 0 (4 * (l - 1) + p)) = (if l = 0 then 0 else g 13 (l - 1) p) := by
  by_cases e : l = 0
  · rw [if_pos e, if_pos e]
  · rw [if_neg e, if_neg e]
    obtain ⟨⟨m, st, s1, s2, s3, s4, s5, s6, s7, s8⟩, _⟩ := r.2.2.1.1 (l - 1) (by omega)
    have h2 := r.2.2.1.2.2.1 (l - 1) (by omega)
    rw [s4, st_2 s2] at h2
    rw [s8 p hp, if_pos h2]
theorem ok17 (hM : M ≤ 60) (r : Rel N w q a V n z M g) {t : Nat} (ht : t < 80) : av_outD (g 17 0 t) 61 = false ∧ av_outD (g 44 0 t) 61 = false := by
  obtain ⟨e1, j, hj, e2⟩ := r.2.2.2.1.2.2.2 t ht
  rw [← e1, e2]
  exact ⟨ix (by omega) (by omega), ix (by omega) (by omega)⟩
/-- only what was heard changes -/
theorem Rel_H {p : Nat} {v : Int32} {G : mG} (h : out [29, 45, 65] g G) (h5 : ago [1, 2, 3, 4, 5, 6, 7, 8, 14] g G) (hH : rH G) (r : Rel N w q a V n z M g) : Rel N w q a V n z M G := by
  obtain ⟨a1, a2, a3, a4, a5, a6, a7, a8, a9, a10⟩ := r
  have s5 : ∀ js : List Nat, (∀ j, j ∈ js → j ∈ [1, 2, 3, 4, 5, 6, 7, 8, 14]) → ago js g G := fun js hs j hj => h5 j (hs j hj)
  exact ⟨rP_c (ag_o h (by decide)) (s5 _ (by decide)) a1, rM_c (ag_o h (by decide)) (s5 _ (by decide)) a2, rLL_c (ag_o h (by decide)) a3, rS_c (ag_o h (by decide)) (s5 _ (by decide)) a4, hH, fun k hk => ⟨rKu_a (ag_o h (by decide)) (a6 k hk).1, rKh_a (ag_o h (by decide)) (a6 k hk).2⟩, fun b hb => rB_a (ag_o h (by decide)) (h5 4 (by decide)) (a7 b hb), rW_c (ag_o h (by decide)) (s5 _ (by decide)) a8, fun d hd => rD_a (ag_o h (by decide)) (a9 d hd), fun t ht => rV_a (ag_o h (by decide)) (a10 t ht)⟩
theorem op_76 (hp : pr N w q a) (hb : nb V n z M) (r : Rel N w q a V n z M g) (b p s v : Int32) : opI N L 76 122 [.inl b, .inl p, .inl s, .inl v] (cd 156) (nxt N w q a V g) g := by
  obtain ⟨p1, p2, p3, p4, p5, p6, p7, p8, p9⟩ := hp
  have hM : M ≤ 60 := hb.2.2.2
  have hn : n ≤ 10 := hb.2.1
  by_cases h : ¬ b < 0 ∧ ¬ 3 ≤ b
  · obtain ⟨b', hb', rfl⟩ := inr_of (n := 3) (by decide) h
    by_cases hpq : (¬ p < 0 ∧ ¬ 4 ≤ p) ∧ ¬ s < 1 ∧ ¬ 1000 < s
    · obtain ⟨h4, h5, h6⟩ := hpq
      obtain ⟨p', hp', rfl⟩ := inr_of (n := 4) (by decide) h4
      have h7 : s ≤ 1000 := Int32.not_lt.mp h6
      obtain ⟨ph, l, ve, e, bs, wr, rr⟩ := r.2.2.2.2.2.2.1 b' hb'
      have bs' := bs
      obtain ⟨s1, s2, s3, s4, s5, s6, s7, s8, s9, s10, s11, s12, s13⟩ := bs
      by_cases h3 : ph = 3
      · have e3 : nI ph = 3 := by rw [h3]; rfl
        have t3 : g 28 b' 1 = 3 := s7.trans e3
        have nup : ¬ g 28 b' 0 = 0 := fun y => by have := s6 y; omega
        obtain ⟨hln, hl3⟩ := s12 (Or.inr h3)
        obtain ⟨w1, w2, w3, w4, w5, w6, w7⟩ := wr
        have hle := F106_le b' g e 0
        have hg17 : ∀ i, i < e → av_outD (g 17 0 (8 * l + i)) 61 = false := fun i hi => (ok17 hM r (by omega)).1
        have mu : ∀ f i j, ¬ f = 65 → ∀ X : mG, gu X 65 0 0 0 f i j = X f i j := fun f i j hf X => gu_f _ _ _ _ _ _ _ _ hf
        have gse : ∀ X : mG, (∀ f i j, 35 < f ∧ f < 64 → X f i j = g f i j) → ∀ m, m ≤ 6 → F119 l (nI p') (gu X 65 0 0 0) m 0 (if l = 0 then 0 else gu X 65 0 0 0 39 0 (4 * (l - 1) + p')) = F71 l (nI p') g m 0 (if l = 0 then 0 else g 13 (l - 1) p') := fun X hX m hm => by
          rw [gs_e r hM s2 hp' (fun j => by rw [mu 44 0 j (by decide), hX 44 0 j (by decide)]) (fun j => by rw [mu 41 0 j (by decide), hX 41 0 j (by decide)]) (fun j => by rw [mu 42 0 j (by decide), hX 42 0 j (by decide)]) m 0 _ (by omega), mu 39 0 _ (by decide), hX 39 0 _ (by decide), er_e hn r hln hp']
        have hmod : ∀ X : mG, (∀ f i j, 35 < f ∧ f < 64 → X f i j = g f i j) → ∀ c s' x o, av_cal 122 [.inr (.inr (some (65, 0))), .inl (nI b'), .inl (nI p'), .inl s, .inl v] (mm N L c s' x o X) = av_run 122 63 [some (.inr (.inr (some (65, 0)))), some (.inl (nI b')), some (.inl (nI p')), some (.inl s), some (.inl v), none] [] (mm N L c s' x o (gu X 65 0 0 0)) := fun X hX c s' x o => l_122i N L c s' x o b' p' hb' hp' s v h5 h7 X (by rw [hX 50 0 b' (by decide), s5]; exact nup) (by rw [hX 51 0 b' (by decide), s8]; exact e3)
        have m53 : ∀ X : mG, (∀ f i j, 35 < f ∧ f < 64 → X f i j = g f i j) → gu X 65 0 0 0 53 0 b' = nI l ∧ gu X 65 0 0 0 54 0 b' = nI e ∧ ∀ i, i < e → av_outD (gu X 65 0 0 0 44 0 (8 * l + i)) 61 = false := fun X hX => ⟨by rw [mu 53 0 b' (by decide), hX 53 0 b' (by decide)]; exact s11, by rw [mu 54 0 b' (by decide), hX 54 0 b' (by decide)]; exact w3, fun i hi => by rw [mu 44 0 _ (by decide), hX 44 0 _ (by decide)]; exact (ok17 hM r (by omega)).2⟩
        by_cases hr : s ≤ F71 l (nI p') g e 0 (if l = 0 then 0 else g 13 (l - 1) p')
        · have k76 := fun c s' x o => m_76r N L c s' x o b' l e (F106 b' g e 0) p' hb' s2 w1 (by omega) hp' s v h5 h6 g t3 hl3 w2 w5 hg17 hr
          have eF : ∀ X : mG, (∀ f i j, 35 < f ∧ f < 64 → X f i j = g f i j) → (∀ j, X 65 0 j = g 65 0 j) → F106 b' (gu X 65 0 0 0) e 0 = F106 b' g e 0 := fun X hX hX5 => F106_g b' g _ (by rw [gu_k _ _ _ _ _ _ (by decide), hX5]) (fun i _ => by rw [mu 55 0 _ (by decide), hX 55 0 _ (by decide)]) e 0 (by omega)
          by_cases hc : s ≤ F71 l (nI p') g (F106 b' g e 0) 0 (if l = 0 then 0 else g 13 (l - 1) p')
          · have hX : ∀ f i j, 35 < f ∧ f < 64 → gu g 29 0 p' (if g 29 0 p' < s then s else g 29 0 p') f i j = g f i j := fun f i j hf => gu_f _ _ _ _ _ _ _ _ (by omega)
            have hX5 : ∀ j, gu g 29 0 p' (if g 29 0 p' < s then s else g 29 0 p') 65 0 j = g 65 0 j := fun j => gu_f _ _ _ _ _ _ _ _ (by decide)
            refine Or.inl ⟨-2, _, gu (gu (gu g 29 0 p' (if g 29 0 p' < s then s else g 29 0 p')) 65 0 0 0) 45 0 p' (if s ≤ g 45 0 p' then g 45 0 p' else s), fun c s' x o => (k76 c s' x o).trans (if_pos hc), fun c s' x o => ?_, fun j => gu_f _ _ _ _ _ _ _ _ (by decide), ?_, ?_⟩
            · rw [hmod _ hX c s' x o, m_122r N L c s' x o b' p' l e hb' hp' s2 w1 s v _ (m53 _ hX).1 (m53 _ hX).2.1 (m53 _ hX).2.2 (by rw [gse _ hX e w1]; exact hr), eF _ hX hX5, gse _ hX _ (by omega), if_pos hc, mu 45 0 p' (by decide), hX 45 0 p' (by decide)]
            · rw [gu_f _ _ _ _ _ _ _ _ (by decide), gu_same]
            · have ho : out [29, 45, 65] g (gu (gu (gu g 29 0 p' (if g 29 0 p' < s then s else g 29 0 p')) 65 0 0 0) 45 0 p' (if s ≤ g 45 0 p' then g 45 0 p' else s)) := out_u (by decide) (out_u (by decide) (out_u (by decide) (out_r _ _)))
              refine nxt_k hb (Rel_H (p := p') (v := s) ho (fun j hj => by rw [gu_f _ _ _ _ _ _ _ _ (by decide), ag5_0 j hj, gu_f _ _ _ _ _ _ _ _ (by decide)]) (fun p2 hp2 => ?_) r) (fun j => ho 0 (by decide) _ _)
              rw [gu_f _ _ _ _ _ _ _ _ (by decide), gu_f _ _ _ _ _ _ _ _ (by decide)]
              by_cases y : p2 = p'
              · rw [y, gu_same, gu_same, r.2.2.2.2.1 p' hp']
                by_cases t : g 45 0 p' < s
                · rw [if_pos t, if_neg (lt_le.mp t)]
                · rw [if_neg t, if_pos (Int32.not_lt.mp t)]
              · rw [gu_k _ _ _ _ _ _ y, gu_k _ _ _ _ _ _ y, gu_f _ _ _ _ _ _ _ _ (by decide), gu_f _ _ _ _ _ _ _ _ (by decide)]
                exact r.2.2.2.2.1 p2 hp2
          · refine Or.inl ⟨-1, g, gu g 65 0 0 0, fun c s' x o => (k76 c s' x o).trans (if_neg hc), fun c s' x o => ?_, fun _ => rfl, gu_same _ _ _ _ _, nxt_0 hb r⟩
            rw [hmod g (fun _ _ _ _ => rfl) c s' x o, m_122r N L c s' x o b' p' l e hb' hp' s2 w1 s v _ (m53 g (fun _ _ _ _ => rfl)).1 (m53 g (fun _ _ _ _ => rfl)).2.1 (m53 g (fun _ _ _ _ => rfl)).2.2 (by rw [gse g (fun _ _ _ _ => rfl) e w1]; exact hr), eF g (fun _ _ _ _ => rfl) (fun _ => rfl), gse g (fun _ _ _ _ => rfl) _ (by omega), if_neg hc]
        · have hr' : F71 l (nI p') g e 0 (if l = 0 then 0 else g 13 (l - 1) p') < s := lt_le.mpr hr
          by_cases hf : e = 6 ∨ M = 60
          · refine Or.inr ⟨34, 0, g, _, by decide, fun c s' x o => m_76i N L c s' x o b' l e p' hb' s2 w1 hp' s v h5 h6 g t3 hl3 w2 hg17 hr' (hf.imp id (fun y => by rw [r.2.2.2.1.1, y]; decide)), fun c s' x o => (hmod g (fun _ _ _ _ => rfl) c s' x o).trans (m_122i N L c s' x o b' p' l e hb' hp' s2 w1 s v _ (m53 g (fun _ _ _ _ => rfl)).1 (m53 g (fun _ _ _ _ => rfl)).2.1 (m53 g (fun _ _ _ _ => rfl)).2.2 (by rw [gse g (fun _ _ _ _ => rfl) e w1]; exact hr') (hf.imp id (fun y => by rw [gu_k _ _ _ _ _ _ (by decide), r.2.2.2.1.2.1, y]; rfl))), fun _ => rfl, gu_same _ _ _ _ _, nxt_00 hb r⟩
          · have he6 : e < 6 := by
              have : ¬ e = 6 := fun y => hf (Or.inl y)
              omega
            have hM6 : M < 60 := by
              have : ¬ M = 60 := fun y => hf (Or.inr y)
              omega
            have hX : ∀ f i j, 35 < f ∧ f < 64 → F76 b' l e M (nI p') s v g f i j = g f i j := fun f i j hf => by
              unfold F76
              rw [gu_f _ _ _ _ _ _ _ _ (by omega), gu_f _ _ _ _ _ _ _ _ (by omega), gu_f _ _ _ _ _ _ _ _ (by omega), gu_f _ _ _ _ _ _ _ _ (by omega), gu_f _ _ _ _ _ _ _ _ (by omega), gu_f _ _ _ _ _ _ _ _ (by omega)]
            have c0 : ∀ f i j, ¬ f = 28 → ¬ f = 17 → ¬ f = 16 → ¬ f = 15 → ¬ f = 14 → ¬ f = 24 → F76 b' l e M (nI p') s v g f i j = g f i j := fun f i j b1 b2 b3 b4 b5 b6 => by
              unfold F76
              rw [gu_f _ _ _ _ _ _ _ _ b1, gu_f _ _ _ _ _ _ _ _ b2, gu_f _ _ _ _ _ _ _ _ b3, gu_f _ _ _ _ _ _ _ _ b4, gu_f _ _ _ _ _ _ _ _ b5, gu_f _ _ _ _ _ _ _ _ b6]
            have g14 : gu (F76 b' l e M (nI p') s v g) 65 0 0 0 65 0 14 = nI M := by
              rw [gu_k _ _ _ _ _ _ (by decide), c0 65 0 14 (by decide) (by decide) (by decide) (by decide) (by decide) (by decide)]; exact r.2.2.2.1.2.1
            refine Or.inl ⟨nI (8 * l + e), F76 b' l e M (nI p') s v g, F122 b' l e M (nI p') s v (gu (F76 b' l e M (nI p') s v g) 65 0 0 0), fun c s' x o => m_76 N L c s' x o b' l e p' M hb' s2 he6 hp' hM6 s v h5 h6 g t3 hl3 w2 r.2.2.2.1.1 hg17 hr', fun c s' x o => (hmod _ hX c s' x o).trans (m_122 N L c s' x o b' p' l e M hb' hp' s2 he6 hM6 s v _ (m53 _ hX).1 (m53 _ hX).2.1 g14 (m53 _ hX).2.2 (by rw [gse _ hX e w1]; exact hr')), fun j => c0 0 0 j (by decide) (by decide) (by decide) (by decide) (by decide) (by decide), ?_, ?_⟩
            · simp [F122, gu]
            · have c28 : ∀ i j, F122 b' l e M (nI p') s v (gu (F76 b' l e M (nI p') s v g) 65 0 0 0) 28 i j = if i = b' ∧ j = 4 then nI (e + 1) else g 28 i j := fun i j => by simp [F122, F76, gu]
              have c17 : ∀ j, F122 b' l e M (nI p') s v (gu (F76 b' l e M (nI p') s v g) 65 0 0 0) 17 0 j = if j = 8 * l + e then nI (M + 1) else g 17 0 j := fun j => by simp [F122, F76, gu]
              have c44 : ∀ j, F122 b' l e M (nI p') s v (gu (F76 b' l e M (nI p') s v g) 65 0 0 0) 44 0 j = if j = 8 * l + e then nI (M + 1) else g 44 0 j := fun j => by simp [F122, F76, gu]
              have c14 : ∀ j, F122 b' l e M (nI p') s v (gu (F76 b' l e M (nI p') s v g) 65 0 0 0) 14 0 j = if j = M + 1 then nI p' else g 14 0 j := fun j => by simp [F122, F76, gu]
              have c41 : ∀ j, F122 b' l e M (nI p') s v (gu (F76 b' l e M (nI p') s v g) 65 0 0 0) 41 0 j = if j = M + 1 then nI p' else g 41 0 j := fun j => by simp [F122, F76, gu]
              have c15 : ∀ j, F122 b' l e M (nI p') s v (gu (F76 b' l e M (nI p') s v g) 65 0 0 0) 15 0 j = if j = M + 1 then s else g 15 0 j := fun j => by simp [F122, F76, gu]
              have c42 : ∀ j, F122 b' l e M (nI p') s v (gu (F76 b' l e M (nI p') s v g) 65 0 0 0) 42 0 j = if j = M + 1 then s else g 42 0 j := fun j => by simp [F122, F76, gu]
              have c16 : ∀ j, F122 b' l e M (nI p') s v (gu (F76 b' l e M (nI p') s v g) 65 0 0 0) 16 0 j = if j = M + 1 then v else g 16 0 j := fun j => by simp [F122, F76, gu]
              have c43 : ∀ j, F122 b' l e M (nI p') s v (gu (F76 b' l e M (nI p') s v g) 65 0 0 0) 43 0 j = if j = M + 1 then v else g 43 0 j := fun j => by simp [F122, F76, gu]
              have c24 : F122 b' l e M (nI p') s v (gu (F76 b' l e M (nI p') s v g) 65 0 0 0) 24 0 0 = nI (M + 1) := by simp [F122, F76, gu]
              have cM : F122 b' l e M (nI p') s v (gu (F76 b' l e M (nI p') s v g) 65 0 0 0) 65 0 14 = nI (M + 1) := by simp [F122, F76, gu]
              have c54 : ∀ j, F122 b' l e M (nI p') s v (gu (F76 b' l e M (nI p') s v g) 65 0 0 0) 54 0 j = if j = b' then nI (e + 1) else g 54 0 j := fun j => by simp [F122, F76, gu]
              have c65 : ago [1, 2, 3, 4, 5, 6, 7, 8] g (F122 b' l e M (nI p') s v (gu (F76 b' l e M (nI p') s v g) 65 0 0 0)) := fun j hj => by
                simp at hj
                rcases hj with rfl | rfl | rfl | rfl | rfl | rfl | rfl | rfl <;> simp [F122, F76, gu]
              have ho : out [28, 17, 44, 14, 41, 15, 42, 16, 43, 24, 65, 54] g (F122 b' l e M (nI p') s v (gu (F76 b' l e M (nI p') s v g) 65 0 0 0)) := fun f hf i j => by
                simp at hf
                simp [F122, F76, gu, hf]
              generalize F122 b' l e M (nI p') s v (gu (F76 b' l e M (nI p') s v g) 65 0 0 0) = G at *
              have k5 : ∀ js : List Nat, (∀ j, j ∈ js → j ∈ [1, 2, 3, 4, 5, 6, 7, 8]) → ago js g G := fun js hs j hj => c65 j (hs j hj)
              have n17 : ∀ l' i, ¬ (l' = l ∧ i = e) → i < 8 → G 17 0 (8 * l' + i) = g 17 0 (8 * l' + i) := fun l' i y hi => by rw [c17, if_neg (by omega)]
              have nz : ¬ nI (M + 1) = 0 := by rw [show (nI (M + 1) = (0 : Int32)) = (M + 1 = 0) from iI_eq (b := 0) (by omega) (by omega)]; omega
              have up17 : ∀ j, ¬ g 17 0 j = 0 → ¬ G 17 0 j = 0 := fun j y => by
                rw [c17]
                by_cases t : j = 8 * l + e
                · rw [if_pos t]; exact nz
                · rw [if_neg t]; exact y
              have z17 : g 17 0 (8 * l + e) = 0 := (w7 h3 e he6).2 (Nat.le_refl _)
              obtain ⟨a1, a2, a3, a4, a5, a6, a7, a8, a9, a10⟩ := id r
              refine ⟨⟨V, n, z, M + 1, by omega, hn, hb.2.2.1, by omega, rP_c (ag_o ho (by decide)) (k5 _ (by decide)) a1, rM_c (ag_o ho (by decide)) (k5 _ (by decide)) a2, ⟨fun l' hl' => rL_c (ag_o ho (by decide)) (a3.1 l' hl'), fun l' h1 h2 => ?_, rC_c (ag_o ho (by decide)) a3.2.2⟩, ⟨c24, cM, fun i hi => ?_, fun t ht => ?_⟩, rH_c (ag_o ho (by decide)) a5, fun k hk => ⟨rKu_a (ag_o ho (by decide)) (a6 k hk).1, fun l' hl' => ?_⟩, fun b2 hb2 => ?_, rW_c (ag_o ho (by decide)) (k5 _ (by decide)) a8, fun d hd => rD_a (ag_o ho (by decide)) (a9 d hd), fun t ht => rV_a (ag_o ho (by decide)) (a10 t ht)⟩, fun j => ho 0 (by decide) _ _⟩
              · obtain ⟨x1, x2, x3, x4, x5, x6, x7⟩ := a3.2.1 l' h1 h2
                refine ⟨by rw [ho 20 (by decide)]; exact x1, by rw [ho 20 (by decide)]; exact x2, by rw [ho 20 (by decide)]; exact x3, fun i hi => by rw [ho 11 (by decide)]; exact x4 i hi, fun i hi => by rw [ho 12 (by decide)]; exact x5 i hi, fun i hi => by rw [ho 13 (by decide)]; exact x6 i hi, fun i hi => by rw [n17 l' i (by omega) hi]; exact x7 i hi⟩
              · rw [c14, c41, c15, c42, c16, c43]
                by_cases y : i = M + 1
                · rw [if_pos y, if_pos y, if_pos y, if_pos y, if_pos y, if_pos y]
                  exact ⟨rfl, rfl, rfl, p', hp', rfl⟩
                · rw [if_neg y, if_neg y, if_neg y, if_neg y, if_neg y, if_neg y]
                  exact a4.2.2.1 i hi
              · rw [c17, c44]
                by_cases y : t = 8 * l + e
                · rw [if_pos y, if_pos y]
                  exact ⟨rfl, M + 1, Nat.le_refl _, rfl⟩
                · rw [if_neg y, if_neg y]
                  obtain ⟨x1, j, hj, x2⟩ := a4.2.2.2 t ht
                  exact ⟨x1, j, by omega, x2⟩
              · obtain ⟨m1, m2, me⟩ := (a6 k hk).2 l' hl'
                refine ⟨by rw [ho 1 (by decide)]; exact m1, by rw [ho 2 (by decide)]; exact m2, fun x hx => ?_⟩
                obtain ⟨v1, v2, v3, v4⟩ := me x hx
                unfold rKe
                rw [ho 47 (by decide), ho 48 (by decide), ho 1 (by decide), ho 2 (by decide), ho 12 (by decide)]
                by_cases y : l' = l ∧ x = e
                · have nb1 : ¬ bt (g 1 k l') x := fun t => (v4 t).2 (by rw [y.1, y.2]; exact z17)
                  rw [if_neg nb1] at v1 ⊢
                  exact ⟨v1, v2, v3, fun t => absurd t nb1⟩
                · rw [n17 l' x y hx]
                  exact ⟨v1, v2, v3, v4⟩
              · obtain ⟨ph2, l2, ve2, e2, x1, x2, x3⟩ := a7 b2 hb2
                have r28 : ∀ j, ¬ (b2 = b' ∧ j = 4) → G 28 b2 j = g 28 b2 j := fun j y => by rw [c28, if_neg y]
                refine ⟨ph2, l2, ve2, (if b2 = b' then e + 1 else e2), ?_, ?_, ?_⟩
                · obtain ⟨y1, y2, y3, y4, y5, y6, y7, y8, y9, y10, y11, y12, y13⟩ := x1
                  exact ⟨y1, y2, y3, by rw [r28 0 (by omega)]; exact y4, by rw [r28 0 (by omega), ho 50 (by decide)]; exact y5, by rw [r28 0 (by omega)]; exact y6, by rw [r28 1 (by omega)]; exact y7, by rw [ho 51 (by decide)]; exact y8, by rw [r28 2 (by omega)]; exact y9, by rw [ho 52 (by decide)]; exact y10, by rw [ho 53 (by decide)]; exact y11, by rw [r28 3 (by omega)]; exact y12, by rw [r28 3 (by omega)]; exact y13⟩
                · by_cases y : b2 = b'
                  · subst y
                    rw [if_pos rfl]
                    have hph2 : ph2 = 3 := by
                      have t1 := x1.2.2.2.2.2.2.1
                      rw [s7, h3] at t1
                      exact ((iI_eq (a := 3) (b := ph2) (by decide) (by have := x1.1; omega)).mp t1).symm
                    have hl2 : l2 = l := by
                      have t1 := x1.2.2.2.2.2.2.2.2.2.2.1
                      rw [s11] at t1
                      exact ((iI_eq (a := l) (b := l2) (by omega) (by have := x1.2.1; omega)).mp t1).symm
                    subst hl2
                    have z55 : F107 (G 55 0 (6 * b2 + (0 + e))) 6 0 0 < G 65 0 4 := by
                      rw [ho 55 (by decide), c65 4 (by decide), Nat.zero_add, ← (w6 e he6).1, (w6 e he6).2.2 (Nat.le_refl _), r.1.2.2.2.2.2.2]
                      rw [f7_ct m6_0, ct_0 6 0 (fun j _ hj => bt_0 (by omega)), iI_lt (by omega) (by omega)]
                      omega
                    refine ⟨by omega, by rw [c28, if_pos ⟨rfl, rfl⟩], by rw [c54, if_pos rfl], fun t => absurd hph2 t, ?_, fun i hi => ?_, fun _ i hi => ⟨fun t => ?_, fun t => ?_⟩⟩
                    · rw [r28 5 (by omega), F106_x b2 G e 0 z55, F106_g b2 g G (c65 4 (by decide)) (fun i _ => ho 55 (by decide) _ _) e 0 (by omega)]
                      exact w5
                    · rw [ho 3 (by decide), ho 55 (by decide)]
                      obtain ⟨t1, t2, t3⟩ := w6 i hi
                      exact ⟨t1, t2, fun t => t3 (by omega)⟩
                    · by_cases u : i = e
                      · rw [u, c17, if_pos rfl]; exact nz
                      · exact up17 _ ((w7 h3 i hi).1 (by omega))
                    · rw [n17 l2 i (by omega) (by omega)]; exact (w7 h3 i hi).2 (by omega)
                  · rw [if_neg y]
                    obtain ⟨y1, y2, y3, y4, y5, y6, y7⟩ := x2
                    refine ⟨y1, by rw [r28 4 (by omega)]; exact y2, by rw [c54, if_neg y]; exact y3, y4, ?_, fun i hi => by rw [ho 3 (by decide), ho 55 (by decide)]; exact y6 i hi, fun t i hi => ?_⟩
                    · rw [r28 5 (by omega), F106_g b2 g G (c65 4 (by decide)) (fun i _ => ho 55 (by decide) _ _) e2 0 (by omega)]
                      exact y5
                    · have hne : ¬ l2 = l := fun u => by
                        refine a8.1 b2 b' hb2 hb' y ?_ ?_ ?_
                        · rw [x1.2.2.2.2.2.2.2.1, t]; rfl
                        · rw [s8]; exact e3
                        · rw [x1.2.2.2.2.2.2.2.2.2.2.1, s11, u]
                      rw [n17 l2 i (fun u => hne u.1) (by omega)]
                      exact y7 t i hi
                · obtain ⟨y1, y2, y3, y4⟩ := x3
                  refine ⟨by rw [r28 6 (by omega), ho 56 (by decide)]; exact y1, by rw [r28 6 (by omega)]; exact y2, by rw [r28 6 (by omega)]; exact y3, fun k hk => ?_⟩
                  obtain ⟨t1, t2, t3, t4, t5, t6, t7⟩ := y4 k hk
                  rw [ho 4 (by decide), ho 5 (by decide), ho 57 (by decide), ho 58 (by decide), r28 6 (by omega)]
                  refine ⟨t1, t2, t3, t4, t5, t6, fun i hi t => ?_⟩
                  rw [ho 12 (by decide)]
                  exact ⟨(t7 i hi t).1, up17 _ (t7 i hi t).2⟩
      · have n3 : ¬ nI ph = 3 := fun y => h3 ((ph_i s1 (k := 3) (by decide)).mp y)
        exact Or.inr ⟨31, 0, g, _, by decide, fun c s' x o => m_76s N L c s' x o b' p' hb' hp' s v h5 h6 g (by rw [s7]; exact n3), fun c s' x o => m_122s N L c s' x o b' p' hb' hp' s v h5 h7 g (Or.inr (by rw [s8]; exact n3)), fun _ => rfl, gu_same _ _ _ _ _, nxt_00 hb r⟩
    · exact Or.inr ⟨30, 0, g, _, by decide, fun c s' x o => m_76b N L c s' x o b' hb' p s v hpq g, fun c s' x o => m_122a N L c s' x o (nI b') p s v g (fun y => hpq ⟨y.2.1, y.2.2.1, Int32.not_lt.mpr y.2.2.2⟩), fun _ => rfl, gu_same _ _ _ _ _, nxt_00 hb r⟩
  · exact Or.inr ⟨30, 0, g, _, by decide, fun c s' x o => m_76a N L c s' x o b p s v h g, fun c s' x o => m_122a N L c s' x o b p s v g (fun y => h ((i_b3 b).mp y.1)), fun _ => rfl, gu_same _ _ _ _ _, nxt_00 hb r⟩
end O11
