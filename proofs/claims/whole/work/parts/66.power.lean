/-! power, wipe, run -/
theorem lv_b {b : Nat} {u v : Int32} {g g' : mG} (h : lv b u (gu g 28 b 0 v) g') : lv b u g g' := by
  obtain ⟨h1, h2, h3, h4, h5, h6, h7⟩ := h
  refine ⟨fun f hf i j => (h1 f hf i j).trans (gu_f _ _ _ _ _ _ _ _ (fun z => hf (by rw [z]; decide))), h2, fun b' hb' e => ?_, h4, h5, h6, h7⟩
  obtain ⟨o1, o2, o3, o4⟩ := h3 b' hb' e
  refine ⟨fun j => (o1 j).trans (gu_ne _ _ _ _ _ _ _ _ (fun z => e z.2.1)), fun f hf => (o2 f hf).trans (gu_f _ _ _ _ _ _ _ _ ((by decide : ∀ f, f ∈ [50, 51, 52, 53, 54, 56] → ¬ f = 28) f hf)), fun f hf i hi => (o3 f hf i hi).trans (gu_f _ _ _ _ _ _ _ _ ((by decide : ∀ f, f ∈ [3, 4, 5] → ¬ f = 28) f hf)), fun f hf i hi => (o4 f hf i hi).trans (gu_f _ _ _ _ _ _ _ _ ((by decide : ∀ f, f ∈ [55, 57, 58] → ¬ f = 28) f hf))⟩
section O2
variable {N w q a V n z M : Nat} {g : mG} (L : Nat)
theorem ag5_0 {v : Int32} : ago [1, 2, 3, 4, 5, 6, 7, 8, 14] g (gu g 65 0 0 v) := fun j hj => gu_k _ _ _ _ _ _ ((by decide : ∀ j, j ∈ [1, 2, 3, 4, 5, 6, 7, 8, 14] → ¬ j = 0) j hj)
theorem nxt_00 {u v : Int32} (hb : nb V n z M) (r : Rel N w q a V n z M g) : nxt N w q a V g (gu (gu g 65 0 0 u) 65 0 0 v) := nxt_k hb (Rel_0 (Rel_0 r)) (fun j => by rw [gu_f _ _ _ _ _ _ _ _ (by decide), gu_f _ _ _ _ _ _ _ _ (by decide)])
/-- thrown out: the class forgets all of the broker, the model leaves -/
theorem nxt_lv {b : Nat} {u v : Int32} (hbb : b < 3) (hb : nb V n z M) (r : Rel N w q a V n z M g) : nxt N w q a V g (gu (F101 b (gu (F8 b g) 65 0 0 u)) 65 0 0 v) := by
  obtain ⟨ph, l, ve, e, c1, _, _⟩ := r.2.2.2.2.2.2.1 b hbb
  have hl : lv b (g 28 b 0) g (gu (F101 b (gu (F8 b g) 65 0 0 u)) 65 0 0 v) := by
    refine lv_F (g1 := gu (F8 b g) 65 0 0 u) hbb (fun f i j h1 _ => gu_f _ _ _ _ _ _ _ _ (fun z => h1 (by rw [z]; decide))) (fun j hj => ?_) rfl ?_ (fun f i j h1 => gu_f _ _ _ _ _ _ _ _ (fun z => h1 (by rw [z]; decide))) (fun j hj => ?_)
    · rw [ag5_0 j hj, F8_9 b 65 0 j g (by decide)]
    · rw [gu_f _ _ _ _ _ _ _ _ (by decide), F8_9 b 50 0 b g (by decide), c1.2.2.2.2.1]
    · rw [ag5_0 j hj, F101_f _ _ _ _ _ (by omega)]
  refine nxt_k hb (Rel_lv hbb c1.2.2.2.1 hl r) (fun j => ?_)
  rw [gu_f _ _ _ _ _ _ _ _ (by decide), F101_f _ _ _ _ _ (by omega), gu_f _ _ _ _ _ _ _ _ (by decide), F8_9 b 0 0 j g (by decide)]
theorem op_94 (hb : nb V n z M) (r : Rel N w q a V n z M g) (b y : Int32) (hy : y = 0 ∨ y = 1) : opV N L 94 140 [.inl b, .inl y] (cd 166) (nxt N w q a V g) g := by
  by_cases h : ¬ b < 0 ∧ ¬ 3 ≤ b
  · obtain ⟨b', hb', rfl⟩ := inr_of (n := 3) (by decide) h
    obtain ⟨ph, l, ve, e, c1, _, _⟩ := r.2.2.2.2.2.2.1 b' hb'
    by_cases h1 : g 28 b' 0 = y
    · exact Or.inr ⟨31, g, _, by decide, fun c s x o => m_94s N L c s x o b' hb' y g h1, fun c s x o => m_140s N L c s x o b' hb' y g (c1.2.2.2.2.1.trans h1), fun _ => rfl, gu_same _ _ _ _ _, nxt_0 hb r⟩
    · refine Or.inl ⟨_, _, fun c s x o => m_94 N L c s x o b' hb' y hy g h1, fun c s x o => m_140 N L c s x o b' hb' y hy _ ?_, fun j => ?_, ?_, ?_⟩
      · rw [F8_9 b' 50 0 b' _ (by decide), gu_f _ _ _ _ _ _ _ _ (by decide), c1.2.2.2.2.1]; exact h1
      · rw [F8_9 b' 0 0 j _ (by decide), gu_f _ _ _ _ _ _ _ _ (by decide)]
      · rw [F101_f _ _ _ _ _ (by omega), gu_f _ _ _ _ _ _ _ _ (by decide), gu_same]
      · have hl : lv b' y g (F101 b' (gu (gu (F8 b' (gu g 28 b' 0 y)) 65 0 0 0) 50 0 b' y)) := by
          refine lv_b (v := y) (lv_F (g1 := gu (gu (F8 b' (gu g 28 b' 0 y)) 65 0 0 0) 50 0 b' y) hb' (fun f i j h1 h2 => ?_) (fun j hj => ?_) (gu_same _ _ _ _ _) (gu_same _ _ _ _ _) (fun f i j _ => rfl) (fun j _ => F101_f _ _ _ _ _ (by omega)))
          · rw [gu_ne _ _ _ _ _ _ _ _ (fun y => h2 ⟨y.1, y.2.2⟩), gu_f _ _ _ _ _ _ _ _ (fun z => h1 (by rw [z]; decide))]
          · rw [gu_f _ _ _ _ _ _ _ _ (by decide), ag5_0 j hj, F8_9 b' 65 0 j _ (by decide)]
        refine nxt_k hb (Rel_lv hb' hy hl r) (fun j => ?_)
        rw [F101_f _ _ _ _ _ (by omega), gu_f _ _ _ _ _ _ _ _ (by decide), gu_f _ _ _ _ _ _ _ _ (by decide), F8_9 b' 0 0 j _ (by decide), gu_f _ _ _ _ _ _ _ _ (by decide)]
  · refine Or.inr ⟨30, g, _, by decide, fun c s x o => m_94a N L c s x o b y h g, fun c s x o => m_140a N L c s x o b y g (fun k => h ((i_b3 b).mp k)), fun _ => rfl, gu_same _ _ _ _ _, nxt_0 hb r⟩
/-- only bookie k changes -/
theorem Rel_K {k : Nat} {g' : mG} (hk : k < N) (h : out [26, 1, 2, 46, 47, 48, 49, 65, 63, 0] g g') (h5 : ago [1, 2, 3, 4, 5, 6, 7, 8, 14] g g') (ho : ∀ k', k' < N → ¬ k' = k → (∀ j, g' 26 k' j = g 26 k' j) ∧ g' 46 0 k' = g 46 0 k' ∧ (∀ l, l < 10 → g' 49 0 (10 * k' + l) = g 49 0 (10 * k' + l)) ∧ (∀ l, l < 10 → g' 1 k' l = g 1 k' l ∧ g' 2 k' l = g 2 k' l) ∧ ∀ t, t < 80 → g' 47 0 (80 * k' + t) = g 47 0 (80 * k' + t) ∧ g' 48 0 (80 * k' + t) = g 48 0 (80 * k' + t)) (hn : rKu k g' ∧ rKh k g') (r : Rel N w q a V n z M g) : Rel N w q a V n z M g' := by
  obtain ⟨a1, a2, a3, a4, a5, a6, a7, a8, a9, a10⟩ := r
  have s5 : ∀ js : List Nat, (∀ j, j ∈ js → j ∈ [1, 2, 3, 4, 5, 6, 7, 8, 14]) → ago js g g' := fun js hs j hj => h5 j (hs j hj)
  refine ⟨rP_c (ag_o h (by decide)) (s5 _ (by decide)) a1, rM_c (ag_o h (by decide)) (s5 _ (by decide)) a2, rLL_c (ag_o h (by decide)) a3, rS_c (ag_o h (by decide)) (s5 _ (by decide)) a4, rH_c (ag_o h (by decide)) a5, fun k' hk' => ?_, fun b hb => rB_a (ag_o h (by decide)) (h5 4 (by decide)) (a7 b hb), rW_c (ag_o h (by decide)) (s5 _ (by decide)) a8, fun d hd => rD_a (ag_o h (by decide)) (a9 d hd), fun t ht => rV_a (ag_o h (by decide)) (a10 t ht)⟩
  by_cases e : k' = k
  · subst e; exact hn
  · obtain ⟨o1, o2, o3, o4, o5⟩ := ho k' hk' e
    exact ⟨rKu_c o1 o2 o3 (a6 k' hk').1, rKh_c (fun l hl => (o4 l hl).1) (fun l hl => (o4 l hl).2) (fun t ht => (o5 t ht).1) (fun t ht => (o5 t ht).2) (ag_o h (by decide)) (a6 k' hk').2⟩
theorem F4_v (k f i j : Nat) : ∀ (d e : Nat) (g : mG), F4 k d e g f i j = if f = 1 ∧ i = k ∧ e ≤ j ∧ j < e + d then g 2 k j else g f i j := by
  intro d
  induction d with
  | zero => intro e g; rw [if_neg (by omega)]; rfl
  | succ d ih =>
    intro e g
    show F4 k d (e + 1) (gu g 1 k e (g 2 k e)) f i j = _
    rw [ih (e + 1), gu_f _ _ _ _ 2 k j _ (by decide)]
    by_cases h1 : f = 1 ∧ i = k ∧ e + 1 ≤ j ∧ j < e + 1 + d
    · rw [if_pos h1, if_pos ⟨h1.1, h1.2.1, by omega, by omega⟩]
    · rw [if_neg h1]
      by_cases h2 : f = 1 ∧ i = k ∧ j = e
      · obtain ⟨rfl, rfl, rfl⟩ := h2
        rw [gu_same, if_pos ⟨rfl, rfl, by omega, by omega⟩]
      · rw [gu_ne _ _ _ _ _ _ _ _ h2, if_neg]
        intro y
        by_cases h3 : j = e
        · exact h2 ⟨y.1, y.2.1, h3⟩
        · exact h1 ⟨y.1, y.2.1, by omega, by omega⟩
theorem F138_f (f i' j : Nat) (h1 : ¬ f = 47) (h2 : ¬ f = 48) : ∀ (d i : Nat) (g : mG), F138 d i g f i' j = g f i' j := by
  intro d
  induction d with
  | zero => exact fun _ _ => rfl
  | succ d ih =>
    intro i g
    show F138 d (i + 1) (if g 48 0 i = 0 then gu (gu g 47 0 i 0) 48 0 i 0 else g) f i' j = _
    rw [ih]
    split
    · rw [gu_f _ _ _ _ _ _ _ _ h2, gu_f _ _ _ _ _ _ _ _ h1]
    · rfl
theorem F138_8 (j : Nat) : ∀ (d i : Nat) (g : mG), F138 d i g 48 0 j = g 48 0 j := by
  intro d
  induction d with
  | zero => exact fun _ _ => rfl
  | succ d ih =>
    intro i g
    show F138 d (i + 1) (if g 48 0 i = 0 then gu (gu g 47 0 i 0) 48 0 i 0 else g) 48 0 j = _
    rw [ih]
    split
    · rename_i h
      by_cases e : j = i
      · rw [e, gu_same, h]
      · rw [gu_k _ _ _ _ _ _ e, gu_f _ _ _ _ _ _ _ _ (by decide)]
    · rfl
theorem F138_7 (j : Nat) : ∀ (d i : Nat) (g : mG), F138 d i g 47 0 j = if i ≤ j ∧ j < i + d ∧ g 48 0 j = 0 then 0 else g 47 0 j := by
  intro d
  induction d with
  | zero => intro i g; rw [if_neg (by omega)]; rfl
  | succ d ih =>
    intro i g
    show F138 d (i + 1) (if g 48 0 i = 0 then gu (gu g 47 0 i 0) 48 0 i 0 else g) 47 0 j = _
    rw [ih]
    have e48 : (if g 48 0 i = 0 then gu (gu g 47 0 i 0) 48 0 i 0 else g) 48 0 j = g 48 0 j := by
      split
      · rename_i h
        by_cases e : j = i
        · rw [e, gu_same, h]
        · rw [gu_k _ _ _ _ _ _ e, gu_f _ _ _ _ _ _ _ _ (by decide)]
      · rfl
    have e47 : (if g 48 0 i = 0 then gu (gu g 47 0 i 0) 48 0 i 0 else g) 47 0 j = if j = i ∧ g 48 0 j = 0 then 0 else g 47 0 j := by
      by_cases h : g 48 0 i = 0
      · rw [if_pos h, gu_f _ _ _ _ _ _ _ _ (by decide)]
        by_cases e : j = i
        · rw [e, gu_same, if_pos ⟨rfl, h⟩]
        · rw [gu_k _ _ _ _ _ _ e, if_neg (fun y => e y.1)]
      · rw [if_neg h, if_neg (fun y => h (by rw [← y.1]; exact y.2))]
    rw [e48, e47]
    by_cases h0 : g 48 0 j = 0
    · by_cases h1 : j = i
      · rw [if_pos (show j = i ∧ g 48 0 j = 0 from ⟨h1, h0⟩), if_pos (show i ≤ j ∧ j < i + (d + 1) ∧ g 48 0 j = 0 from ⟨by omega, by omega, h0⟩)]
        split <;> rfl
      · rw [if_neg (show ¬ (j = i ∧ g 48 0 j = 0) from fun y => h1 y.1)]
        by_cases h2 : i + 1 ≤ j ∧ j < i + 1 + d
        · rw [if_pos ⟨h2.1, h2.2, h0⟩, if_pos ⟨by omega, by omega, h0⟩]
        · rw [if_neg (fun y => h2 ⟨y.1, y.2.1⟩), if_neg (fun y => h2 ⟨by omega, by omega⟩)]
    · rw [if_neg (fun y => h0 y.2.2), if_neg (fun y => h0 y.2), if_neg (fun y => h0 y.2.2)]
theorem op_92 (hp : pr N w q a) (hb : nb V n z M) (r : Rel N w q a V n z M g) (k y : Int32) (hy : y = 0 ∨ y = 1) : opV N L 92 138 [.inl k, .inl y] (cd 164) (nxt N w q a V g) g := by
  have hN : N ≤ 6 := hp.2.1
  have g1 := r.1.2.2.2.1
  by_cases h : ¬ k < 0 ∧ ¬ nI N ≤ k
  · obtain ⟨k', hk, rfl⟩ := inr_of (n := N) (by omega) h
    obtain ⟨⟨u1, u2, u3, u4⟩, uh⟩ := r.2.2.2.2.2.1 k' hk
    by_cases h1 : g 26 k' 0 = y
    · exact Or.inr ⟨31, g, _, by decide, fun c s x o => m_92s N L c s x o k' (by omega) hk y g h1, fun c s x o => m_138s N L c s x o k' hN hk y g g1 (u2.trans h1), fun _ => rfl, gu_same _ _ _ _ _, nxt_0 hb r⟩
    · rcases hy with rfl | rfl
      · refine Or.inl ⟨F4 k' 10 0 (gu g 26 k' 0 0), F138 80 (80 * k') (gu (gu (F4 k' 10 0 (gu g 26 k' 0 0)) 65 0 0 0) 46 0 k' 0), fun c s x o => ?_, fun c s x o => m_138d N L c s x o k' hN hk _ ?_ ?_, fun j => ?_, ?_, ?_⟩
        · rw [m_92 N L c s x o k' (by omega) hk 0 (Or.inl rfl) g h1, if_pos rfl]
        · rw [F4_v, if_neg (by omega), gu_f _ _ _ _ _ _ _ _ (by decide)]; exact g1
        · rw [F4_v, if_neg (by omega), gu_f _ _ _ _ _ _ _ _ (by decide), u2]; exact h1
        · rw [F4_v, if_neg (by omega), gu_f _ _ _ _ _ _ _ _ (by decide)]
        · rw [F138_f _ _ _ (by decide) (by decide), gu_f _ _ _ _ _ _ _ _ (by decide), gu_same]
        · have kc : ∀ f i j, ¬ f = 47 → ¬ f = 48 → ¬ f = 46 → ¬ f = 65 → F138 80 (80 * k') (gu (gu (F4 k' 10 0 (gu g 26 k' 0 0)) 65 0 0 0) 46 0 k' 0) f i j = if f = 1 ∧ i = k' ∧ 0 ≤ j ∧ j < 0 + 10 then g 2 k' j else gu g 26 k' 0 0 f i j := by
            intro f i j b1 b2 b3 b4
            rw [F138_f _ _ _ b1 b2, gu_f _ _ _ _ _ _ _ _ b3, gu_f _ _ _ _ _ _ _ _ b4, F4_v, gu_f _ _ _ _ 2 k' j _ (by decide)]
          have k46 : ∀ j, F138 80 (80 * k') (gu (gu (F4 k' 10 0 (gu g 26 k' 0 0)) 65 0 0 0) 46 0 k' 0) 46 0 j = if j = k' then 0 else g 46 0 j := by
            intro j
            rw [F138_f _ _ _ (by decide) (by decide)]
            by_cases e : j = k'
            · rw [e, gu_same, if_pos rfl]
            · rw [gu_k _ _ _ _ _ _ e, if_neg e, gu_f _ _ _ _ _ _ _ _ (by decide), F4_v, if_neg (by omega), gu_f _ _ _ _ _ _ _ _ (by decide)]
          have ks : ∀ f j, (f = 47 ∨ f = 48) → gu (gu (F4 k' 10 0 (gu g 26 k' 0 0)) 65 0 0 0) 46 0 k' 0 f 0 j = g f 0 j := by
            intro f j hf
            rw [gu_f _ _ _ _ _ _ _ _ (by omega), gu_f _ _ _ _ _ _ _ _ (by omega), F4_v, if_neg (by omega), gu_f _ _ _ _ _ _ _ _ (by omega)]
          have k48 : ∀ j, F138 80 (80 * k') (gu (gu (F4 k' 10 0 (gu g 26 k' 0 0)) 65 0 0 0) 46 0 k' 0) 48 0 j = g 48 0 j := fun j => (F138_8 j _ _ _).trans (ks 48 j (Or.inr rfl))
          have k47 : ∀ j, F138 80 (80 * k') (gu (gu (F4 k' 10 0 (gu g 26 k' 0 0)) 65 0 0 0) 46 0 k' 0) 47 0 j = if 80 * k' ≤ j ∧ j < 80 * k' + 80 ∧ g 48 0 j = 0 then 0 else g 47 0 j := fun j => by rw [F138_7, ks 48 j (Or.inr rfl), ks 47 j (Or.inl rfl)]
          have k65 : ago [1, 2, 3, 4, 5, 6, 7, 8, 14] g (F138 80 (80 * k') (gu (gu (F4 k' 10 0 (gu g 26 k' 0 0)) 65 0 0 0) 46 0 k' 0)) := fun j hj => by
            rw [F138_f _ _ _ (by decide) (by decide), gu_f _ _ _ _ _ _ _ _ (by decide), ag5_0 j hj, F4_v, if_neg (by omega), gu_f _ _ _ _ _ _ _ _ (by decide)]
          generalize F138 80 (80 * k') (gu (gu (F4 k' 10 0 (gu g 26 k' 0 0)) 65 0 0 0) 46 0 k' 0) = G at kc k46 k48 k47 k65 ⊢
          refine nxt_k hb (Rel_K hk (fun f hf i j => ?_) k65 (fun k2 hk2 e => ⟨fun j => ?_, ?_, fun l hl => ?_, fun l hl => ⟨?_, ?_⟩, fun t ht => ⟨?_, ?_⟩⟩) ⟨⟨?_, ?_, ?_, fun l hl => ?_⟩, fun l hl => ⟨?_, ?_, fun e he => ?_⟩⟩ r) (fun j => ?_)
          · have nf : ¬ f = 26 ∧ ¬ f = 1 ∧ ¬ f = 46 ∧ ¬ f = 47 ∧ ¬ f = 48 ∧ ¬ f = 65 := by
              simp at hf
              omega
            rw [kc f i j (by omega) (by omega) (by omega) (by omega), if_neg (by omega), gu_f _ _ _ _ _ _ _ _ (by omega)]
          · rw [kc 26 k2 j (by decide) (by decide) (by decide) (by decide), if_neg (by omega), gu_ne _ _ _ _ _ _ _ _ (fun y => e y.2.1)]
          · rw [k46, if_neg e]
          · rw [kc 49 0 _ (by decide) (by decide) (by decide) (by decide), if_neg (by omega), gu_f _ _ _ _ _ _ _ _ (by decide)]
          · rw [kc 1 k2 l (by decide) (by decide) (by decide) (by decide), if_neg (fun y => e y.2.1), gu_f _ _ _ _ _ _ _ _ (by decide)]
          · rw [kc 2 k2 l (by decide) (by decide) (by decide) (by decide), if_neg (by omega), gu_f _ _ _ _ _ _ _ _ (by decide)]
          · rw [k47, if_neg (by omega)]
          · rw [k48]
          · rw [kc 26 k' 0 (by decide) (by decide) (by decide) (by decide), if_neg (by omega), gu_same]; exact Or.inl rfl
          · rw [kc 26 k' 0 (by decide) (by decide) (by decide) (by decide), if_neg (by omega), gu_same, k46, if_pos rfl]
          · rw [kc 26 k' 1 (by decide) (by decide) (by decide) (by decide), if_neg (by omega), gu_k _ _ _ _ _ _ (by decide)]; exact u3
          · rw [kc 26 k' 1 (by decide) (by decide) (by decide) (by decide), if_neg (by omega), gu_k _ _ _ _ _ _ (by decide), kc 49 0 _ (by decide) (by decide) (by decide) (by decide), if_neg (by omega), gu_f _ _ _ _ _ _ _ _ (by decide)]
            exact u4 l hl
          · rw [kc 1 k' l (by decide) (by decide) (by decide) (by decide), if_pos ⟨rfl, rfl, by omega, by omega⟩]
            exact (uh l hl).2.1
          · rw [kc 2 k' l (by decide) (by decide) (by decide) (by decide), if_neg (by omega), gu_f _ _ _ _ _ _ _ _ (by decide)]
            exact (uh l hl).2.1
          · obtain ⟨v1, v2, v3, v4⟩ := (uh l hl).2.2 e he
            unfold rKe
            rw [k47, k48, kc 1 k' l (by decide) (by decide) (by decide) (by decide), if_pos (show 1 = 1 ∧ k' = k' ∧ 0 ≤ l ∧ l < 0 + 10 from ⟨rfl, rfl, by omega, by omega⟩), kc 2 k' l (by decide) (by decide) (by decide) (by decide), if_neg (show ¬ (2 = 1 ∧ k' = k' ∧ 0 ≤ l ∧ l < 0 + 10) by omega), gu_f _ _ _ _ 2 k' l _ (by decide), kc 17 0 _ (by decide) (by decide) (by decide) (by decide), if_neg (show ¬ (17 = 1 ∧ 0 = k' ∧ 0 ≤ 8 * l + e ∧ 8 * l + e < 0 + 10) by omega), gu_f _ _ _ _ 17 _ _ _ (by decide), kc 12 l e (by decide) (by decide) (by decide) (by decide), if_neg (show ¬ (12 = 1 ∧ l = k' ∧ 0 ≤ e ∧ e < 0 + 10) by omega), gu_f _ _ _ _ 12 _ _ _ (by decide)]
            refine ⟨?_, v2, id, fun y => v4 (v3 y)⟩
            by_cases hs : bt (g 2 k' l) e
            · rw [if_pos hs, if_neg (fun y => by rw [v2, bI_t _ hs] at y; exact absurd y.2.2 (by decide)), v1, if_pos (v3 hs)]
            · rw [if_neg hs, if_pos ⟨by omega, by omega, by rw [v2, bI_f _ hs]⟩]
          · rw [kc 0 0 j (by decide) (by decide) (by decide) (by decide), if_neg (by omega), gu_f _ _ _ _ _ _ _ _ (by decide)]
      · refine Or.inl ⟨gu g 26 k' 0 1, gu (gu (gu g 26 k' 0 1) 65 0 0 0) 46 0 k' 1, fun c s x o => ?_, fun c s x o => m_138u N L c s x o k' hN hk _ ?_ ?_, fun j => ?_, ?_, ?_⟩
        · rw [m_92 N L c s x o k' (by omega) hk 1 (Or.inr rfl) g h1, if_neg (by decide)]
        · rw [gu_f _ _ _ _ _ _ _ _ (by decide)]; exact g1
        · rw [gu_f _ _ _ _ _ _ _ _ (by decide), u2]; exact h1
        · rw [gu_f _ _ _ _ _ _ _ _ (by decide)]
        · rw [gu_f _ _ _ _ _ _ _ _ (by decide), gu_same]
        · have ko : out [26, 65, 46] g (gu (gu (gu g 26 k' 0 1) 65 0 0 0) 46 0 k' 1) := out_u (by decide) (out_u (by decide) (out_u (by decide) (out_r _ _)))
          have k65 : ago [1, 2, 3, 4, 5, 6, 7, 8, 14] g (gu (gu (gu g 26 k' 0 1) 65 0 0 0) 46 0 k' 1) := fun j hj => by
            rw [gu_f _ _ _ _ _ _ _ _ (by decide), ag5_0 j hj, gu_f _ _ _ _ _ _ _ _ (by decide)]
          have k26 : ∀ i j, gu (gu (gu g 26 k' 0 1) 65 0 0 0) 46 0 k' 1 26 i j = gu g 26 k' 0 1 26 i j := fun i j => by
            rw [gu_f _ _ _ _ _ _ _ _ (by decide), gu_f _ _ _ _ _ _ _ _ (by decide)]
          have k46 : ∀ j, ¬ j = k' → gu (gu (gu g 26 k' 0 1) 65 0 0 0) 46 0 k' 1 46 0 j = g 46 0 j := fun j e => by
            rw [gu_k _ _ _ _ _ _ e, gu_f _ _ _ _ _ _ _ _ (by decide), gu_f _ _ _ _ _ _ _ _ (by decide)]
          refine nxt_k hb (Rel_K hk (out_m ko (by decide)) k65 (fun k2 hk2 e => ⟨fun j => ?_, k46 k2 e, fun l hl => ko 49 (by decide) _ _, fun l hl => ⟨ko 1 (by decide) _ _, ko 2 (by decide) _ _⟩, fun t ht => ⟨ko 47 (by decide) _ _, ko 48 (by decide) _ _⟩⟩) ⟨⟨?_, ?_, ?_, fun l hl => ?_⟩, rKh_a (ag_o ko (by decide)) uh⟩ r) (fun j => ko 0 (by decide) _ _)
          · rw [k26, gu_ne _ _ _ _ _ _ _ _ (fun y => e y.2.1)]
          · rw [k26, gu_same]; exact Or.inr rfl
          · rw [k26, gu_same, gu_same]
          · rw [k26, gu_k _ _ _ _ _ _ (by decide)]; exact u3
          · rw [k26, gu_k _ _ _ _ _ _ (by decide), ko 49 (by decide)]; exact u4 l hl
  · exact Or.inr ⟨30, g, _, by decide, fun c s x o => m_92a N L c s x o k y h g, fun c s x o => m_138a N L c s x o k y g g1 h, fun _ => rfl, gu_same _ _ _ _ _, nxt_0 hb r⟩
theorem F139a_v (f j : Nat) (hf : f = 47 ∨ f = 48) : ∀ (d i : Nat) (g : mG), F139a d i g f 0 j = if i ≤ j ∧ j < i + d then 0 else g f 0 j := by
  intro d
  induction d with
  | zero => intro i g; rw [if_neg (by omega)]; rfl
  | succ d ih =>
    intro i g
    show F139a d (i + 1) (gu (gu g 47 0 i 0) 48 0 i 0) f 0 j = _
    rw [ih (i + 1)]
    have hv : gu (gu g 47 0 i 0) 48 0 i 0 f 0 j = if j = i then 0 else g f 0 j := by
      rcases hf with rfl | rfl <;> simp [gu]
    rw [hv]
    by_cases h1 : j = i
    · rw [if_pos h1, if_pos (show i ≤ j ∧ j < i + (d + 1) by omega)]
      split <;> rfl
    · rw [if_neg h1]
      by_cases h2 : i + 1 ≤ j ∧ j < i + 1 + d
      · rw [if_pos h2, if_pos (by omega)]
      · rw [if_neg h2, if_neg (by omega)]
theorem F139a_f (f i' j : Nat) (h1 : ¬ f = 47) (h2 : ¬ f = 48) : ∀ (d i : Nat) (g : mG), F139a d i g f i' j = g f i' j := by
  intro d
  induction d with
  | zero => exact fun _ _ => rfl
  | succ d ih =>
    intro i g
    show F139a d (i + 1) (gu (gu g 47 0 i 0) 48 0 i 0) f i' j = _
    rw [ih, gu_f _ _ _ _ _ _ _ _ h2, gu_f _ _ _ _ _ _ _ _ h1]
theorem F139b_f (k f i' j : Nat) (h1 : ¬ f = 49) : ∀ (d l : Nat) (g : mG), F139b k d l g f i' j = g f i' j := by
  intro d
  induction d with
  | zero => exact fun _ _ => rfl
  | succ d ih =>
    intro l g
    show F139b k d (l + 1) (gu g 49 0 (10 * k + l) 0) f i' j = _
    rw [ih, gu_f _ _ _ _ _ _ _ _ h1]
theorem F139b_v (k j : Nat) : ∀ (d l : Nat) (g : mG), F139b k d l g 49 0 j = if 10 * k + l ≤ j ∧ j < 10 * k + l + d then 0 else g 49 0 j := by
  intro d
  induction d with
  | zero => intro l g; rw [if_neg (by omega)]; rfl
  | succ d ih =>
    intro l g
    show F139b k d (l + 1) (gu g 49 0 (10 * k + l) 0) 49 0 j = _
    rw [ih (l + 1)]
    have hv : gu g 49 0 (10 * k + l) 0 49 0 j = if j = 10 * k + l then 0 else g 49 0 j := by simp [gu]
    rw [hv]
    by_cases h1 : j = 10 * k + l
    · rw [if_pos h1, if_pos (show 10 * k + l ≤ j ∧ j < 10 * k + l + (d + 1) by omega)]
      split <;> rfl
    · rw [if_neg h1]
      by_cases h2 : 10 * k + (l + 1) ≤ j ∧ j < 10 * k + (l + 1) + d
      · rw [if_pos h2, if_pos (by omega)]
      · rw [if_neg h2, if_neg (by omega)]
theorem op_93 (hp : pr N w q a) (hb : nb V n z M) (r : Rel N w q a V n z M g) (k : Int32) : opV N L 93 139 [.inl k] (cd 165) (nxt N w q a V g) g := by
  have hN : N ≤ 6 := hp.2.1
  have g1 := r.1.2.2.2.1
  by_cases h : ¬ k < 0 ∧ ¬ nI N ≤ k
  · obtain ⟨k', hk, rfl⟩ := inr_of (n := N) (by omega) h
    obtain ⟨⟨u1, u2, u3, u4⟩, uh⟩ := r.2.2.2.2.2.1 k' hk
    by_cases h1 : g 26 k' 0 = 0
    · have kc1 : ∀ f i j, ¬ f = 26 → ¬ f = 1 → ¬ f = 2 → gf (gf (gu g 26 k' 1 0) 1 k' 10 0) 2 k' 10 0 f i j = g f i j := fun f i j b1 b2 b3 => by
        rw [gf_f _ _ _ _ _ _ _ _ b3, gf_f _ _ _ _ _ _ _ _ b2, gu_f _ _ _ _ _ _ _ _ b1]
      refine Or.inl ⟨_, _, fun c s x o => m_93 N L c s x o k' (by omega) hk g h1, fun c s x o => m_139 N L c s x o k' hN hk _ ?_ ?_, fun j => kc1 0 0 j (by decide) (by decide) (by decide), ?_, ?_⟩
      · rw [kc1 65 0 1 (by decide) (by decide) (by decide)]; exact g1
      · rw [kc1 46 0 k' (by decide) (by decide) (by decide), u2]; exact h1
      · rw [F139b_f _ _ _ _ (by decide), F139a_f _ _ _ (by decide) (by decide), gu_same]
      · have kc : ∀ f i j, ¬ f = 26 → ¬ f = 1 → ¬ f = 2 → ¬ f = 47 → ¬ f = 48 → ¬ f = 49 → ¬ f = 65 → F139b k' 10 0 (F139a 80 (80 * k') (gu (gf (gf (gu g 26 k' 1 0) 1 k' 10 0) 2 k' 10 0) 65 0 0 0)) f i j = g f i j := fun f i j b1 b2 b3 b4 b5 b6 b7 => by
          rw [F139b_f _ _ _ _ b6, F139a_f _ _ _ b4 b5, gu_f _ _ _ _ _ _ _ _ b7, kc1 f i j b1 b2 b3]
        have k49 : ∀ j, F139b k' 10 0 (F139a 80 (80 * k') (gu (gf (gf (gu g 26 k' 1 0) 1 k' 10 0) 2 k' 10 0) 65 0 0 0)) 49 0 j = if 10 * k' ≤ j ∧ j < 10 * k' + 10 then 0 else g 49 0 j := fun j => by
          rw [F139b_v, F139a_f _ _ _ (by decide) (by decide), gu_f _ _ _ _ _ _ _ _ (by decide), kc1 49 0 j (by decide) (by decide) (by decide)]
          rfl
        have k47 : ∀ f j, (f = 47 ∨ f = 48) → F139b k' 10 0 (F139a 80 (80 * k') (gu (gf (gf (gu g 26 k' 1 0) 1 k' 10 0) 2 k' 10 0) 65 0 0 0)) f 0 j = if 80 * k' ≤ j ∧ j < 80 * k' + 80 then 0 else g f 0 j := fun f j hf => by
          rw [F139b_f _ _ _ _ (by omega), F139a_v f j hf, gu_f _ _ _ _ _ _ _ _ (by omega), kc1 f 0 j (by omega) (by omega) (by omega)]
        have k26 : ∀ i j, F139b k' 10 0 (F139a 80 (80 * k') (gu (gf (gf (gu g 26 k' 1 0) 1 k' 10 0) 2 k' 10 0) 65 0 0 0)) 26 i j = gu g 26 k' 1 0 26 i j := fun i j => by
          rw [F139b_f _ _ _ _ (by decide), F139a_f _ _ _ (by decide) (by decide), gu_f _ _ _ _ _ _ _ _ (by decide), gf_f _ _ _ _ _ _ _ _ (by decide), gf_f _ _ _ _ _ _ _ _ (by decide)]
        have k1 : ∀ f i j, (f = 1 ∨ f = 2) → j < 10 → F139b k' 10 0 (F139a 80 (80 * k') (gu (gf (gf (gu g 26 k' 1 0) 1 k' 10 0) 2 k' 10 0) 65 0 0 0)) f i j = if i = k' then 0 else g f i j := fun f i j hf hj => by
          rw [F139b_f _ _ _ _ (by omega), F139a_f _ _ _ (by omega) (by omega), gu_f _ _ _ _ _ _ _ _ (by omega)]
          rcases hf with rfl | rfl <;> simp [gf, gu, hj]
        have k65 : ago [1, 2, 3, 4, 5, 6, 7, 8, 14] g (F139b k' 10 0 (F139a 80 (80 * k') (gu (gf (gf (gu g 26 k' 1 0) 1 k' 10 0) 2 k' 10 0) 65 0 0 0))) := fun j hj => by
          rw [F139b_f _ _ _ _ (by decide), F139a_f _ _ _ (by decide) (by decide), ag5_0 j hj, kc1 65 0 j (by decide) (by decide) (by decide)]
        generalize F139b k' 10 0 (F139a 80 (80 * k') (gu (gf (gf (gu g 26 k' 1 0) 1 k' 10 0) 2 k' 10 0) 65 0 0 0)) = G at kc k49 k47 k26 k1 k65 ⊢
        refine nxt_k hb (Rel_K hk (fun f hf i j => ?_) k65 (fun k2 hk2 e => ⟨fun j => ?_, ?_, fun l hl => ?_, fun l hl => ⟨?_, ?_⟩, fun t ht => ⟨?_, ?_⟩⟩) ⟨⟨?_, ?_, ?_, fun l hl => ?_⟩, fun l hl => ⟨?_, ?_, fun e he => ?_⟩⟩ r) (fun j => kc 0 0 j (by decide) (by decide) (by decide) (by decide) (by decide) (by decide) (by decide))
        · have nf : ¬ f = 26 ∧ ¬ f = 1 ∧ ¬ f = 2 ∧ ¬ f = 47 ∧ ¬ f = 48 ∧ ¬ f = 49 ∧ ¬ f = 65 := by
            simp at hf
            omega
          exact kc f i j nf.1 nf.2.1 nf.2.2.1 nf.2.2.2.1 nf.2.2.2.2.1 nf.2.2.2.2.2.1 nf.2.2.2.2.2.2
        · rw [k26, gu_ne _ _ _ _ _ _ _ _ (fun y => e y.2.1)]
        · exact kc 46 0 k2 (by decide) (by decide) (by decide) (by decide) (by decide) (by decide) (by decide)
        · rw [k49, if_neg (by omega)]
        · rw [k1 1 k2 l (Or.inl rfl) hl, if_neg e]
        · rw [k1 2 k2 l (Or.inr rfl) hl, if_neg e]
        · rw [k47 47 _ (Or.inl rfl), if_neg (by omega)]
        · rw [k47 48 _ (Or.inr rfl), if_neg (by omega)]
        · rw [k26, gu_k _ _ _ _ _ _ (by decide)]; exact u1
        · rw [k26, gu_k _ _ _ _ _ _ (by decide), kc 46 0 k' (by decide) (by decide) (by decide) (by decide) (by decide) (by decide) (by decide)]; exact u2
        · rw [k26, gu_same]; exact m10_0
        · rw [k26, gu_same, k49, if_pos (by omega)]
          exact ⟨fun y => absurd y (bt10_0 hl), fun y => absurd rfl y⟩
        · rw [k1 1 k' l (Or.inl rfl) hl, if_pos rfl]; exact m6_0
        · rw [k1 2 k' l (Or.inr rfl) hl, if_pos rfl]; exact m6_0
        · have z1 : G 1 k' l = 0 := by rw [k1 1 k' l (Or.inl rfl) hl, if_pos rfl]
          have z2 : G 2 k' l = 0 := by rw [k1 2 k' l (Or.inr rfl) hl, if_pos rfl]
          have z3 : G 47 0 (80 * k' + 8 * l + e) = 0 := by rw [k47 47 _ (Or.inl rfl), if_pos (by omega)]
          have z4 : G 48 0 (80 * k' + 8 * l + e) = 0 := by rw [k47 48 _ (Or.inr rfl), if_pos (by omega)]
          unfold rKe
          rw [z1, z2, z3, z4]
          exact ⟨(if_neg (bt_0 he)).symm, (bI_f _ (bt_0 he)).symm, id, fun y => absurd y (bt_0 he)⟩
    · exact Or.inr ⟨31, g, _, by decide, fun c s x o => m_93s N L c s x o k' (by omega) hk g h1, fun c s x o => m_139s N L c s x o k' hN hk g g1 (by rw [u2]; exact h1), fun _ => rfl, gu_same _ _ _ _ _, nxt_0 hb r⟩
  · exact Or.inr ⟨30, g, _, by decide, fun c s x o => m_93a N L c s x o k h g, fun c s x o => m_139a N L c s x o k g g1 h, fun _ => rfl, gu_same _ _ _ _ _, nxt_0 hb r⟩
end O2
