/-! attach, detach, permit -/
section O3
variable {N w q a V n z M : Nat} {g : mG} (L : Nat)
/-- only delivery d changes -/
theorem Rel_D {d : Nat} {g' : mG} (h : out [7, 9, 10, 22, 59, 60, 61, 62, 65, 63, 0] g g') (h5 : ago [1, 2, 3, 4, 5, 6, 7, 8, 14] g g') (ho : ∀ d', d' < 6 → ¬ d' = d → ldo d' g g' ∧ ∀ q, q < 4 → g' 9 d' q = g 9 d' q) (hv : ∀ t l, t < 2 → l < 10 → g' 22 t l = g 22 t l) (hn : rD d g') (r : Rel N w q a V n z M g) : Rel N w q a V n z M g' := by
  obtain ⟨a1, a2, a3, a4, a5, a6, a7, a8, a9, a10⟩ := r
  have s5 : ∀ js : List Nat, (∀ j, j ∈ js → j ∈ [1, 2, 3, 4, 5, 6, 7, 8, 14]) → ago js g g' := fun js hs j hj => h5 j (hs j hj)
  refine ⟨rP_c (ag_o h (by decide)) (s5 _ (by decide)) a1, rM_c (ag_o h (by decide)) (s5 _ (by decide)) a2, rLL_c (ag_o h (by decide)) a3, rS_c (ag_o h (by decide)) (s5 _ (by decide)) a4, rH_c (ag_o h (by decide)) a5, fun k hk => ⟨rKu_a (ag_o h (by decide)) (a6 k hk).1, rKh_a (ag_o h (by decide)) (a6 k hk).2⟩, fun b hb => rB_a (ag_o h (by decide)) (h5 4 (by decide)) (a7 b hb), rW_c (ag_o h (by decide)) (s5 _ (by decide)) a8, fun d' hd' => ?_, fun t ht => rV_c (fun l hl => hv t l ht hl) (fun u _ => h 40 (by decide) 0 _) (a10 t ht)⟩
  by_cases e : d' = d
  · subst e; exact hn
  · exact rD_o (ho d' hd' e).2 (ho d' hd' e).1 (a9 d' hd')
theorem wk_z {b : Nat} (hb : b < 3) (r : Rel N w q a V n z M g) : (¬ g 50 0 b = 0 ∧ ¬ g 51 0 b = 0) ↔ ¬ g 28 b 1 = 0 := by
  obtain ⟨ph, l, ve, e, c1, _, _⟩ := r.2.2.2.2.2.2.1 b hb
  obtain ⟨c1, c2, c3, c4, c5, c6, c7, c8, _⟩ := c1
  rw [c5, c7, c8]
  refine ⟨fun y => y.2, fun y => ⟨fun x => y (by rw [c6 x]; rfl), y⟩⟩
theorem pos_z {r : Nat} (hr : r ≤ 1000) : ¬ nI (r + 1) ≤ 0 := by
  rw [show (nI (r + 1) ≤ 0) = (r + 1 ≤ 0) from iI_le (b := 0) (by omega) (by omega)]
  omega
theorem b_in {b t q : Int32} : ((¬ b < 0 ∧ ¬ 2 < b) ∧ (¬ t < 0 ∧ ¬ 2 ≤ t) ∧ (¬ q < 0 ∧ ¬ 4 ≤ q)) ↔ ((¬ b < 0 ∧ ¬ 3 ≤ b) ∧ (¬ t < 0 ∧ ¬ 2 ≤ t) ∧ (¬ q < 0 ∧ ¬ 4 ≤ q)) := and_congr (i_b3 b) Iff.rfl
theorem op_78 (hb : nb V n z M) (r : Rel N w q a V n z M g) (b t c : Int32) : opV N L 78 124 [.inl b, .inl t, .inl c] (cd 157) (nxt N w q a V g) g := by
  by_cases h : (¬ b < 0 ∧ ¬ 3 ≤ b) ∧ (¬ t < 0 ∧ ¬ 2 ≤ t) ∧ (¬ c < 0 ∧ ¬ 4 ≤ c)
  · obtain ⟨h1, h2, h3⟩ := h
    obtain ⟨b', hb', rfl⟩ := inr_of (n := 3) (by decide) h1
    obtain ⟨t', ht', rfl⟩ := inr_of (n := 2) (by decide) h2
    obtain ⟨c', hc', rfl⟩ := inr_of (n := 4) (by decide) h3
    have hD := r.2.2.2.2.2.2.2.2.1 (2 * b' + t') (by omega)
    obtain ⟨⟨d1, d2, d3⟩, d4, d5⟩ := hD
    have ei : 8 * b' + 4 * t' + c' = 4 * (2 * b' + t') + c' := by omega
    have wk := wk_z hb' r
    by_cases p : g 28 b' 1 = 0 ∨ bt (g 7 (2 * b' + t') 0) c'
    · refine Or.inr ⟨31, g, gu g 65 0 0 2, by decide, fun c s x o => m_78s N L c s x o b' t' c' hb' ht' hc' g p, fun c s x o => ?_, fun _ => rfl, gu_same _ _ _ _ _, nxt_0 hb r⟩
      rw [m_124 N L c s x o b' t' c' hb' ht' hc' g, if_neg]
      intro y
      rcases p with p | p
      · exact wk.mp y.1 p
      · obtain ⟨r', hr, _, e2⟩ := (d2 c' hc').1 p
        rw [ei, e2] at y
        exact pos_z hr y.2
    · have p1 : ¬ g 28 b' 1 = 0 := fun y => p (Or.inl y)
      have p2 : ¬ bt (g 7 (2 * b' + t') 0) c' := fun y => p (Or.inr y)
      refine Or.inl ⟨_, gu (gu (gu (gu g 7 (2 * b' + t') 0 (g 7 (2 * b' + t') 0 ||| 1 <<< (nI c' &&& 31))) 9 (2 * b' + t') c' 0) 65 0 0 0) 61 0 (8 * b' + 4 * t' + c') 1, fun c s x o => m_78 N L c s x o b' t' c' hb' ht' hc' g p1 p2, fun c s x o => ?_, fun j => ?_, ?_, ?_⟩
      · rw [m_124 N L c s x o b' t' c' hb' ht' hc', if_pos]
        refine ⟨?_, ?_⟩
        · rw [gu_f _ _ _ _ _ _ _ _ (by decide), gu_f _ _ _ _ _ _ _ _ (by decide), gu_f _ _ _ _ _ _ _ _ (by decide), gu_f _ _ _ _ _ _ _ _ (by decide)]
          exact wk.mpr p1
        · rw [gu_f _ _ _ _ _ _ _ _ (by decide), gu_f _ _ _ _ _ _ _ _ (by decide), ei, (d2 c' hc').2 p2]
          decide
      · rw [gu_f _ _ _ _ _ _ _ _ (by decide), gu_f _ _ _ _ _ _ _ _ (by decide)]
      · rw [gu_f _ _ _ _ _ _ _ _ (by decide), gu_same]
      · rw [ei]
        have ko : out [7, 9, 65, 61] g (gu (gu (gu (gu g 7 (2 * b' + t') 0 (g 7 (2 * b' + t') 0 ||| 1 <<< (nI c' &&& 31))) 9 (2 * b' + t') c' 0) 65 0 0 0) 61 0 (4 * (2 * b' + t') + c') 1) := out_u (by decide) (out_u (by decide) (out_u (by decide) (out_u (by decide) (out_r _ _))))
        have k65 : ago [1, 2, 3, 4, 5, 6, 7, 8, 14] g (gu (gu (gu (gu g 7 (2 * b' + t') 0 (g 7 (2 * b' + t') 0 ||| 1 <<< (nI c' &&& 31))) 9 (2 * b' + t') c' 0) 65 0 0 0) 61 0 (4 * (2 * b' + t') + c') 1) := fun j hj => by
          rw [gu_f _ _ _ _ _ _ _ _ (by decide), ag5_0 j hj, gu_f _ _ _ _ _ _ _ _ (by decide), gu_f _ _ _ _ _ _ _ _ (by decide)]
        have k7 : ∀ i j, gu (gu (gu (gu g 7 (2 * b' + t') 0 (g 7 (2 * b' + t') 0 ||| 1 <<< (nI c' &&& 31))) 9 (2 * b' + t') c' 0) 65 0 0 0) 61 0 (4 * (2 * b' + t') + c') 1 7 i j = gu g 7 (2 * b' + t') 0 (g 7 (2 * b' + t') 0 ||| 1 <<< (nI c' &&& 31)) 7 i j := fun i j => by
          rw [gu_f _ _ _ _ _ _ _ _ (by decide), gu_f _ _ _ _ _ _ _ _ (by decide), gu_f _ _ _ _ _ _ _ _ (by decide)]
        have k9 : ∀ i j, gu (gu (gu (gu g 7 (2 * b' + t') 0 (g 7 (2 * b' + t') 0 ||| 1 <<< (nI c' &&& 31))) 9 (2 * b' + t') c' 0) 65 0 0 0) 61 0 (4 * (2 * b' + t') + c') 1 9 i j = if i = 2 * b' + t' ∧ j = c' then 0 else g 9 i j := fun i j => by
          rw [gu_f _ _ _ _ _ _ _ _ (by decide), gu_f _ _ _ _ _ _ _ _ (by decide)]
          simp [gu]
        have k61 : ∀ j, gu (gu (gu (gu g 7 (2 * b' + t') 0 (g 7 (2 * b' + t') 0 ||| 1 <<< (nI c' &&& 31))) 9 (2 * b' + t') c' 0) 65 0 0 0) 61 0 (4 * (2 * b' + t') + c') 1 61 0 j = if j = 4 * (2 * b' + t') + c' then 1 else g 61 0 j := fun j => by
          simp [gu]
        generalize gu (gu (gu (gu g 7 (2 * b' + t') 0 (g 7 (2 * b' + t') 0 ||| 1 <<< (nI c' &&& 31))) 9 (2 * b' + t') c' 0) 65 0 0 0) 61 0 (4 * (2 * b' + t') + c') 1 = G at ko k65 k7 k9 k61 ⊢
        generalize hd : 2 * b' + t' = d at *
        refine nxt_k hb (Rel_D (d := d) (out_m ko (by decide)) k65 (fun d' hd' e => ⟨⟨fun j hj => ?_, fun y hy => ?_, ko 62 (by decide) _ _, fun l hl => ko 22 (by decide) _ _, fun t ht => ⟨ko 59 (by decide) _ _, ko 10 (by decide) _ _, ko 60 (by decide) _ _⟩⟩, fun y hy => ?_⟩) (fun t l _ _ => ko 22 (by decide) _ _) ⟨⟨?_, fun y hy => ?_, ?_⟩, rDa_c (fun _ _ => ko 22 (by decide) _ _) (fun _ _ => ko 59 (by decide) _ _) d4, rDs_c (fun _ _ => ko 22 (by decide) _ _) (fun _ _ => ko 10 (by decide) _ _) (fun _ _ => ko 60 (by decide) _ _) d5⟩ r) (fun j => ko 0 (by decide) _ _)
        · rw [k7, gu_ne _ _ _ _ _ _ _ _ (fun y => e y.2.1)]
        · rw [k61, if_neg (by omega)]
        · rw [k9, if_neg (fun x => e x.1)]
        · rw [k7, gu_same]; exact m6_or d1 (m6_sh (by omega))
        · rw [k7, gu_same, k9, k61, bt_or d1 (m6_sh (by omega)) (by omega), bt_sh (by omega) (by omega)]
          by_cases e : y = c'
          · subst e
            rw [if_pos ⟨rfl, rfl⟩, if_pos rfl]
            exact ⟨fun _ => ⟨0, by omega, rfl, rfl⟩, fun x => absurd (Or.inr rfl) x⟩
          · rw [if_neg (fun x => e x.2), if_neg (by omega)]
            exact ⟨fun x => (d2 y hy).1 (x.resolve_right e), fun x => (d2 y hy).2 (fun u => x (Or.inl u))⟩
        · rw [k7, gu_k _ _ _ _ _ _ (by decide), ko 62 (by decide)]; exact d3
  · exact Or.inr ⟨30, g, _, by decide, fun c' s x o => m_78a N L c' s x o b t c h g, fun c' s x o => m_124o N L c' s x o b t c g (fun y => h (b_in.mp y)), fun _ => rfl, gu_same _ _ _ _ _, nxt_0 hb r⟩
theorem F18_v (d f i j : Nat) (v : Int32) : ∀ (m e : Nat) (g : mG), F18 d v m e g f i j = if f = 10 ∧ i = d ∧ e ≤ j ∧ j < e + m ∧ g 10 d j = v then -1 else g f i j := by
  intro m
  induction m with
  | zero => intro e g; rw [if_neg (by omega)]; rfl
  | succ m ih =>
    intro e g
    show F18 d v m (e + 1) (if g 10 d e = v then gu g 10 d e (-1) else g) f i j = _
    rw [ih (e + 1)]
    by_cases h0 : f = 10 ∧ i = d
    · obtain ⟨rfl, rfl⟩ := h0
      by_cases h1 : j = e
      · subst h1
        rw [if_neg (by omega)]
        by_cases h2 : g 10 i j = v
        · rw [if_pos h2, gu_same, if_pos ⟨rfl, rfl, by omega, by omega, h2⟩]
        · rw [if_neg h2, if_neg (fun y => h2 y.2.2.2.2)]
      · have hv : (if g 10 i e = v then gu g 10 i e (-1) else g) 10 i j = g 10 i j := by
          split
          · exact gu_k _ _ _ _ _ _ h1
          · rfl
        rw [hv]
        by_cases h2 : e + 1 ≤ j ∧ j < e + 1 + m ∧ g 10 i j = v
        · rw [if_pos ⟨rfl, rfl, h2.1, h2.2.1, h2.2.2⟩, if_pos ⟨rfl, rfl, by omega, by omega, h2.2.2⟩]
        · rw [if_neg (fun y => h2 y.2.2), if_neg (fun y => h2 ⟨by omega, by omega, y.2.2.2.2⟩)]
    · have hv : (if g 10 d e = v then gu g 10 d e (-1) else g) f i j = g f i j := by
        split
        · exact gu_ne _ _ _ _ _ _ _ _ (fun y => h0 ⟨y.1, y.2.1⟩)
        · rfl
      rw [hv, if_neg (show ¬ (f = 10 ∧ i = d ∧ e ≤ j ∧ j < e + (m + 1) ∧ g 10 d j = v) from fun y => h0 ⟨y.1, y.2.1⟩), if_neg (fun y => h0 ⟨y.1, y.2.1⟩)]
theorem F127_f (v : Int32) (f i j : Nat) (hf : ¬ f = 60) : ∀ (d k : Nat) (g : mG), F127 v d k g f i j = g f i j := by
  intro d
  induction d with
  | zero => exact fun _ _ => rfl
  | succ d ih =>
    intro k g
    show F127 v d (k + 1) (gu g 60 0 k _) f i j = _
    rw [ih, gu_f _ _ _ _ _ _ _ _ hf]
theorem F127_v (v : Int32) (j : Nat) : ∀ (d k : Nat) (g : mG), F127 v d k g 60 0 j = if k ≤ j ∧ j < k + d ∧ g 60 0 j = v ∧ g 59 0 j = 0 then 0 else g 60 0 j := by
  intro d
  induction d with
  | zero => intro k g; rw [if_neg (by omega)]; rfl
  | succ d ih =>
    intro k g
    show F127 v d (k + 1) (gu g 60 0 k (if g 60 0 k = v ∧ g 59 0 k = 0 then 0 else g 60 0 k)) 60 0 j = _
    rw [ih (k + 1), gu_f _ _ _ _ 59 0 j _ (by decide)]
    by_cases h1 : j = k
    · subst h1
      rw [if_neg (by omega), gu_same]
      by_cases h2 : g 60 0 j = v ∧ g 59 0 j = 0
      · rw [if_pos h2, if_pos ⟨by omega, by omega, h2⟩]
      · rw [if_neg h2, if_neg (fun y => h2 y.2.2)]
    · rw [gu_k _ _ _ _ _ _ h1]
      by_cases h2 : k + 1 ≤ j ∧ j < k + 1 + d ∧ g 60 0 j = v ∧ g 59 0 j = 0
      · rw [if_pos h2, if_pos ⟨by omega, by omega, h2.2.2⟩]
      · rw [if_neg h2, if_neg (fun y => h2 ⟨by omega, by omega, y.2.2⟩)]
theorem op_79 (hb : nb V n z M) (r : Rel N w q a V n z M g) (b t c : Int32) : opV N L 79 127 [.inl b, .inl t, .inl c] (cd 158) (nxt N w q a V g) g := by
  by_cases h : (¬ b < 0 ∧ ¬ 3 ≤ b) ∧ (¬ t < 0 ∧ ¬ 2 ≤ t) ∧ (¬ c < 0 ∧ ¬ 4 ≤ c)
  · obtain ⟨h1, h2, h3⟩ := h
    obtain ⟨b', hb', rfl⟩ := inr_of (n := 3) (by decide) h1
    obtain ⟨t', ht', rfl⟩ := inr_of (n := 2) (by decide) h2
    obtain ⟨c', hc', rfl⟩ := inr_of (n := 4) (by decide) h3
    have hD := r.2.2.2.2.2.2.2.2.1 (2 * b' + t') (by omega)
    obtain ⟨⟨d1, d2, d3⟩, d4, d5⟩ := hD
    have ei : 8 * b' + 4 * t' + c' = 4 * (2 * b' + t') + c' := by omega
    have wk := wk_z hb' r
    by_cases p : g 28 b' 1 = 0 ∨ ¬ bt (g 7 (2 * b' + t') 0) c'
    · refine Or.inr ⟨31, g, gu g 65 0 0 2, by decide, fun c s x o => m_79s N L c s x o b' t' c' hb' ht' hc' g p, fun c s x o => m_127s N L c s x o b' t' c' hb' ht' hc' g ?_, fun _ => rfl, gu_same _ _ _ _ _, nxt_0 hb r⟩
      rcases p with p | p
      · exact Or.inl (fun y => wk.mp y p)
      · exact Or.inr (by rw [ei]; exact (d2 c' hc').2 p)
    · have p1 : ¬ g 28 b' 1 = 0 := fun y => p (Or.inl y)
      have p2 : bt (g 7 (2 * b' + t') 0) c' := Classical.byContradiction (fun y => p (Or.inr y))
      obtain ⟨r', hr, e1, e2⟩ := (d2 c' hc').1 p2
      have kf : ∀ f i j, ¬ f = 10 → ¬ f = 7 → F18 (2 * b' + t') (nI c') 80 0 (gu g 7 (2 * b' + t') 0 (g 7 (2 * b' + t') 0 &&& (1 <<< (nI c' &&& 31) ^^^ (-1)))) f i j = g f i j := fun f i j b1 b2 => by
        rw [F18_v, if_neg (fun y => b1 y.1), gu_f _ _ _ _ _ _ _ _ b2]
      refine Or.inl ⟨_, _, fun c s x o => m_79 N L c s x o b' t' c' hb' ht' hc' g p1 p2, fun c s x o => m_127 N L c s x o b' t' c' hb' ht' hc' _ ?_ ?_, fun j => kf 0 0 j (by decide) (by decide), ?_, ?_⟩
      · rw [kf 50 0 b' (by decide) (by decide), kf 51 0 b' (by decide) (by decide)]; exact wk.mpr p1
      · rw [kf 61 0 _ (by decide) (by decide), ei, e2]
        exact fun y => pos_z hr (by rw [y]; decide)
      · rw [F127_f _ _ _ _ (by decide), gu_f _ _ _ _ _ _ _ _ (by decide), gu_same]
      · rw [ei, show 160 * b' + 80 * t' = 80 * (2 * b' + t') by omega]
        have ko : out [7, 10, 65, 61, 60] g (F127 (nI (c' + 1)) 80 (80 * (2 * b' + t')) (gu (gu (F18 (2 * b' + t') (nI c') 80 0 (gu g 7 (2 * b' + t') 0 (g 7 (2 * b' + t') 0 &&& (1 <<< (nI c' &&& 31) ^^^ (-1))))) 65 0 0 0) 61 0 (4 * (2 * b' + t') + c') 0)) := fun f hf i j => by
          have nf : ¬ f = 7 ∧ ¬ f = 10 ∧ ¬ f = 65 ∧ ¬ f = 61 ∧ ¬ f = 60 := by
            simp at hf
            omega
          rw [F127_f _ _ _ _ nf.2.2.2.2, gu_f _ _ _ _ _ _ _ _ nf.2.2.2.1, gu_f _ _ _ _ _ _ _ _ nf.2.2.1, kf f i j nf.2.1 nf.1]
        have k65 : ago [1, 2, 3, 4, 5, 6, 7, 8, 14] g (F127 (nI (c' + 1)) 80 (80 * (2 * b' + t')) (gu (gu (F18 (2 * b' + t') (nI c') 80 0 (gu g 7 (2 * b' + t') 0 (g 7 (2 * b' + t') 0 &&& (1 <<< (nI c' &&& 31) ^^^ (-1))))) 65 0 0 0) 61 0 (4 * (2 * b' + t') + c') 0)) := fun j hj => by
          rw [F127_f _ _ _ _ (by decide), gu_f _ _ _ _ _ _ _ _ (by decide), ag5_0 j hj, kf 65 0 j (by decide) (by decide)]
        have k7 : ∀ i j, F127 (nI (c' + 1)) 80 (80 * (2 * b' + t')) (gu (gu (F18 (2 * b' + t') (nI c') 80 0 (gu g 7 (2 * b' + t') 0 (g 7 (2 * b' + t') 0 &&& (1 <<< (nI c' &&& 31) ^^^ (-1))))) 65 0 0 0) 61 0 (4 * (2 * b' + t') + c') 0) 7 i j = gu g 7 (2 * b' + t') 0 (g 7 (2 * b' + t') 0 &&& (1 <<< (nI c' &&& 31) ^^^ (-1))) 7 i j := fun i j => by
          rw [F127_f _ _ _ _ (by decide), gu_f _ _ _ _ _ _ _ _ (by decide), gu_f _ _ _ _ _ _ _ _ (by decide), F18_v, if_neg (by omega)]
        have k10 : ∀ i j, j < 80 → F127 (nI (c' + 1)) 80 (80 * (2 * b' + t')) (gu (gu (F18 (2 * b' + t') (nI c') 80 0 (gu g 7 (2 * b' + t') 0 (g 7 (2 * b' + t') 0 &&& (1 <<< (nI c' &&& 31) ^^^ (-1))))) 65 0 0 0) 61 0 (4 * (2 * b' + t') + c') 0) 10 i j = if i = 2 * b' + t' ∧ g 10 (2 * b' + t') j = nI c' then -1 else g 10 i j := fun i j hj => by
          rw [F127_f _ _ _ _ (by decide), gu_f _ _ _ _ _ _ _ _ (by decide), gu_f _ _ _ _ _ _ _ _ (by decide), F18_v, gu_f _ _ _ _ 10 _ _ _ (by decide), gu_f _ _ _ _ 10 _ _ _ (by decide)]
          by_cases y : i = 2 * b' + t' ∧ g 10 (2 * b' + t') j = nI c'
          · rw [if_pos y, if_pos ⟨rfl, y.1, by omega, by omega, y.2⟩]
          · rw [if_neg y, if_neg (fun x => y ⟨x.2.1, x.2.2.2.2⟩)]
        have k61 : ∀ j, F127 (nI (c' + 1)) 80 (80 * (2 * b' + t')) (gu (gu (F18 (2 * b' + t') (nI c') 80 0 (gu g 7 (2 * b' + t') 0 (g 7 (2 * b' + t') 0 &&& (1 <<< (nI c' &&& 31) ^^^ (-1))))) 65 0 0 0) 61 0 (4 * (2 * b' + t') + c') 0) 61 0 j = if j = 4 * (2 * b' + t') + c' then 0 else g 61 0 j := fun j => by
          rw [F127_f _ _ _ _ (by decide)]
          by_cases y : j = 4 * (2 * b' + t') + c'
          · rw [if_pos y, y, gu_same]
          · rw [if_neg y, gu_k _ _ _ _ _ _ y, gu_f _ _ _ _ _ _ _ _ (by decide), kf 61 0 j (by decide) (by decide)]
        have k60 : ∀ j, F127 (nI (c' + 1)) 80 (80 * (2 * b' + t')) (gu (gu (F18 (2 * b' + t') (nI c') 80 0 (gu g 7 (2 * b' + t') 0 (g 7 (2 * b' + t') 0 &&& (1 <<< (nI c' &&& 31) ^^^ (-1))))) 65 0 0 0) 61 0 (4 * (2 * b' + t') + c') 0) 60 0 j = if 80 * (2 * b' + t') ≤ j ∧ j < 80 * (2 * b' + t') + 80 ∧ g 60 0 j = nI (c' + 1) ∧ g 59 0 j = 0 then 0 else g 60 0 j := fun j => by
          rw [F127_v, gu_f _ _ _ _ 60 _ _ _ (by decide), gu_f _ _ _ _ 60 _ _ _ (by decide), kf 60 0 j (by decide) (by decide), gu_f _ _ _ _ 59 _ _ _ (by decide), gu_f _ _ _ _ 59 _ _ _ (by decide), kf 59 0 j (by decide) (by decide)]
        generalize F127 (nI (c' + 1)) 80 (80 * (2 * b' + t')) (gu (gu (F18 (2 * b' + t') (nI c') 80 0 (gu g 7 (2 * b' + t') 0 (g 7 (2 * b' + t') 0 &&& (1 <<< (nI c' &&& 31) ^^^ (-1))))) 65 0 0 0) 61 0 (4 * (2 * b' + t') + c') 0) = G at ko k65 k7 k10 k61 k60 ⊢
        generalize hd : 2 * b' + t' = d at *
        refine nxt_k hb (Rel_D (d := d) (out_m ko (by decide)) k65 (fun d' hd' e => ⟨⟨fun j hj => ?_, fun y hy => ?_, ko 62 (by decide) _ _, fun l hl => ko 22 (by decide) _ _, fun t ht => ⟨ko 59 (by decide) _ _, ?_, ?_⟩⟩, fun y hy => ko 9 (by decide) _ _⟩) (fun t l _ _ => ko 22 (by decide) _ _) ⟨⟨?_, fun y hy => ?_, ?_⟩, rDa_c (fun _ _ => ko 22 (by decide) _ _) (fun _ _ => ko 59 (by decide) _ _) d4, fun u hu hx => ?_⟩ r) (fun j => ko 0 (by decide) _ _)
        · rw [k7, gu_ne _ _ _ _ _ _ _ _ (fun y => e y.2.1)]
        · rw [k61, if_neg (by omega)]
        · rw [k10 _ _ ht, if_neg (fun y => e y.1)]
        · rw [k60, if_neg (by omega)]
        · rw [k7, gu_same]; exact m6_an d1 (m6_sh (by omega))
        · rw [k7, gu_same, ko 9 (by decide), k61, bt_an d1 (m6_sh (by omega)) (by omega), bt_sh (by omega) (by omega)]
          by_cases e : y = c'
          · subst e
            rw [if_pos rfl]
            exact ⟨fun x => absurd rfl x.2, fun _ => rfl⟩
          · rw [if_neg (by omega)]
            exact ⟨fun x => (d2 y hy).1 x.1, fun x => (d2 y hy).2 (fun u => x ⟨u, e⟩)⟩
        · rw [k7, gu_k _ _ _ _ _ _ (by decide), ko 62 (by decide)]; exact d3
        · rw [ko 22 (by decide)] at hx
          have h59 : g 59 0 (80 * d + u) = 0 := by
            have := (d4 (u / 8) (by omega)).2 (u % 8) (by omega)
            rw [show 80 * d + 8 * (u / 8) + u % 8 = 80 * d + u by omega] at this
            rw [this, bI_f _ hx]
          unfold rDt
          rw [k10 _ _ hu, k60]
          rcases d5 u hu hx with ⟨s1, s2⟩ | ⟨y, s0, s1, s2, s3⟩
          · have e1 : ¬ (d = d ∧ g 10 d u = nI c') := fun x => by
              have := x.2
              rw [s1] at this
              exact absurd this.symm (by rw [nI_m1 (show c' < 65536 by omega)]; exact id)
            rw [if_neg e1, s1, s2]
            exact Or.inl ⟨rfl, by split <;> rfl⟩
          · by_cases e : y = c'
            · subst e
              rw [if_pos ⟨rfl, s2⟩, if_pos ⟨by omega, by omega, s3, h59⟩]
              exact Or.inl ⟨rfl, rfl⟩
            · have n1 : ¬ nI y = nI c' := fun x => e ((iI_eq (by omega) (by omega)).mp x)
              have n2 : ¬ nI (y + 1) = nI (c' + 1) := fun x => e (by have := (iI_eq (a := y + 1) (b := c' + 1) (by omega) (by omega)).mp x; omega)
              rw [if_neg (fun x => n1 (by rw [← s2]; exact x.2)), if_neg (fun x => n2 (by rw [← s3]; exact x.2.2.1))]
              exact Or.inr ⟨y, s0, s1, s2, s3⟩
  · exact Or.inr ⟨30, g, _, by decide, fun c' s x o => m_79a N L c' s x o b t c h g, fun c' s x o => m_127a N L c' s x o b t c g (fun y => h (b_in.mp y)), fun _ => rfl, gu_same _ _ _ _ _, nxt_0 hb r⟩
theorem op_81 (hb : nb V n z M) (r : Rel N w q a V n z M g) (b t c m : Int32) : opV N L 81 128 [.inl b, .inl t, .inl c, .inl m] (cd 159) (nxt N w q a V g) g := by
  by_cases hm : ¬ m < 1 ∧ ¬ 100 < m
  · have hm2 : m ≤ 100 := Int32.not_lt.mp hm.2
    by_cases h : (¬ b < 0 ∧ ¬ 3 ≤ b) ∧ (¬ t < 0 ∧ ¬ 2 ≤ t) ∧ (¬ c < 0 ∧ ¬ 4 ≤ c)
    · obtain ⟨h1, h2, h3⟩ := h
      obtain ⟨b', hb', rfl⟩ := inr_of (n := 3) (by decide) h1
      obtain ⟨t', ht', rfl⟩ := inr_of (n := 2) (by decide) h2
      obtain ⟨c', hc', rfl⟩ := inr_of (n := 4) (by decide) h3
      have hD := r.2.2.2.2.2.2.2.2.1 (2 * b' + t') (by omega)
      obtain ⟨⟨d1, d2, d3⟩, d4, d5⟩ := hD
      have ei : 8 * b' + 4 * t' + c' = 4 * (2 * b' + t') + c' := by omega
      have wk := wk_z hb' r
      by_cases p : g 28 b' 1 = 0 ∨ ¬ bt (g 7 (2 * b' + t') 0) c'
      · refine Or.inr ⟨31, g, gu g 65 0 0 2, by decide, fun c s x o => m_81s N L c s x o b' t' c' m hm.1 hm.2 hb' ht' hc' g p, fun c s x o => m_128s N L c s x o b' t' c' m hb' ht' hc' hm.1 hm2 g ?_, fun _ => rfl, gu_same _ _ _ _ _, nxt_0 hb r⟩
        rcases p with p | p
        · exact Or.inl (fun y => wk.mp y p)
        · exact Or.inr (by rw [ei]; exact (d2 c' hc').2 p)
      · have p1 : ¬ g 28 b' 1 = 0 := fun y => p (Or.inl y)
        have p2 : bt (g 7 (2 * b' + t') 0) c' := Classical.byContradiction (fun y => p (Or.inr y))
        obtain ⟨r', hr, e1, e2⟩ := (d2 c' hc').1 p2
        obtain ⟨k, hk, rfl⟩ := inr_of (p := m) (n := 101) (by decide) ⟨fun y => hm.1 (Int32.lt_trans y (by decide)), (i_le (k := 100) (by decide) m).mp hm2⟩
        refine Or.inl ⟨_, _, fun c s x o => m_81 N L c s x o b' t' c' (nI k) hm.1 hm.2 hb' ht' hc' g p1 p2, fun c s x o => m_128 N L c s x o b' t' c' (nI k) hb' ht' hc' hm.1 hm2 _ ?_ ?_, fun j => ?_, ?_, ?_⟩
        · rw [gu_f _ _ _ _ _ _ _ _ (by decide), gu_f _ _ _ _ _ _ _ _ (by decide)]; exact wk.mpr p1
        · rw [gu_f _ _ _ _ _ _ _ _ (by decide), ei, e2]
          exact fun y => pos_z hr (by rw [y]; decide)
        · rw [gu_f _ _ _ _ _ _ _ _ (by decide)]
        · rw [gu_f _ _ _ _ _ _ _ _ (by decide), gu_same]
        · have v1 : (if 1000 < g 9 (2 * b' + t') c' + nI k then 1000 else g 9 (2 * b' + t') c' + nI k) = nI (min (r' + k) 1000) := by
            rw [e1, iI_add]
            by_cases y : 1000 < r' + k
            · rw [if_pos (by rw [show ((1000 : Int32) < nI (r' + k)) = (1000 < r' + k) from iI_lt (a := 1000) (by omega) (by omega)]; exact y), Nat.min_eq_right (by omega)]
              rfl
            · rw [if_neg (by rw [show ((1000 : Int32) < nI (r' + k)) = (1000 < r' + k) from iI_lt (a := 1000) (by omega) (by omega)]; exact y), Nat.min_eq_left (by omega)]
          have v2 : (if gu g 9 (2 * b' + t') c' (if 1000 < g 9 (2 * b' + t') c' + nI k then 1000 else g 9 (2 * b' + t') c' + nI k) 61 0 (8 * b' + 4 * t' + c') + nI k ≤ 1001 then gu g 9 (2 * b' + t') c' (if 1000 < g 9 (2 * b' + t') c' + nI k then 1000 else g 9 (2 * b' + t') c' + nI k) 61 0 (8 * b' + 4 * t' + c') + nI k else 1001) = nI (min (r' + k) 1000 + 1) := by
            rw [gu_f _ _ _ _ _ _ _ _ (by decide), ei, e2, iI_add]
            by_cases y : r' + 1 + k ≤ 1001
            · rw [if_pos (by rw [show (nI (r' + 1 + k) ≤ (1001 : Int32)) = (r' + 1 + k ≤ 1001) from iI_le (b := 1001) (by omega) (by omega)]; exact y), Nat.min_eq_left (by omega)]
              exact congrArg nI (by omega)
            · rw [if_neg (by rw [show (nI (r' + 1 + k) ≤ (1001 : Int32)) = (r' + 1 + k ≤ 1001) from iI_le (b := 1001) (by omega) (by omega)]; exact y), Nat.min_eq_right (by omega)]
              rfl
          rw [v2, v1, ei]
          generalize hR : min (r' + k) 1000 = R
          have hR2 : R ≤ 1000 := by omega
          have ko : out [9, 65, 61] g (gu (gu (gu g 9 (2 * b' + t') c' (nI R)) 65 0 0 0) 61 0 (4 * (2 * b' + t') + c') (nI (R + 1))) := out_u (by decide) (out_u (by decide) (out_u (by decide) (out_r _ _)))
          have k65 : ago [1, 2, 3, 4, 5, 6, 7, 8, 14] g (gu (gu (gu g 9 (2 * b' + t') c' (nI R)) 65 0 0 0) 61 0 (4 * (2 * b' + t') + c') (nI (R + 1))) := fun j hj => by
            rw [gu_f _ _ _ _ _ _ _ _ (by decide), ag5_0 j hj, gu_f _ _ _ _ _ _ _ _ (by decide)]
          have k9 : ∀ i j, gu (gu (gu g 9 (2 * b' + t') c' (nI R)) 65 0 0 0) 61 0 (4 * (2 * b' + t') + c') (nI (R + 1)) 9 i j = if i = 2 * b' + t' ∧ j = c' then nI R else g 9 i j := fun i j => by
            rw [gu_f _ _ _ _ _ _ _ _ (by decide), gu_f _ _ _ _ _ _ _ _ (by decide)]
            simp [gu]
          have k61 : ∀ j, gu (gu (gu g 9 (2 * b' + t') c' (nI R)) 65 0 0 0) 61 0 (4 * (2 * b' + t') + c') (nI (R + 1)) 61 0 j = if j = 4 * (2 * b' + t') + c' then nI (R + 1) else g 61 0 j := fun j => by
            simp [gu]
          generalize gu (gu (gu g 9 (2 * b' + t') c' (nI R)) 65 0 0 0) 61 0 (4 * (2 * b' + t') + c') (nI (R + 1)) = G at ko k65 k9 k61 ⊢
          generalize hd : 2 * b' + t' = d at *
          refine nxt_k hb (Rel_D (d := d) (out_m ko (by decide)) k65 (fun d' hd' e => ⟨⟨fun j hj => ko 7 (by decide) _ _, fun y hy => ?_, ko 62 (by decide) _ _, fun l hl => ko 22 (by decide) _ _, fun t ht => ⟨ko 59 (by decide) _ _, ko 10 (by decide) _ _, ko 60 (by decide) _ _⟩⟩, fun y hy => ?_⟩) (fun t l _ _ => ko 22 (by decide) _ _) ⟨⟨?_, fun y hy => ?_, ?_⟩, rDa_c (fun _ _ => ko 22 (by decide) _ _) (fun _ _ => ko 59 (by decide) _ _) d4, rDs_c (fun _ _ => ko 22 (by decide) _ _) (fun _ _ => ko 10 (by decide) _ _) (fun _ _ => ko 60 (by decide) _ _) d5⟩ r) (fun j => ko 0 (by decide) _ _)
          · rw [k61, if_neg (by omega)]
          · rw [k9, if_neg (fun x => e x.1)]
          · rw [ko 7 (by decide)]; exact d1
          · rw [ko 7 (by decide), k9, k61]
            by_cases e : y = c'
            · subst e
              rw [if_pos ⟨rfl, rfl⟩, if_pos rfl]
              exact ⟨fun _ => ⟨R, hR2, rfl, rfl⟩, fun x => absurd p2 x⟩
            · rw [if_neg (fun x => e x.2), if_neg (by omega)]
              exact d2 y hy
          · rw [ko 7 (by decide), ko 62 (by decide)]; exact d3
    · exact Or.inr ⟨30, g, _, by decide, fun c' s x o => m_81a N L c' s x o b t c m hm.1 hm.2 h g, fun c' s x o => m_128a N L c' s x o b t c m g (fun y => h (b_in.mp y.1)), fun _ => rfl, gu_same _ _ _ _ _, nxt_0 hb r⟩
  · exact Or.inr ⟨30, g, _, by decide, fun c' s x o => m_81n N L c' s x o b t c m hm g, fun c' s x o => m_128a N L c' s x o b t c m g (fun y => hm ⟨y.2.1, Int32.not_lt.mpr y.2.2⟩), fun _ => rfl, gu_same _ _ _ _ _, nxt_0 hb r⟩
end O3
