/-! ack, alone or with all before -/
def F88L (D u : Nat) : List Nat → Int32 → mG → Int32 × mG
  | [], a, g => (a, g)
  | t :: ts, a, g => if u ≤ t ∨ bt (g 22 (2 + D) (t / 8)) (t % 8) then F88L D u ts a g else F88L D u ts (a + 1) (gA D t g)
theorem F88L_f (D u f i j : Nat) (h : ¬ (f = 22 ∧ i = 2 + D)) : ∀ (ts : List Nat) (a : Int32) (g : mG), (F88L D u ts a g).2 f i j = g f i j := by
  intro ts
  induction ts with
  | nil => exact fun _ _ => rfl
  | cons t ts ih =>
    intro a g
    show (if u ≤ t ∨ bt (g 22 (2 + D) (t / 8)) (t % 8) then F88L D u ts a g else F88L D u ts (a + 1) (gA D t g)).2 f i j = _
    split
    · exact ih _ _
    · rw [ih]; exact gu_ne _ _ _ _ _ _ _ _ (fun y => h ⟨y.1, y.2.1⟩)
theorem F88L_a (D u : Nat) : ∀ (ts ts' : List Nat) (a : Int32) (g : mG), F88L D u (ts ++ ts') a g = F88L D u ts' (F88L D u ts a g).1 (F88L D u ts a g).2 := by
  intro ts
  induction ts with
  | nil => exact fun _ _ _ => rfl
  | cons t ts ih =>
    intro ts' a g
    show (if u ≤ t ∨ bt (g 22 (2 + D) (t / 8)) (t % 8) then F88L D u (ts ++ ts') a g else F88L D u (ts ++ ts') (a + 1) (gA D t g)) = F88L D u ts' (if u ≤ t ∨ bt (g 22 (2 + D) (t / 8)) (t % 8) then F88L D u ts a g else F88L D u ts (a + 1) (gA D t g)).1 (if u ≤ t ∨ bt (g 22 (2 + D) (t / 8)) (t % 8) then F88L D u ts a g else F88L D u ts (a + 1) (gA D t g)).2
    by_cases y : u ≤ t ∨ bt (g 22 (2 + D) (t / 8)) (t % 8)
    · rw [if_pos y, if_pos y]; exact ih _ _ _
    · rw [if_neg y, if_neg y]; exact ih _ _ _
theorem F88e_L (D u l m : Nat) (hm : m ≤ 8) : ∀ (k e : Nat) (a : Int32) (g : mG), e + k = m → F88e (2 + D) l (min m (u - 8 * l) - e) e a g = F88L D u (seg l e k) a g := by
  intro k
  induction k with
  | zero =>
    intro e a g he
    rw [show min m (u - 8 * l) - e = 0 by omega]
    rfl
  | succ k ih =>
    intro e a g he
    rw [seg_s]
    have hL : F88L D u ((8 * l + e) :: seg l (e + 1) k) a g = if u ≤ 8 * l + e ∨ bt (g 22 (2 + D) ((8 * l + e) / 8)) ((8 * l + e) % 8) then F88L D u (seg l (e + 1) k) a g else F88L D u (seg l (e + 1) k) (a + 1) (gA D (8 * l + e) g) := rfl
    have e1 : (8 * l + e) / 8 = l := by omega
    have e2 : (8 * l + e) % 8 = e := by omega
    have eA : gA D (8 * l + e) g = gu g 22 (2 + D) l (g 22 (2 + D) l ||| 1 <<< (nI e &&& 31)) := by unfold gA; rw [e1, e2]
    rw [hL, e1, e2, eA, ← ih (e + 1) _ _ (by omega), ← ih (e + 1) _ _ (by omega)]
    by_cases y : u ≤ 8 * l + e
    · rw [if_pos (Or.inl y), show min m (u - 8 * l) - e = 0 by omega, show min m (u - 8 * l) - (e + 1) = 0 by omega]
      rfl
    · rw [show min m (u - 8 * l) - e = (min m (u - 8 * l) - (e + 1)) + 1 by omega]
      show (if bt (g 22 (2 + D) l) e then F88e (2 + D) l (min m (u - 8 * l) - (e + 1)) (e + 1) (a + 0) g else F88e (2 + D) l (min m (u - 8 * l) - (e + 1)) (e + 1) (a + 1) (gu g 22 (2 + D) l (g 22 (2 + D) l ||| 1 <<< (nI e &&& 31)))) = _
      by_cases v : bt (g 22 (2 + D) l) e
      · rw [if_pos v, if_pos (Or.inr v), Int32.add_zero]
      · rw [if_neg v, if_neg (fun x => x.elim y v)]
theorem cll_g {b : Nat} {C C' : mG} (h : ∀ l, cl b l C' = cl b l C) : ∀ (r l : Nat), cll b C' r l = cll b C r l := by
  intro r
  induction r with
  | zero => exact fun _ => rfl
  | succ r ih =>
    intro l
    show seg l 0 (cl b l C').toNatClampNeg ++ cll b C' r (l + 1) = seg l 0 (cl b l C).toNatClampNeg ++ cll b C r (l + 1)
    rw [h, ih]
theorem F88_L (b D u : Nat) : ∀ (r l : Nat) (a : Int32) (C : mG), (∀ l', l ≤ l' → l' < l + r → (cl b l' C).toNatClampNeg ≤ 6) → F88 b D u r l a C = F88L D u (cll b C r l) a C := by
  intro r
  induction r with
  | zero => exact fun _ _ _ _ => rfl
  | succ r ih =>
    intro l a C h
    show F88 b D u r (l + 1) (F88e (2 + D) l (min (cl b l C).toNatClampNeg (u - 8 * l)) 0 a C).1 (F88e (2 + D) l (min (cl b l C).toNatClampNeg (u - 8 * l)) 0 a C).2 = F88L D u (seg l 0 (cl b l C).toNatClampNeg ++ cll b C r (l + 1)) a C
    have h6 := h l (by omega) (by omega)
    have e0 := F88e_L D u l (cl b l C).toNatClampNeg (by omega) (cl b l C).toNatClampNeg 0 a C (by omega)
    rw [Nat.sub_zero] at e0
    have hc : ∀ l', cl b l' (F88L D u (seg l 0 (cl b l C).toNatClampNeg) a C).2 = cl b l' C := fun l' => cl_g b l' C _ (F88L_f D u _ _ _ (by omega) _ _ _) (F88L_f D u _ _ _ (by omega) _ _ _) (F88L_f D u _ _ _ (by omega) _ _ _) (F88L_f D u _ _ _ (by omega) _ _ _) (F88L_f D u _ _ _ (by omega) _ _ _)
    rw [e0, F88L_a, ih (l + 1) _ _ (fun l' h1 h2 => by rw [hc]; exact h l' (by omega) (by omega)), cll_g hc]
theorem F133_f (D u f i j : Nat) (h : ¬ f = 59) : ∀ (ts : List Nat) (a : Int32) (g : mG), (F133 D u ts a g).2 f i j = g f i j := by
  intro ts
  induction ts with
  | nil => exact fun _ _ => rfl
  | cons t ts ih =>
    intro a g
    show (if u ≤ t ∨ ¬ g 59 0 (80 * D + t) = 0 then F133 D u ts a g else F133 D u ts (a + 1) (gu g 59 0 (80 * D + t) 1)).2 f i j = _
    split
    · exact ih _ _
    · rw [ih]; exact gu_f _ _ _ _ _ _ _ _ h
/-- what is acknowledged, in class and model -/
def aJ (D : Nat) (C G : mG) : Prop := ∀ l, l < 10 → m6 (C 22 (2 + D) l) ∧ ∀ e, e < 8 → G 59 0 (80 * D + 8 * l + e) = bI (bt (C 22 (2 + D) l) e)
theorem aJ_s {D t : Nat} {C G : mG} (h : aJ D C G) (ht : t < 80) (h6 : t % 8 < 6) : aJ D (gA D t C) (gu G 59 0 (80 * D + t) 1) ∧ ∀ l e, l < 10 → e < 8 → bt (C 22 (2 + D) l) e → bt (gA D t C 22 (2 + D) l) e := by
  have hA : ∀ l, gA D t C 22 (2 + D) l = if l = t / 8 then C 22 (2 + D) (t / 8) ||| 1 <<< (nI (t % 8) &&& 31) else C 22 (2 + D) l := fun l => by
    unfold gA
    by_cases y : l = t / 8
    · rw [if_pos y, y, gu_same]
    · rw [if_neg y, gu_k _ _ _ _ _ _ y]
  obtain ⟨m0, b0⟩ := h (t / 8) (by omega)
  refine ⟨fun l hl => ?_, fun l e hl he hb => ?_⟩
  · rw [hA]
    by_cases y : l = t / 8
    · rw [if_pos y]
      refine ⟨m6_or m0 (m6_sh h6), fun e he => ?_⟩
      rw [y]
      by_cases x : e = t % 8
      · have ei : 80 * D + 8 * (t / 8) + e = 80 * D + t := by omega
        rw [ei, gu_same, bI_t]
        exact (bt_or m0 (m6_sh h6) he).mpr (Or.inr ((bt_sh h6 he).mpr x))
      · rw [gu_k _ _ _ _ _ _ (by omega), b0 e he]
        refine bI_c ⟨fun v => (bt_or m0 (m6_sh h6) he).mpr (Or.inl v), fun v => ?_⟩
        exact ((bt_or m0 (m6_sh h6) he).mp v).resolve_right (fun k => x ((bt_sh h6 he).mp k))
    · rw [if_neg y]
      refine ⟨(h l hl).1, fun e he => ?_⟩
      rw [gu_k _ _ _ _ _ _ (by omega)]
      exact (h l hl).2 e he
  · rw [hA]
    by_cases y : l = t / 8
    · rw [if_pos y]
      rw [y] at hb
      exact (bt_or m0 (m6_sh h6) he).mpr (Or.inl hb)
    · rw [if_neg y]; exact hb
theorem ack_j (D u : Nat) : ∀ (ts : List Nat) (a a' : Int32) (C G : mG), (∀ t, t ∈ ts → t < 80 ∧ t % 8 < 6) → aJ D C G → a' = 1 + a → (F133 D u ts a' G).1 = 1 + (F88L D u ts a C).1 ∧ aJ D (F88L D u ts a C).2 (F133 D u ts a' G).2 ∧ (∀ l e, l < 10 → e < 8 → bt (C 22 (2 + D) l) e → bt ((F88L D u ts a C).2 22 (2 + D) l) e) ∧ (∀ j, ¬ (80 * D ≤ j ∧ j < 80 * D + 80) → (F133 D u ts a' G).2 59 0 j = G 59 0 j) := by
  intro ts
  induction ts with
  | nil => exact fun a a' C G _ hJ ha => ⟨ha, hJ, fun _ _ _ _ h => h, fun _ _ => rfl⟩
  | cons t ts ih =>
    intro a a' C G ht hJ ha
    obtain ⟨t80, t6⟩ := ht t (List.mem_cons_self ..)
    have ht' : ∀ t, t ∈ ts → t < 80 ∧ t % 8 < 6 := fun x hx => ht x (List.mem_cons_of_mem _ hx)
    have hL : F88L D u (t :: ts) a C = if u ≤ t ∨ bt (C 22 (2 + D) (t / 8)) (t % 8) then F88L D u ts a C else F88L D u ts (a + 1) (gA D t C) := rfl
    have hR : F133 D u (t :: ts) a' G = if u ≤ t ∨ ¬ G 59 0 (80 * D + t) = 0 then F133 D u ts a' G else F133 D u ts (a' + 1) (gu G 59 0 (80 * D + t) 1) := rfl
    have e1 := (hJ (t / 8) (by omega)).2 (t % 8) (by omega)
    rw [show 80 * D + 8 * (t / 8) + t % 8 = 80 * D + t by omega] at e1
    rw [hL, hR, e1]
    by_cases y : u ≤ t ∨ bt (C 22 (2 + D) (t / 8)) (t % 8)
    · rw [if_pos y, if_pos (y.imp id (fun x => by rw [bI_t _ x]; decide))]
      exact ih a a' C G ht' hJ ha
    · rw [if_neg y, if_neg (fun x => y (x.imp id (fun k => Classical.byContradiction (fun m => k (bI_f _ m)))))]
      obtain ⟨s1, s2⟩ := aJ_s hJ t80 t6
      obtain ⟨i1, i2, i3, i4⟩ := ih (a + 1) (a' + 1) _ _ ht' s1 (by rw [ha, Int32.add_assoc])
      exact ⟨i1, i2, fun l e hl he hb => i3 l e hl he (s2 l e hl he hb), fun j hj => (i4 j hj).trans (gu_k _ _ _ _ _ _ (by omega))⟩
section O16
variable {N w q a V n z M : Nat} {g : mG} (L : Nat)
theorem ack_R {d : Nat} {H : mG} (hd : d < 6) (ho : out [22, 59, 65, 63] g H) (h5 : ago [1, 2, 3, 4, 5, 6, 7, 8, 14] g H) (h22 : ∀ i l, ¬ i = 2 + d → H 22 i l = g 22 i l) (h59 : ∀ j, ¬ (80 * d ≤ j ∧ j < 80 * d + 80) → H 59 0 j = g 59 0 j) (hA : aJ d H H) (hm : ∀ l e, l < 10 → e < 8 → bt (g 22 (2 + d) l) e → bt (H 22 (2 + d) l) e) (r : Rel N w q a V n z M g) : Rel N w q a V n z M H := by
  obtain ⟨d0, d4, d5⟩ := r.2.2.2.2.2.2.2.2.1 d hd
  refine Rel_D (d := d) (out_m ho (by decide)) h5 (fun d' hd' e => ⟨⟨fun j _ => ho 7 (by decide) _ _, fun v _ => ho 61 (by decide) _ _, ho 62 (by decide) _ _, fun l _ => h22 _ _ (by omega), fun v hv => ⟨h59 _ (by omega), ho 10 (by decide) _ _, ho 60 (by decide) _ _⟩⟩, fun v _ => ho 9 (by decide) _ _⟩) (fun t l ht _ => h22 t l (by omega)) ⟨rDc_c (fun j => ho 7 (by decide) _ _) (fun _ _ => ho 9 (by decide) _ _) (fun _ _ => ho 61 (by decide) _ _) (ho 62 (by decide) _ _) d0, hA, fun v hv hx => ?_⟩ r
  have := d5 v hv (fun k => hx (hm (v / 8) (v % 8) (by omega) (by omega) k))
  unfold rDt at this ⊢
  rw [ho 10 (by decide), ho 60 (by decide)]
  exact this
theorem op_87 (hb : nb V n z M) (r : Rel N w q a V n z M g) (b t c p y : Int32) : opI N L 87 133 [.inl b, .inl t, .inl c, .inl p, .inl y] (cd 161) (nxt N w q a V g) g := by
  by_cases h : (¬ b < 0 ∧ ¬ 3 ≤ b) ∧ (¬ t < 0 ∧ ¬ 2 ≤ t) ∧ (¬ c < 0 ∧ ¬ 4 ≤ c)
  · obtain ⟨h1, h2, h3⟩ := h
    obtain ⟨b', hb', rfl⟩ := inr_of (n := 3) (by decide) h1
    obtain ⟨t', ht', rfl⟩ := inr_of (n := 2) (by decide) h2
    obtain ⟨c', hc', rfl⟩ := inr_of (n := 4) (by decide) h3
    have wk := wk_z hb' r
    by_cases k : g 28 b' 1 = 0
    · exact Or.inr ⟨31, 0, g, _, by decide, fun c s x o => m_87s N L c s x o b' t' c' hb' ht' hc' p y g k, fun c s x o => m_133s N L c s x o b' t' c' hb' ht' hc' p y g (fun v => wk.mp v k), fun _ => rfl, gu_same _ _ _ _ _, nxt_00 hb r⟩
    · by_cases hp : ¬ p < 0 ∧ ¬ 80 ≤ p
      · obtain ⟨u, hu, rfl⟩ := inr_of (n := 80) (by decide) hp
        obtain ⟨d0, d4, d5⟩ := r.2.2.2.2.2.2.2.2.1 (2 * b' + t') (by omega)
        have e59 := (d4 (u / 8) (by omega)).2 (u % 8) (by omega)
        rw [show 80 * (2 * b' + t') + 8 * (u / 8) + u % 8 = 80 * (2 * b' + t') + u by omega] at e59
        have hx : (g 10 (2 * b' + t') u = nI c' ∧ ¬ bt (g 22 (2 + (2 * b' + t')) (u / 8)) (u % 8)) → u % 8 < 6 ∧ g 60 0 (80 * (2 * b' + t') + u) = nI (c' + 1) := fun v => by
          rcases d5 u hu v.2 with ⟨s1, s2⟩ | ⟨v', s0, s3, s1, s2⟩
          · have := v.1
            rw [s1] at this
            exact absurd this.symm (by rw [nI_m1 (show c' < 65536 by omega)]; exact id)
          · have := v.1
            rw [s1, iI_eq (by omega) (by omega)] at this
            exact ⟨s3, by rw [s2, this]⟩
        have hx' : (g 60 0 (80 * (2 * b' + t') + u) = nI (c' + 1) ∧ g 59 0 (80 * (2 * b' + t') + u) = 0) → g 10 (2 * b' + t') u = nI c' ∧ ¬ bt (g 22 (2 + (2 * b' + t')) (u / 8)) (u % 8) := fun v => by
          have nb : ¬ bt (g 22 (2 + (2 * b' + t')) (u / 8)) (u % 8) := fun m => by
            have := v.2
            rw [e59, bI_t _ m] at this
            exact absurd this (by decide)
          refine ⟨?_, nb⟩
          rcases d5 u hu nb with ⟨s1, s2⟩ | ⟨v', s0, s3, s1, s2⟩
          · have := v.1
            rw [s2, show ((0 : Int32) = nI (c' + 1)) = (0 = c' + 1) from iI_eq (a := 0) (by decide) (by omega)] at this
            omega
          · have := v.1
            rw [s2, iI_eq (by omega) (by omega)] at this
            rw [s1, show v' = c' by omega]
        by_cases hk : g 10 (2 * b' + t') u = nI c' ∧ ¬ bt (g 22 (2 + (2 * b' + t')) (u / 8)) (u % 8)
        · obtain ⟨u6, e60⟩ := hx hk
          have z59 : g 59 0 (80 * (2 * b' + t') + u) = 0 := by rw [e59, bI_f _ hk.2]
          have hn := hb.2.1
          have hz := hb.2.2.1
          have hC := hC_r hb r hb'
          generalize hd : 2 * b' + t' = d at *
          have hd6 : d < 6 := by omega
          have cA : ∀ l, cl b' l (gA d u g) = cl b' l g := fun l => cl_g b' l g _ (gu_f _ _ _ _ _ _ _ _ (by decide)) (gu_f _ _ _ _ _ _ _ _ (by decide)) (gu_f _ _ _ _ _ _ _ _ (by decide)) (gu_f _ _ _ _ _ _ _ _ (by decide)) (gu_f _ _ _ _ _ _ _ _ (by decide))
          have kL : F88 b' d u (n - z) z 0 (gA d u g) = F88L d u (chn b' n z g) 0 (gA d u g) := by
            rw [F88_L b' d u (n - z) z 0 (gA d u g) (fun l h1 h2 => by
              obtain ⟨m, c1, c2⟩ := hC l (by omega)
              rw [cA, c2, tn (show m < 65536 by omega)]
              exact c1), cll_g cA, ch_e hb r hb']
          have h80 : ∀ v ∈ chn b' n z g, v < 80 := fun v hv => (ch_m hb r hb' hv).2.2
          have h86 : ∀ v, v ∈ chn b' n z g → v < 80 ∧ v % 8 < 6 := fun v hv => ⟨(ch_m hb r hb' hv).2.2, (ch_m hb r hb' hv).2.1⟩
          /- one memory of the class, one of the model -/
          have key : ∀ g1 : mG, (∀ f i j, ¬ (f = 22 ∧ i = 2 + d) → g1 f i j = g f i j) → ∃ G : mG, scr (gu (gu g1 65 0 0 0) 59 0 (80 * d + u) 1) G ∧ ∀ c s x o, av_cal 133 [.inr (.inr (some (65, 0))), .inl (nI b'), .inl (nI t'), .inl (nI c'), .inl (nI u), .inl y] (mm N L c s x o g1) = if y = 0 then some (.inl (some (.inl 1)), mm N L c s x o G) else some (.inl (some (.inl (F133 d u (chn b' n z g) 1 G).1)), mm N L c s x o (F133 d u (chn b' n z g) 1 G).2) := fun g1 h1 => by
            obtain ⟨G, k1, k2, k3, k4⟩ := lay_e (X := gu (gu g1 65 0 0 0) 59 0 (80 * d + u) 1) L hb r hb' (fun f i j hf => by rw [gu_f _ _ _ _ _ _ _ _ (by omega), gu_f _ _ _ _ _ _ _ _ (by omega), h1 _ _ _ (by omega)]) (fun j hj => by rw [gu_f _ _ _ _ _ _ _ _ (by decide), gu_k _ _ _ _ _ _ hj, h1 _ _ _ (by omega)])
            refine ⟨G, k3, fun c s x o => ?_⟩
            have := m_133 N L c s x o b' t' c' u (chn b' n z g) hb' ht' hc' hu y g1 G (by rw [h1 _ _ _ (by omega), h1 _ _ _ (by omega)]; exact wk.mpr k) (by rw [h1 _ _ _ (by omega), hd]; exact e60) (by rw [h1 _ _ _ (by omega), hd]; exact z59) (by rw [hd]; exact k1 c s x o) k2 h80 k4
            rw [hd] at this
            exact this
          obtain ⟨j1, j2⟩ := aJ_s (D := d) (t := u) (C := g) (G := g) d4 hu u6
          have kA : ∀ f i j, ¬ (f = 22 ∧ i = 2 + d) → gA d u g f i j = g f i j := fun f i j hf => gu_ne _ _ _ _ _ _ _ _ (fun v => hf ⟨v.1, v.2.1⟩)
          by_cases y0 : y = 0
          · obtain ⟨G, k1, k2⟩ := key (gA d u g) kA
            refine Or.inl ⟨1, gA d u g, G, fun c s x o => ?_, fun c s x o => ?_, fun j => kA 0 0 j (by omega), ?_, ?_⟩
            · have := m_87 N L c s x o b' t' c' u n z hb' ht' hc' hu hn hz y g k (by rw [hd]; exact hk.1) (by rw [hd]; exact hk.2) r.2.1.2.2.2.1 r.2.1.2.2.2.2.2.1 hC
              rw [hd, if_pos y0] at this
              exact this
            · rw [k2, if_pos y0]
            · rw [k1 65 0 0 (by decide) (by decide), gu_f _ _ _ _ _ _ _ _ (by decide), gu_same]
            · have G59 : ∀ j, G 59 0 j = gu g 59 0 (80 * d + u) 1 59 0 j := fun j => by
                rw [k1 59 0 j (by decide) (by omega)]
                by_cases v : j = 80 * d + u
                · rw [v, gu_same, gu_same]
                · rw [gu_k _ _ _ _ _ _ v, gu_k _ _ _ _ _ _ v, gu_f _ _ _ _ _ _ _ _ (by decide), kA _ _ _ (by omega)]
              have G22 : ∀ i j, G 22 i j = gA d u g 22 i j := fun i j => by
                rw [k1 22 i j (by decide) (by omega), gu_f _ _ _ _ _ _ _ _ (by decide), gu_f _ _ _ _ _ _ _ _ (by decide)]
              refine nxt_k hb (ack_R (d := d) hd6 (fun f hf i j => ?_) (fun j hj => ?_) (fun i l hi => ?_) (fun j hj => ?_) (fun l hl => ?_) (fun l e hl he hbt => ?_) r) (fun j => ?_)
              · have nf : ¬ f = 22 ∧ ¬ f = 59 ∧ ¬ f = 65 ∧ ¬ f = 63 := by simpa using hf
                rw [k1 f i j nf.2.2.2 (fun v => nf.2.2.1 v.1), gu_f _ _ _ _ _ _ _ _ nf.2.1, gu_f _ _ _ _ _ _ _ _ nf.2.2.1, kA f i j (fun v => nf.1 v.1)]
              · have := (by decide : ∀ j, j ∈ [1, 2, 3, 4, 5, 6, 7, 8, 14] → ¬ j = 37) j hj
                rw [k1 65 0 j (by decide) (fun v => this v.2.2), gu_f _ _ _ _ _ _ _ _ (by decide), ag5_0 j hj, kA 65 0 j (by omega)]
              · rw [G22, kA 22 i l (fun v => hi v.2)]
              · rw [G59, gu_k _ _ _ _ _ _ (by omega)]
              · rw [G22]
                refine ⟨(j1 l hl).1, fun e he => ?_⟩
                rw [G59]
                exact (j1 l hl).2 e he
              · rw [G22]
                exact j2 l e hl he hbt
              · rw [k1 0 0 j (by decide) (by omega), gu_f _ _ _ _ _ _ _ _ (by decide), gu_f _ _ _ _ _ _ _ _ (by decide), kA 0 0 j (by omega)]
          · have kC : ∀ f i j, ¬ (f = 22 ∧ i = 2 + d) → (F88L d u (chn b' n z g) 0 (gA d u g)).2 f i j = g f i j := fun f i j hf => (F88L_f d u f i j hf _ _ _).trans (kA f i j hf)
            obtain ⟨G, k1, k2⟩ := key (F88L d u (chn b' n z g) 0 (gA d u g)).2 kC
            have G59 : ∀ j, G 59 0 j = gu g 59 0 (80 * d + u) 1 59 0 j := fun j => by
              rw [k1 59 0 j (by decide) (by omega)]
              by_cases v : j = 80 * d + u
              · rw [v, gu_same, gu_same]
              · rw [gu_k _ _ _ _ _ _ v, gu_k _ _ _ _ _ _ v, gu_f _ _ _ _ _ _ _ _ (by decide), kC _ _ _ (by omega)]
            have j3 : aJ d (gA d u g) G := fun l hl => ⟨(j1 l hl).1, fun e he => by rw [G59]; exact (j1 l hl).2 e he⟩
            obtain ⟨i1, i2, i3, i4⟩ := ack_j d u (chn b' n z g) 0 1 (gA d u g) G h86 j3 rfl
            have G22 : ∀ i j, (F133 d u (chn b' n z g) 1 G).2 22 i j = (F88L d u (chn b' n z g) 0 (gA d u g)).2 22 i j := fun i j => by
              rw [F133_f d u _ _ _ (by decide), k1 22 i j (by decide) (by omega), gu_f _ _ _ _ _ _ _ _ (by decide), gu_f _ _ _ _ _ _ _ _ (by decide)]
            refine Or.inl ⟨_, _, _, fun c s x o => ?_, fun c s x o => by rw [k2, if_neg y0, i1], fun j => kC 0 0 j (by omega), ?_, ?_⟩
            · have := m_87 N L c s x o b' t' c' u n z hb' ht' hc' hu hn hz y g k (by rw [hd]; exact hk.1) (by rw [hd]; exact hk.2) r.2.1.2.2.2.1 r.2.1.2.2.2.2.2.1 hC
              rw [hd, if_neg y0, kL] at this
              exact this
            · rw [F133_f d u _ _ _ (by decide), k1 65 0 0 (by decide) (by decide), gu_f _ _ _ _ _ _ _ _ (by decide), gu_same]
            · refine nxt_k hb (ack_R (d := d) hd6 (fun f hf i j => ?_) (fun j hj => ?_) (fun i l hi => ?_) (fun j hj => ?_) (fun l hl => ?_) (fun l e hl he hbt => ?_) r) (fun j => ?_)
              · have nf : ¬ f = 22 ∧ ¬ f = 59 ∧ ¬ f = 65 ∧ ¬ f = 63 := by simpa using hf
                rw [F133_f d u _ _ _ nf.2.1, k1 f i j nf.2.2.2 (fun v => nf.2.2.1 v.1), gu_f _ _ _ _ _ _ _ _ nf.2.1, gu_f _ _ _ _ _ _ _ _ nf.2.2.1, kC f i j (fun v => nf.1 v.1)]
              · have := (by decide : ∀ j, j ∈ [1, 2, 3, 4, 5, 6, 7, 8, 14] → ¬ j = 37) j hj
                rw [F133_f d u _ _ _ (by decide), k1 65 0 j (by decide) (fun v => this v.2.2), gu_f _ _ _ _ _ _ _ _ (by decide), ag5_0 j hj, kC 65 0 j (by omega)]
              · rw [G22, kC 22 i l (fun v => hi v.2)]
              · rw [i4 j hj, G59, gu_k _ _ _ _ _ _ (by omega)]
              · rw [G22]
                exact i2 l hl
              · rw [G22]
                exact i3 l e hl he (j2 l e hl he hbt)
              · rw [F133_f d u _ _ _ (by decide), k1 0 0 j (by decide) (by omega), gu_f _ _ _ _ _ _ _ _ (by decide), gu_f _ _ _ _ _ _ _ _ (by decide), kC 0 0 j (by omega)]
        · exact Or.inr ⟨35, 0, g, _, by decide, fun c s x o => m_87e N L c s x o b' t' c' u hb' ht' hc' hu y g k hk, fun c s x o => m_133e N L c s x o b' t' c' u hb' ht' hc' hu y g (wk.mpr k) (fun v => hk (hx' v)), fun _ => rfl, gu_same _ _ _ _ _, nxt_00 hb r⟩
      · exact Or.inr ⟨35, 0, g, _, by decide, fun c s x o => m_87o N L c s x o b' t' c' hb' ht' hc' p y hp g k, fun c s x o => m_133o N L c s x o b' t' c' hb' ht' hc' p y hp g (wk.mpr k), fun _ => rfl, gu_same _ _ _ _ _, nxt_00 hb r⟩
  · exact Or.inr ⟨30, 0, g, _, by decide, fun c' s x o => m_87a N L c' s x o b t c p y h g, fun c' s x o => m_133a N L c' s x o b t c p y g (fun v => h (b_in.mp v)), fun _ => rfl, gu_same _ _ _ _ _, nxt_00 hb r⟩
end O16
