/-! add: class and model -/
theorem F113_c {b l w q : Nat} {g X : mG} (h36 : ∀ j, X 36 0 j = g 36 0 j) (h56 : X 56 0 b = g 56 0 b) (h3 : X 65 0 3 = g 65 0 3) (h4 : X 65 0 4 = g 65 0 4) : ∀ (d i : Nat), F113 b l w q X d i = F113 b l w q g d i := by
  have ha : ∀ i d j a, F113a b l w i X d j a = F113a b l w i g d j a := by
    intro i d
    induction d with
    | zero => exact fun _ _ => rfl
    | succ d ih =>
      intro j a
      show F113a b l w i X d (j + 1) (a + (X 56 0 b >>> (X 36 0 (4 * l + (i + j) % w) &&& 31) &&& 1)) = F113a b l w i g d (j + 1) (a + (g 56 0 b >>> (g 36 0 (4 * l + (i + j) % w) &&& 31) &&& 1))
      rw [ih, h36, h56]
  intro d
  induction d with
  | zero => exact fun _ => rfl
  | succ d ih =>
    intro i
    show (if X 65 0 3 - X 65 0 4 + 1 ≤ F113a b l w i X q 0 0 then F113 b l w q X d (i + 1) else false) = (if g 65 0 3 - g 65 0 4 + 1 ≤ F113a b l w i g q 0 0 then F113 b l w q g d (i + 1) else false)
    rw [ih, ha, h3, h4]
theorem F114a_c {b : Nat} {g X : mG} (h56 : X 56 0 b = g 56 0 b) (h57 : ∀ j, X 57 0 j = g 57 0 j) : ∀ (d k : Nat) (a : Int32), F114a b X d k a = F114a b g d k a := by
  intro d
  induction d with
  | zero => exact fun _ _ => rfl
  | succ d ih =>
    intro k a
    show F114a b X d (k + 1) (a ||| (if bt (X 56 0 b) k then X 57 0 (6 * b + k) else 0)) = F114a b g d (k + 1) (a ||| (if bt (g 56 0 b) k then g 57 0 (6 * b + k) else 0))
    rw [ih, h56, h57]
theorem F7b_bt (m : Int32) : ∀ (d e x : Nat), e ≤ x → x < F7b m d e → bt m x := by
  intro d
  induction d with
  | zero => intro e x h1 h2; exact absurd (show x < e from h2) (by omega)
  | succ d ih =>
    intro e x h1 h2
    rw [F7b_s] at h2
    by_cases q : bt m e
    · rw [if_pos q] at h2
      by_cases e1 : x = e
      · rw [e1]; exact q
      · exact ih (e + 1) x (by omega) h2
    · rw [if_neg q] at h2
      omega
theorem F7a_bt (b : Nat) (g : mG) (hm : ∀ k, k < 6 → m6 (g 4 b k)) : ∀ (d k : Nat) (a : Int32), k + d = 6 → m6 a → ∀ x, x < 6 → bt (F7a b g d k a) x → bt a x ∨ ∃ k', k' < 6 ∧ bt (g 4 b k') x := by
  intro d
  induction d with
  | zero => exact fun _ _ _ _ _ _ h => Or.inl h
  | succ d ih =>
    intro k a hk ha x hx h
    rcases ih (k + 1) (a ||| g 4 b k) (by omega) (m6_or ha (hm k (by omega))) x hx h with y | y
    · rcases (bt_or ha (hm k (by omega)) (by omega)).mp y with t | t
      · exact Or.inl t
      · exact Or.inr ⟨k, by omega, t⟩
    · exact Or.inr y
section O10
variable {N w q a V n z M : Nat} {g : mG} (L : Nat)
/-- what was found is written -/
theorem cF_at {b ph l e : Nat} (hB : rBr b ph l g) (he : e < cF b g) : ¬ g 17 0 (8 * l + e) = 0 := by
  have h6 : e < 6 := by have := cF_le b g; omega
  have h1 : bt (F7a b g 6 0 0) e := F7b_bt _ 6 0 e (by omega) he
  obtain ⟨b1, b2, b3, b4⟩ := hB
  rcases F7a_bt b g (fun k hk => (b4 k hk).2.1) 6 0 0 rfl m6_0 e h6 h1 with y | ⟨k, hk, y⟩
  · exact absurd y (bt_0 (by omega))
  · obtain ⟨c1, c2, c3, c4, c5, c6, c7⟩ := b4 k hk
    refine (c7 e h6 ?_).2
    rw [c4, ← c1]
    exact (bt_or c2 c3 (by omega)).mpr (Or.inl y)
theorem op_62 (hp : pr N w q a) (hb : nb V n z M) (r : Rel N w q a V n z M g) (b k : Int32) : opI N L 62 112 [.inl b, .inl k] (cd 152) (nxt N w q a V g) g := by
  have hpp := hp
  obtain ⟨p1, p2, p3, p4, p5, p6, p7, p8, p9⟩ := hpp
  have hN : N ≤ 6 := p2
  have g1 := r.1.2.2.2.1
  have gw : g 65 0 2 = nI w := r.1.2.2.2.2.1
  have gq : g 65 0 3 = nI q := r.1.2.2.2.2.2.1
  by_cases h : ¬ b < 0 ∧ ¬ 3 ≤ b
  · obtain ⟨b', hb', rfl⟩ := inr_of (n := 3) (by decide) h
    by_cases hk : ¬ k < 0 ∧ ¬ nI N ≤ k
    · obtain ⟨k', hk', rfl⟩ := inr_of (n := N) (by omega) hk
      obtain ⟨⟨u1, u2, u3, u4⟩, uh⟩ := r.2.2.2.2.2.1 k' hk'
      obtain ⟨ph, l, ve, e, s, wr, rr⟩ := r.2.2.2.2.2.2.1 b' hb'
      have s' := s
      obtain ⟨s1, s2, s3, s4, s5, s6, s7, s8, s9, s10, s11, s12, s13⟩ := s
      rcases ens_e (k := k') L hp hb r hb' with hE | hE
      · -- the model up to its question, for any memory that agrees on its sites
        have hmod : ∀ X0 : mG, (∀ f i j, 35 < f ∧ f < 64 → X0 f i j = g f i j) → (∀ j, X0 65 0 j = g 65 0 j) → ∀ c s x o, av_cal 112 [.inr (.inr (some (65, 0))), .inl (nI b'), .inl (nI k')] (mm N L c s x o X0) = av_run 112 59 [some (.inr (.inr (some (65, 0)))), some (.inl (nI b')), some (.inl (nI k')), some (.inl (bI (nI ph = 1 ∧ F113 b' l w q g w 0 = true))), none, none, none, none, none] [] (mm N L c s x o (gu X0 65 0 0 0)) := fun X0 hX hX5 c s x o => by
          have m65 : ∀ j, ¬ j = 0 → gu X0 65 0 0 0 65 0 j = g 65 0 j := fun j hj => by rw [gu_k _ _ _ _ _ _ hj, hX5]
          have mm' : ∀ f i j, 35 < f ∧ f < 64 → gu X0 65 0 0 0 f i j = g f i j := fun f i j hf => by rw [gu_f _ _ _ _ _ _ _ _ (by omega), hX f i j hf]
          rw [l_112i N L c s x o (nI b') (nI k') X0]
          refine l_112r N L c s x o b' k' l w q hN hb' hk' s2 ⟨by omega, by omega⟩ (by omega) _ ((m65 1 (by decide)).trans g1) ((m65 2 (by decide)).trans gw) ((m65 3 (by decide)).trans gq) ((mm' 53 0 b' (by decide)).trans s11) (hE.2 _ (fun j => mm' 36 0 j (by decide)) (mm' 51 0 b' (by decide)) (mm' 53 0 b' (by decide)) (m65 2 (by decide)) c s x o) _ ?_
          rw [mm' 51 0 b' (by decide), s8, F113_c (g := g) (fun j => mm' 36 0 j (by decide)) (mm' 56 0 b' (by decide)) (m65 3 (by decide)) (m65 4 (by decide))]
        have mu : ∀ f i j, ¬ f = 65 → gu g 65 0 0 0 f i j = g f i j := fun f i j hf => gu_f _ _ _ _ _ _ _ _ hf
        by_cases t1 : g 26 k' 0 = 0
        · refine Or.inr ⟨31, 0, g, _, by decide, fun c s x o => m_62s N L c s x o b' k' (by omega) hb' hk' g (hE.1 c s x o) t1, fun c s x o => (hmod g (fun _ _ _ _ => rfl) (fun _ => rfl) c s x o).trans (m_112s N L c s x o b' k' hN hb' hk' _ _ (Or.inr (Or.inl ?_))), fun _ => rfl, gu_same _ _ _ _ _, nxt_00 hb r⟩
          rw [mu 46 0 k' (by decide), u2]; exact t1
        by_cases h3 : ph = 3
        · have e3 : nI ph = 3 := by rw [h3]; rfl
          have t3 : g 28 b' 1 = 3 := s7.trans e3
          obtain ⟨hln, hl3⟩ := s12 (Or.inr h3)
          have z0 : bI (nI ph = 1 ∧ F113 b' l w q g w 0 = true) = 0 := bI_f _ (fun y => by rw [e3] at y; exact absurd y.1 (by decide))
          rw [z0] at hmod
          have nup : ¬ g 28 b' 0 = 0 := fun y => by have := s6 y; omega
          by_cases hf : bt (g 26 k' 1) l
          · refine Or.inr ⟨32, 0, F8 b' g, _, by decide, fun c s x o => m_62f N L c s x o b' k' l (by omega) hb' hk' g (hE.1 c s x o) t1 t3 hl3 hf, fun c s x o => (hmod _ (fun f i j hf => F8_9 b' f i j g ?_) (fun j => F8_9 b' 65 0 j g (by decide)) c s x o).trans (m_112f N L c s x o b' k' l hN hb' hk' s2 0 _ ?_ ?_ (Or.inl ?_) ?_ (Or.inl ⟨rfl, ?_⟩)), fun j => F8_9 b' 0 0 j g (by decide), gu_same _ _ _ _ _, nxt_lv hb' hb r⟩
            · intro y
              simp at y
              omega
            · rw [gu_f _ _ _ _ _ _ _ _ (by decide), F8_9 b' 50 0 b' g (by decide), s5]; exact nup
            · rw [gu_f _ _ _ _ _ _ _ _ (by decide), F8_9 b' 46 0 k' g (by decide), u2]; exact t1
            · rw [gu_f _ _ _ _ _ _ _ _ (by decide), F8_9 b' 51 0 b' g (by decide), s8]; exact e3
            · rw [gu_f _ _ _ _ _ _ _ _ (by decide), F8_9 b' 53 0 b' g (by decide)]; exact s11
            · rw [gu_f _ _ _ _ _ _ _ _ (by decide), F8_9 b' 49 0 _ g (by decide)]; exact (u4 l s2).mp hf
          · obtain ⟨E1, E2⟩ := F64_b l k' g e 0 0 (by have := wr.1; omega) m6_0
            obtain ⟨_, _, hLw⟩ := r.2.2.1.1 l hln
            obtain ⟨mh1, mh2, me⟩ := uh l s2
            have hgv : ∀ x, x < 6 → (bt (F64 l (nI k') g e 0 0 &&& (g 1 k' l ^^^ (-1))) x ↔ (x < e ∧ bt (g 12 l x) k' ∧ ¬ bt (g 1 k' l) x)) := fun x hx => by
              rw [bt_an E1 mh1 (by omega), E2 x hx]
              exact ⟨fun y => ⟨by rcases y.1 with t | t; exact absurd t (bt_0 (by omega)); omega, by rcases y.1 with t | t; exact absurd t (bt_0 (by omega)); exact t.2.2, y.2⟩, fun y => ⟨Or.inr ⟨by omega, by omega, y.2.1⟩, y.2.2⟩⟩
            have m6g : m6 (F64 l (nI k') g e 0 0 &&& (g 1 k' l ^^^ (-1))) := m6_an E1 mh1
            have cf : F2 k' l (F64 l (nI k') g e 0 0) 0 g = gu g 1 k' l (g 1 k' l ||| (F64 l (nI k') g e 0 0 &&& (g 1 k' l ^^^ (-1)))) := if_pos rfl
            have k62 := fun c s x o => m_62w N L c s x o b' k' l e (by omega) hb' hk' s2 wr.1 g (hE.1 c s x o) t1 t3 hl3 wr.2.1 hf
            rw [cf] at k62
            generalize hgg : F64 l (nI k') g e 0 0 &&& (g 1 k' l ^^^ (-1)) = gv at k62 hgv m6g cf
            have xf : ∀ f i j, ¬ f = 1 → ¬ f = 65 → gu (gu g 1 k' l (g 1 k' l ||| gv)) 65 0 0 0 f i j = g f i j := fun f i j b1 b2 => by rw [gu_f _ _ _ _ _ _ _ _ b2, gu_f _ _ _ _ _ _ _ _ b1]
            have x65 : ∀ j, ¬ j = 0 → gu (gu g 1 k' l (g 1 k' l ||| gv)) 65 0 0 0 65 0 j = g 65 0 j := fun j hj => by rw [gu_k _ _ _ _ _ _ hj, gu_f _ _ _ _ _ _ _ _ (by decide)]
            have r58 := (rr.2.2.2 k' (by omega)).2.2.1
            obtain ⟨v1, v2, v3, v4, v5, v6, v7⟩ := F112_v b' k' l w q 0 e 0 0 (gu (gu g 1 k' l (g 1 k' l ||| gv)) 65 0 0 0) (by have := wr.1; omega) (by rw [xf 58 0 _ (by decide) (by decide)]; exact r58)
            have hP : ∀ x, x < 6 → (gP k' l w q (gu (gu g 1 k' l (g 1 k' l ||| gv)) 65 0 0 0) x ↔ (bt (g 12 l x) k' ∧ ¬ bt (g 1 k' l) x)) := fun x hx => by
              unfold gP
              rw [F111_c (g := g) (fun j => xf 36 0 j (by decide) (by decide)), wr_z, Classical.not_not, (hLw x hx).2 k' (by omega), xf 47 0 _ (by decide) (by decide), has_p hb r hk' s2 (by omega), Classical.not_not]
            have hcnt : bc gv = nI (0 + ct (gP k' l w q (gu (gu g 1 k' l (g 1 k' l ||| gv)) 65 0 0 0)) e 0) := by
              rw [bc_ct m6g, Nat.zero_add]
              refine congrArg nI ?_
              have h6 : 6 = e + (6 - e) := by have := wr.1; omega
              rw [h6, ct_sp, ct_0 (6 - e) (0 + e) (fun j h1 h2 y => by have := (hgv j (by omega)).mp y; omega), Nat.add_zero]
              exact ct_c e 0 (fun j _ hj => by rw [hgv j (by have := wr.1; omega), hP j (by have := wr.1; omega)]; exact ⟨fun y => y.2, fun y => ⟨by omega, y⟩⟩)
            refine Or.inl ⟨bc gv, gu g 1 k' l (g 1 k' l ||| gv), (F112 b' k' l w q 0 e 0 (nI 0) (gu (gu g 1 k' l (g 1 k' l ||| gv)) 65 0 0 0)).2, k62, fun c s x o => (hmod _ (fun f i j hf => gu_f _ _ _ _ _ _ _ _ (by omega)) (fun j => gu_f _ _ _ _ _ _ _ _ (by decide)) c s x o).trans ((m_112w N L c s x o b' k' l w q e hN hb' hk' s2 ⟨by omega, by omega⟩ (by omega) wr.1 _ ?_ ?_ ?_ ?_ ?_ ?_ ?_ ?_).trans ?_), fun j => gu_f _ _ _ _ _ _ _ _ (by decide), ?_, ?_⟩
            · rw [xf 50 0 b' (by decide) (by decide), s5]; exact nup
            · rw [xf 46 0 k' (by decide) (by decide), u2]; exact t1
            · rw [xf 51 0 b' (by decide) (by decide), s8]; exact e3
            · rw [x65 2 (by decide)]; exact gw
            · rw [x65 3 (by decide)]; exact gq
            · rw [xf 53 0 b' (by decide) (by decide)]; exact s11
            · rw [xf 54 0 b' (by decide) (by decide)]; exact wr.2.2.1
            · rw [xf 49 0 _ (by decide) (by decide)]; exact Classical.byContradiction (fun y => hf ((u4 l s2).mpr y))
            · rw [← (v1.trans hcnt.symm)]
              rfl
            · rw [v2 65 0 0 (by decide) (by decide) (by decide), gu_same]
            · generalize (F112 b' k' l w q 0 e 0 (nI 0) (gu (gu g 1 k' l (g 1 k' l ||| gv)) 65 0 0 0)).2 = G at v2 v3 v4 v5 v6 v7
              have f1 : ∀ f i j, ¬ f = 47 → ¬ f = 48 → ¬ f = 58 → ¬ f = 1 → ¬ f = 65 → G f i j = g f i j := fun f i j b1 b2 b3 b4 b5 => by rw [v2 f i j b1 b2 b3, xf f i j b4 b5]
              have ho : out [47, 48, 58, 1, 65] g G := fun f hf i j => by
                have n1 : ¬ f = 47 ∧ ¬ f = 48 ∧ ¬ f = 58 ∧ ¬ f = 1 ∧ ¬ f = 65 := by
                  simp at hf
                  omega
                exact f1 f i j n1.1 n1.2.1 n1.2.2.1 n1.2.2.2.1 n1.2.2.2.2
              have g65 : ago [1, 2, 3, 4, 5, 6, 7, 8, 14] g G := fun j hj => by rw [v2 65 0 j (by decide) (by decide) (by decide), x65 j ((by decide : ∀ j, j ∈ [1, 2, 3, 4, 5, 6, 7, 8, 14] → ¬ j = 0) j hj)]
              have gA1 : ∀ i j, G 1 i j = if i = k' ∧ j = l then g 1 k' l ||| gv else g 1 i j := fun i j => by
                rw [v2 1 i j (by decide) (by decide) (by decide), gu_f _ _ _ _ _ _ _ _ (by decide)]
                by_cases y : i = k' ∧ j = l
                · rw [if_pos y, y.1, y.2, gu_same]
                · rw [if_neg y, gu_ne _ _ _ _ _ _ _ _ (fun t => y ⟨t.2.1, t.2.2⟩)]
              have g58 : ∀ j, G 58 0 j = g 58 0 j := fun j => by
                by_cases y : j = 6 * b' + k'
                · rw [y]
                  refine m6_e v6 r58 (fun x hx => (v7 x hx).trans ?_)
                  rw [xf 58 0 _ (by decide) (by decide)]
                  exact ⟨fun t => t.elim id (fun u => absurd rfl u.1), Or.inl⟩
                · rw [v5 j y, xf 58 0 j (by decide) (by decide)]
              have cnd : ∀ j x, x < 8 → j = 80 * k' + 8 * l + x → ((80 * k' + 8 * l + 0 ≤ j ∧ j < 80 * k' + 8 * l + 0 + e ∧ gP k' l w q (gu (gu g 1 k' l (g 1 k' l ||| gv)) 65 0 0 0) (j - (80 * k' + 8 * l))) ↔ (x < e ∧ bt (g 12 l x) k' ∧ ¬ bt (g 1 k' l) x)) := fun j x hx hj => by
                have he6 := wr.1
                rw [hj, show 80 * k' + 8 * l + x - (80 * k' + 8 * l) = x by omega]
                refine ⟨fun y => ⟨by omega, (hP x (by omega)).mp y.2.2⟩, fun y => ⟨by omega, by omega, (hP x (by omega)).mpr y.2⟩⟩
              have nor : ∀ j, ¬ (80 * k' + 8 * l ≤ j ∧ j < 80 * k' + 8 * l + 6) → G 47 0 j = g 47 0 j ∧ G 48 0 j = g 48 0 j := fun j hj => by
                have he6 := wr.1
                obtain ⟨x1, x2⟩ := v4 j (fun y => hj (by omega))
                rw [x1, x2, xf 47 0 j (by decide) (by decide), xf 48 0 j (by decide) (by decide)]
                exact ⟨rfl, rfl⟩
              refine nxt_k hb (Rel_BK hb' hk' (out_m ho (by decide)) g65 (fun k2 hk2 e2 => ⟨fun j => ho 26 (by decide) _ _, fun l2 hl2 => ho 49 (by decide) _ _, fun l2 hl2 => ⟨by rw [gA1, if_neg (fun y => e2 y.1)], ho 2 (by decide) _ _⟩, fun t ht => nor _ (by omega)⟩) ⟨rKu_a (ag_o ho (by decide)) ⟨u1, u2, u3, u4⟩, rKh_add False s2 wr.1 (fun l2 hl2 => ?_) (fun l2 hl2 => ⟨fun y => absurd y.2 id, fun _ => ho 2 (by decide) _ _⟩) m6g hgv (fun l2 x hl2 hx => ⟨fun y => ?_, fun y => ?_⟩) (fun x hx => ((wr.2.2.2.2.2.2 h3 x (by have := wr.1; omega)).1 hx)) (ag_o ho (by decide)) uh⟩ (fun b2 hb2 e2 => ⟨fun j => ho 28 (by decide) _ _, ho 56 (by decide) _ _, fun i hi => ⟨ho 4 (by decide) _ _, ho 5 (by decide) _ _, ho 57 (by decide) _ _, g58 _⟩⟩) (rB_c (fun j => ho 28 (by decide) _ _) (fun f hf => ?_) (fun f hf i hi => ?_) (fun f hf i hi => ?_) (ag_o ho (by decide)) (g65 4 (by decide)) ⟨ph, l, ve, e, s', wr, rr⟩) r) (fun j => ho 0 (by decide) _ _)
              · rw [gA1]
                by_cases y : l2 = l
                · rw [if_pos ⟨rfl, y⟩, if_pos y]
                · rw [if_neg (fun t => y t.2), if_neg y]
              · obtain ⟨y1, y2⟩ := y
                subst y1
                obtain ⟨x1, x2⟩ := v3 _ ((cnd _ x hx rfl).mpr y2)
                rw [x1, x2, xf 44 0 _ (by decide) (by decide), show 80 * k' + 8 * l2 + x - 80 * k' = 8 * l2 + x by omega, ← (r.2.2.2.1.2.2.2 (8 * l2 + x) (by omega)).1]
                exact ⟨rfl, fun t => absurd t id, fun _ => rfl⟩
              · by_cases e2 : l2 = l
                · subst e2
                  obtain ⟨x1, x2⟩ := v4 _ (fun t => y ⟨rfl, (cnd _ x hx rfl).mp t⟩)
                  rw [x1, x2, xf 47 0 _ (by decide) (by decide), xf 48 0 _ (by decide) (by decide)]
                  exact ⟨rfl, rfl⟩
                · exact nor _ (by omega)
              · simp at hf
                rcases hf with rfl | rfl | rfl | rfl | rfl | rfl <;> exact ho _ (by decide) _ _
              · simp at hf
                rcases hf with rfl | rfl | rfl <;> exact ho _ (by decide) _ _
              · simp at hf
                rcases hf with rfl | rfl | rfl
                · exact ho 55 (by decide) _ _
                · exact ho 57 (by decide) _ _
                · exact g58 _
        · have n3 : ¬ nI ph = 3 := fun y => h3 ((ph_i s1 (k := 3) (by decide)).mp y)
          have t3 : ¬ g 28 b' 1 = 3 := by rw [s7]; exact n3
          by_cases hen : nI ph = 1 ∧ F113 b' l w q g w 0 = true
          · have e1 : nI ph = 1 := hen.1
            have h1 : ph = 1 := (ph_i s1 (k := 1) (by decide)).mp e1
            obtain ⟨hln, hl3⟩ := s12 (Or.inl h1)
            obtain ⟨_, hLe, hLw⟩ := r.2.2.1.1 l hln
            have nup : ¬ g 28 b' 0 = 0 := fun y => by have := s6 y; omega
            have h46 : ∀ c s x o, av_cal 46 [.inr (.inr (some (64, 0))), .inr (.inr (some (28, b')))] (mm N L c s x o g) = some (.inl (some (.inl 1)), mm N L c s x o g) := fun c s x o => by
              rw [m_46 N L c s x o b' l w s2 (by omega) g hl3 r.1.1 (s7.trans e1), bI_t]
              rw [en_e hp r.1 hLe hLw rr.2.1 rr.1 w 0 (by omega)]
              exact hen.2
            rw [bI_t _ hen] at hmod
            by_cases hv : g 23 0 0 ≤ g 28 b' 2
            · have hc6 := cF_le b' g
              obtain ⟨E1, E2⟩ := F64_b l k' g (cF b' g) 0 0 (by omega) m6_0
              obtain ⟨mh1, mh2, me⟩ := uh l s2
              have hgv : ∀ x, x < 6 → (bt (F64 l (nI k') g (cF b' g) 0 0 &&& (g 1 k' l ^^^ (-1))) x ↔ (x < cF b' g ∧ bt (g 12 l x) k' ∧ ¬ bt (g 1 k' l) x)) := fun x hx => by
                rw [bt_an E1 mh1 (by omega), E2 x hx]
                exact ⟨fun y => ⟨by rcases y.1 with t | t; exact absurd t (bt_0 (by omega)); omega, by rcases y.1 with t | t; exact absurd t (bt_0 (by omega)); exact t.2.2, y.2⟩, fun y => ⟨Or.inr ⟨by omega, by omega, y.2.1⟩, y.2.2⟩⟩
              have m6g : m6 (F64 l (nI k') g (cF b' g) 0 0 &&& (g 1 k' l ^^^ (-1))) := m6_an E1 mh1
              have cf : F2 k' l (F64 l (nI k') g (cF b' g) 0 0) 1 g = gu (gu g 1 k' l (g 1 k' l ||| (F64 l (nI k') g (cF b' g) 0 0 &&& (g 1 k' l ^^^ (-1))))) 2 k' l (g 2 k' l ||| (F64 l (nI k') g (cF b' g) 0 0 &&& (g 1 k' l ^^^ (-1)))) := by
                unfold F2
                rw [if_neg (by decide), gu_f _ _ _ _ 2 _ _ _ (by decide)]
              have k62 := fun c s x o => m_62r N L c s x o b' k' l hN hb' hk' s2 g (hE.1 c s x o) t1 t3 (h46 c s x o) hl3 hv
              rw [cf] at k62
              generalize hgg : F64 l (nI k') g (cF b' g) 0 0 &&& (g 1 k' l ^^^ (-1)) = gv at k62 hgv m6g cf
              have xf : ∀ f i j, ¬ f = 1 → ¬ f = 2 → ¬ f = 5 → ¬ f = 65 → gu (gu (gu (gu g 1 k' l (g 1 k' l ||| gv)) 2 k' l (g 2 k' l ||| gv)) 5 b' k' (g 5 b' k' ||| gv)) 65 0 0 0 f i j = g f i j := fun f i j b1 b2 b3 b4 => by rw [gu_f _ _ _ _ _ _ _ _ b4, gu_f _ _ _ _ _ _ _ _ b3, gu_f _ _ _ _ _ _ _ _ b2, gu_f _ _ _ _ _ _ _ _ b1]
              have x65 : ∀ j, ¬ j = 0 → gu (gu (gu (gu g 1 k' l (g 1 k' l ||| gv)) 2 k' l (g 2 k' l ||| gv)) 5 b' k' (g 5 b' k' ||| gv)) 65 0 0 0 65 0 j = g 65 0 j := fun j hj => by rw [gu_k _ _ _ _ _ _ hj, gu_f _ _ _ _ _ _ _ _ (by decide), gu_f _ _ _ _ _ _ _ _ (by decide), gu_f _ _ _ _ _ _ _ _ (by decide)]
              have xa : ∀ f i j, ¬ f = 1 → ¬ f = 2 → ¬ f = 5 → gu (gu (gu g 1 k' l (g 1 k' l ||| gv)) 2 k' l (g 2 k' l ||| gv)) 5 b' k' (g 5 b' k' ||| gv) f i j = g f i j := fun f i j b1 b2 b3 => by rw [gu_f _ _ _ _ _ _ _ _ b3, gu_f _ _ _ _ _ _ _ _ b2, gu_f _ _ _ _ _ _ _ _ b1]
              have r58 := (rr.2.2.2 k' (by omega)).2.2.1
              have eFo : F7b (F114a b' (gu (gu (gu (gu g 1 k' l (g 1 k' l ||| gv)) 2 k' l (g 2 k' l ||| gv)) 5 b' k' (g 5 b' k' ||| gv)) 65 0 0 0) 6 0 0) 6 0 = cF b' g := by
                rw [F114a_c (g := g) (xf 56 0 b' (by decide) (by decide) (by decide) (by decide)) (fun j => xf 57 0 j (by decide) (by decide) (by decide) (by decide)), cF_e rr]
              have k112 := fun c s x o => m_112r N L c s x o b' k' l w q hN hb' hk' s2 ⟨by omega, by omega⟩ (by omega) (gu (gu (gu (gu g 1 k' l (g 1 k' l ||| gv)) 2 k' l (g 2 k' l ||| gv)) 5 b' k' (g 5 b' k' ||| gv)) 65 0 0 0) (by rw [xf 50 0 b' (by decide) (by decide) (by decide) (by decide), s5]; exact nup) (by rw [xf 46 0 k' (by decide) (by decide) (by decide) (by decide), u2]; exact t1) (by rw [xf 51 0 b' (by decide) (by decide) (by decide) (by decide), s8]; exact n3) (by rw [x65 2 (by decide)]; exact gw) (by rw [x65 3 (by decide)]; exact gq) (by rw [xf 53 0 b' (by decide) (by decide) (by decide) (by decide)]; exact s11) (by rw [F113_c (g := g) (fun j => xf 36 0 j (by decide) (by decide) (by decide) (by decide)) (xf 56 0 b' (by decide) (by decide) (by decide) (by decide)) (x65 3 (by decide)) (x65 4 (by decide))]; exact hen.2) (by rw [x65 5 (by decide), xf 52 0 b' (by decide) (by decide) (by decide) (by decide)]; exact (v_m hb' r).mpr hv)
              rw [eFo] at k112
              obtain ⟨v1, v2, v3, v4, v5, v6, v7⟩ := F112_v b' k' l w q 1 (cF b' g) 0 0 (gu (gu (gu (gu g 1 k' l (g 1 k' l ||| gv)) 2 k' l (g 2 k' l ||| gv)) 5 b' k' (g 5 b' k' ||| gv)) 65 0 0 0) (by omega) (by rw [xf 58 0 _ (by decide) (by decide) (by decide) (by decide)]; exact r58)
              have hP : ∀ x, x < 6 → (gP k' l w q (gu (gu (gu (gu g 1 k' l (g 1 k' l ||| gv)) 2 k' l (g 2 k' l ||| gv)) 5 b' k' (g 5 b' k' ||| gv)) 65 0 0 0) x ↔ (bt (g 12 l x) k' ∧ ¬ bt (g 1 k' l) x)) := fun x hx => by
                unfold gP
                rw [F111_c (g := g) (fun j => xf 36 0 j (by decide) (by decide) (by decide) (by decide)), wr_z, Classical.not_not, (hLw x hx).2 k' (by omega), xf 47 0 _ (by decide) (by decide) (by decide) (by decide), has_p hb r hk' s2 (by omega), Classical.not_not]
              have hcnt : bc gv = nI (0 + ct (gP k' l w q (gu (gu (gu (gu g 1 k' l (g 1 k' l ||| gv)) 2 k' l (g 2 k' l ||| gv)) 5 b' k' (g 5 b' k' ||| gv)) 65 0 0 0)) (cF b' g) 0) := by
                rw [bc_ct m6g, Nat.zero_add]
                refine congrArg nI ?_
                have h6 : 6 = cF b' g + (6 - cF b' g) := by omega
                rw [h6, ct_sp, ct_0 (6 - cF b' g) (0 + cF b' g) (fun j h1 h2 y => by have := (hgv j (by omega)).mp y; omega), Nat.add_zero]
                exact ct_c (cF b' g) 0 (fun j _ hj => by rw [hgv j (by omega), hP j (by omega)]; exact ⟨fun y => y.2, fun y => ⟨by omega, y⟩⟩)
              refine Or.inl ⟨bc gv, gu (gu (gu g 1 k' l (g 1 k' l ||| gv)) 2 k' l (g 2 k' l ||| gv)) 5 b' k' (g 5 b' k' ||| gv), (F112 b' k' l w q 1 (cF b' g) 0 (nI 0) (gu (gu (gu (gu g 1 k' l (g 1 k' l ||| gv)) 2 k' l (g 2 k' l ||| gv)) 5 b' k' (g 5 b' k' ||| gv)) 65 0 0 0)).2, k62, fun c s x o => (hmod _ (fun f i j hf => xa f i j (by omega) (by omega) (by omega)) (fun j => xa 65 0 j (by decide) (by decide) (by decide)) c s x o).trans ((k112 c s x o).trans ?_), fun j => xa 0 0 j (by decide) (by decide) (by decide), ?_, ?_⟩
              · rw [← (v1.trans hcnt.symm)]
                rfl
              · rw [v2 65 0 0 (by decide) (by decide) (by decide), gu_same]
              · generalize (F112 b' k' l w q 1 (cF b' g) 0 (nI 0) (gu (gu (gu (gu g 1 k' l (g 1 k' l ||| gv)) 2 k' l (g 2 k' l ||| gv)) 5 b' k' (g 5 b' k' ||| gv)) 65 0 0 0)).2 = G at v2 v3 v4 v5 v6 v7
                have ho : out [47, 48, 58, 1, 2, 5, 65] g G := fun f hf i j => by
                  have n1 : ¬ f = 47 ∧ ¬ f = 48 ∧ ¬ f = 58 ∧ ¬ f = 1 ∧ ¬ f = 2 ∧ ¬ f = 5 ∧ ¬ f = 65 := by
                    simp at hf
                    omega
                  rw [v2 f i j n1.1 n1.2.1 n1.2.2.1, xf f i j n1.2.2.2.1 n1.2.2.2.2.1 n1.2.2.2.2.2.1 n1.2.2.2.2.2.2]
                have g65 : ago [1, 2, 3, 4, 5, 6, 7, 8, 14] g G := fun j hj => by rw [v2 65 0 j (by decide) (by decide) (by decide), x65 j ((by decide : ∀ j, j ∈ [1, 2, 3, 4, 5, 6, 7, 8, 14] → ¬ j = 0) j hj)]
                have gA1 : ∀ i j, G 1 i j = if i = k' ∧ j = l then g 1 k' l ||| gv else g 1 i j := fun i j => by
                  rw [v2 1 i j (by decide) (by decide) (by decide), gu_f _ _ _ _ _ _ _ _ (by decide), gu_f _ _ _ _ _ _ _ _ (by decide), gu_f _ _ _ _ _ _ _ _ (by decide)]
                  by_cases y : i = k' ∧ j = l
                  · rw [if_pos y, y.1, y.2, gu_same]
                  · rw [if_neg y, gu_ne _ _ _ _ _ _ _ _ (fun t => y ⟨t.2.1, t.2.2⟩)]
                have gA2 : ∀ i j, G 2 i j = if i = k' ∧ j = l then g 2 k' l ||| gv else g 2 i j := fun i j => by
                  rw [v2 2 i j (by decide) (by decide) (by decide), gu_f _ _ _ _ _ _ _ _ (by decide), gu_f _ _ _ _ _ _ _ _ (by decide)]
                  by_cases y : i = k' ∧ j = l
                  · rw [if_pos y, y.1, y.2, gu_same]
                  · rw [if_neg y, gu_ne _ _ _ _ _ _ _ _ (fun t => y ⟨t.2.1, t.2.2⟩), gu_f _ _ _ _ _ _ _ _ (by decide)]
                have gA5 : ∀ i j, G 5 i j = if i = b' ∧ j = k' then g 5 b' k' ||| gv else g 5 i j := fun i j => by
                  rw [v2 5 i j (by decide) (by decide) (by decide), gu_f _ _ _ _ _ _ _ _ (by decide)]
                  by_cases y : i = b' ∧ j = k'
                  · rw [if_pos y, y.1, y.2, gu_same]
                  · rw [if_neg y, gu_ne _ _ _ _ _ _ _ _ (fun t => y ⟨t.2.1, t.2.2⟩), gu_f _ _ _ _ _ _ _ _ (by decide), gu_f _ _ _ _ _ _ _ _ (by decide)]
                have g58 : ∀ j, ¬ j = 6 * b' + k' → G 58 0 j = g 58 0 j := fun j y => by rw [v5 j y, xf 58 0 j (by decide) (by decide) (by decide) (by decide)]
                have g58b : ∀ x, x < 6 → (bt (G 58 0 (6 * b' + k')) x ↔ bt (g 58 0 (6 * b' + k')) x ∨ bt gv x) := fun x hx => (v7 x hx).trans (by
                  rw [xf 58 0 _ (by decide) (by decide) (by decide) (by decide), hgv x hx]
                  exact ⟨fun t => t.imp id (fun u => ⟨by omega, (hP x hx).mp u.2.2.2⟩), fun t => t.imp id (fun u => ⟨by decide, by omega, by omega, (hP x hx).mpr u.2⟩)⟩)
                have cnd : ∀ j x, x < 8 → j = 80 * k' + 8 * l + x → ((80 * k' + 8 * l + 0 ≤ j ∧ j < 80 * k' + 8 * l + 0 + cF b' g ∧ gP k' l w q (gu (gu (gu (gu g 1 k' l (g 1 k' l ||| gv)) 2 k' l (g 2 k' l ||| gv)) 5 b' k' (g 5 b' k' ||| gv)) 65 0 0 0) (j - (80 * k' + 8 * l))) ↔ (x < cF b' g ∧ bt (g 12 l x) k' ∧ ¬ bt (g 1 k' l) x)) := fun j x hx hj => by
                  rw [hj, show 80 * k' + 8 * l + x - (80 * k' + 8 * l) = x by omega]
                  refine ⟨fun y => ⟨by omega, (hP x (by omega)).mp y.2.2⟩, fun y => ⟨by omega, by omega, (hP x (by omega)).mpr y.2⟩⟩
                have nor : ∀ j, ¬ (80 * k' + 8 * l ≤ j ∧ j < 80 * k' + 8 * l + 6) → G 47 0 j = g 47 0 j ∧ G 48 0 j = g 48 0 j := fun j hj => by
                  obtain ⟨x1, x2⟩ := v4 j (fun y => hj (by omega))
                  rw [x1, x2, xf 47 0 j (by decide) (by decide) (by decide) (by decide), xf 48 0 j (by decide) (by decide) (by decide) (by decide)]
                  exact ⟨rfl, rfl⟩
                have h12 : ∀ i j, G 12 i j = g 12 i j := fun i j => ho 12 (by decide) i j
                have h17 : ∀ i j, G 17 i j = g 17 i j := fun i j => ho 17 (by decide) i j
                refine nxt_k hb (Rel_BK hb' hk' (out_m ho (by decide)) g65 (fun k2 hk2 e2 => ⟨fun j => ho 26 (by decide) _ _, fun l2 hl2 => ho 49 (by decide) _ _, fun l2 hl2 => ⟨by rw [gA1, if_neg (fun y => e2 y.1)], by rw [gA2, if_neg (fun y => e2 y.1)]⟩, fun t ht => nor _ (by omega)⟩) ⟨rKu_a (ag_o ho (by decide)) ⟨u1, u2, u3, u4⟩, rKh_add True s2 hc6 (fun l2 hl2 => ?_) (fun l2 hl2 => ⟨fun y => ?_, fun y => ?_⟩) m6g hgv (fun l2 x hl2 hx => ⟨fun y => ?_, fun y => ?_⟩) (fun x hx => cF_at rr hx) (ag_o ho (by decide)) uh⟩ (fun b2 hb2 e2 => ⟨fun j => ho 28 (by decide) _ _, ho 56 (by decide) _ _, fun i hi => ⟨ho 4 (by decide) _ _, by rw [gA5, if_neg (fun y => e2 y.1)], ho 57 (by decide) _ _, g58 _ (by omega)⟩⟩) ⟨ph, l, ve, e, rBs_c (fun j => ho 28 (by decide) _ _) (fun f hf => ?_) s', rBw_c (fun j => ho 28 (by decide) _ _) (ho 54 (by decide) _ _) (fun i _ => ho 3 (by decide) _ _) (fun i _ => ho 55 (by decide) _ _) (ag_o ho (by decide)) (g65 4 (by decide)) wr, ⟨?_, ?_, ?_, fun k2 hk2 => ?_⟩⟩ r) (fun j => ho 0 (by decide) _ _)
                · rw [gA1]
                  by_cases y : l2 = l
                  · rw [if_pos ⟨rfl, y⟩, if_pos y]
                  · rw [if_neg (fun t => y t.2), if_neg y]
                · rw [gA2, if_pos ⟨rfl, y.1⟩]
                · rw [gA2, if_neg (fun t => y ⟨t.2, trivial⟩)]
                · obtain ⟨y1, y2⟩ := y
                  subst y1
                  obtain ⟨x1, x2⟩ := v3 _ ((cnd _ x hx rfl).mpr y2)
                  rw [x1, x2, xf 44 0 _ (by decide) (by decide) (by decide) (by decide), show 80 * k' + 8 * l2 + x - 80 * k' = 8 * l2 + x by omega, ← (r.2.2.2.1.2.2.2 (8 * l2 + x) (by omega)).1]
                  exact ⟨rfl, fun _ => rfl, fun t => absurd trivial t⟩
                · by_cases e2 : l2 = l
                  · subst e2
                    obtain ⟨x1, x2⟩ := v4 _ (fun t => y ⟨rfl, (cnd _ x hx rfl).mp t⟩)
                    rw [x1, x2, xf 47 0 _ (by decide) (by decide) (by decide) (by decide), xf 48 0 _ (by decide) (by decide) (by decide) (by decide)]
                    exact ⟨rfl, rfl⟩
                  · exact nor _ (by omega)
                · simp at hf
                  rcases hf with rfl | rfl | rfl | rfl <;> exact ho _ (by decide) _ _
                · rw [ho 28 (by decide), ho 56 (by decide)]; exact rr.1
                · rw [ho 28 (by decide)]; exact rr.2.1
                · rw [ho 28 (by decide)]; exact rr.2.2.1
                · obtain ⟨c1, c2, c3, c4, c5, c6, c7⟩ := rr.2.2.2 k2 hk2
                  have i4 : G 4 b' k2 = g 4 b' k2 := ho 4 (by decide) _ _
                  have i57 : G 57 0 (6 * b' + k2) = g 57 0 (6 * b' + k2) := ho 57 (by decide) _ _
                  have i6 : G 28 b' 6 = g 28 b' 6 := ho 28 (by decide) _ _
                  by_cases y : k2 = k'
                  · subst y
                    have i5 : G 5 b' k2 = g 5 b' k2 ||| gv := by rw [gA5, if_pos ⟨rfl, rfl⟩]
                    have m5 : m6 (g 5 b' k2) := by rw [c4, ← c1]; exact m6_or c2 c3
                    rw [i4, i57, i6, i5]
                    refine ⟨c1, c2, v6, ?_, c5, fun t => absurd h1 t, fun i hi t => ?_⟩
                    · refine m6_e (m6_or m5 m6g) (m6_or (by rw [← c1]; exact c2) v6) (fun x hx => ?_)
                      rw [bt_or m5 m6g (by omega), bt_or (by rw [← c1]; exact c2) v6 (by omega), g58b x hx, c4, bt_or (by rw [← c1]; exact c2) c3 (by omega), or_assoc]
                    · rw [h12, h17]
                      rcases (bt_or m5 m6g (by omega)).mp t with t | t
                      · exact c7 i hi t
                      · exact ⟨((hgv i hi).mp t).2.1, cF_at rr ((hgv i hi).mp t).1⟩
                  · have i5 : G 5 b' k2 = g 5 b' k2 := by rw [gA5, if_neg (fun t => y t.2)]
                    rw [i4, i57, i6, i5, g58 _ (by omega)]
                    refine ⟨c1, c2, c3, c4, c5, c6, fun i hi t => ?_⟩
                    rw [h12, h17]
                    exact c7 i hi t
            · refine Or.inr ⟨33, 0, F8 b' g, _, by decide, fun c s x o => m_62u N L c s x o b' k' (by omega) hb' hk' g (hE.1 c s x o) t1 t3 (h46 c s x o) hv, fun c s x o => (hmod _ (fun f i j hf => F8_9 b' f i j g ?_) (fun j => F8_9 b' 65 0 j g (by decide)) c s x o).trans (m_112f N L c s x o b' k' l hN hb' hk' s2 1 _ ?_ ?_ (Or.inr (by decide)) ?_ (Or.inr ⟨by decide, ?_⟩)), fun j => F8_9 b' 0 0 j g (by decide), gu_same _ _ _ _ _, nxt_lv hb' hb r⟩
              · intro y
                simp at y
                omega
              · rw [gu_f _ _ _ _ _ _ _ _ (by decide), F8_9 b' 50 0 b' g (by decide), s5]; exact nup
              · rw [gu_f _ _ _ _ _ _ _ _ (by decide), F8_9 b' 46 0 k' g (by decide), u2]; exact t1
              · rw [gu_f _ _ _ _ _ _ _ _ (by decide), F8_9 b' 53 0 b' g (by decide)]; exact s11
              · rw [gu_k _ _ _ _ _ _ (by decide), gu_f _ _ _ _ _ _ _ _ (by decide), F8_9 b' 65 0 5 g (by decide), F8_9 b' 52 0 b' g (by decide)]
                exact fun y => hv ((v_m hb' r).mp y)
          · have h46 : ∀ c s x o, av_cal 46 [.inr (.inr (some (64, 0))), .inr (.inr (some (28, b')))] (mm N L c s x o g) = some (.inl (some (.inl 0)), mm N L c s x o g) := fun c s x o => by
              by_cases h1 : ph = 1
              · obtain ⟨hln, hl3⟩ := s12 (Or.inl h1)
                obtain ⟨_, hLe, hLw⟩ := r.2.2.1.1 l hln
                have e1 : nI ph = 1 := by rw [h1]; rfl
                rw [m_46 N L c s x o b' l w s2 (by omega) g hl3 r.1.1 (s7.trans e1), bI_f]
                rw [en_e hp r.1 hLe hLw rr.2.1 rr.1 w 0 (by omega)]
                exact fun y => hen ⟨e1, y⟩
              · exact m_46n N L c s x o b' g (by rw [s7]; exact fun y => h1 ((ph_i s1 (k := 1) (by decide)).mp y))
            rw [bI_f _ hen] at hmod
            refine Or.inr ⟨31, 0, g, _, by decide, fun c s x o => m_62t N L c s x o b' k' (by omega) hb' hk' g (hE.1 c s x o) t1 t3 (h46 c s x o), fun c s x o => (hmod g (fun _ _ _ _ => rfl) (fun _ => rfl) c s x o).trans (m_112s N L c s x o b' k' hN hb' hk' _ _ (Or.inr (Or.inr ⟨?_, rfl⟩))), fun _ => rfl, gu_same _ _ _ _ _, nxt_00 hb r⟩
            rw [mu 51 0 b' (by decide), s8]; exact n3
      · exact Or.inr ⟨30, 0, g, _, by decide, fun c s x o => m_62e N L c s x o b' k' (by omega) hb' hk' g (hE.1 c s x o), fun c s x o => m_112e N L c s x o b' k' hN hb' hk' g g1 (hE.2 _ (fun j => gu_f _ _ _ _ _ _ _ _ (by decide)) (gu_f _ _ _ _ _ _ _ _ (by decide)) (gu_f _ _ _ _ _ _ _ _ (by decide)) (gu_k _ _ _ _ _ _ (by decide)) c s x o), fun _ => rfl, gu_same _ _ _ _ _, nxt_00 hb r⟩
    · exact Or.inr ⟨30, 0, g, _, by decide, fun c s x o => m_62k N L c s x o b' hb' k hk g, fun c s x o => m_112a N L c s x o (nI b') k g g1 (fun y => hk y.2), fun _ => rfl, gu_same _ _ _ _ _, nxt_00 hb r⟩
  · exact Or.inr ⟨30, 0, g, _, by decide, fun c s x o => m_62a N L c s x o b k h g, fun c s x o => m_112a N L c s x o b k g g1 (fun y => h ((i_b3 b).mp y.1)), fun _ => rfl, gu_same _ _ _ _ _, nxt_00 hb r⟩
end O10
