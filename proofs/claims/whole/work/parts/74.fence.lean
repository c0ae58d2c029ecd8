/-! the ensemble; what a broker shows; fence -/
theorem F109_b (k l : Nat) (g : mG) : ∀ (d e : Nat) (a : Int32), e + d ≤ 6 → m6 a → m6 (F109 k l g d e a) ∧ ∀ x, x < 6 → (bt (F109 k l g d e a) x ↔ bt a x ∨ (e ≤ x ∧ x < e + d ∧ ¬ g 47 0 (80 * k + 8 * l + x) ≤ 0)) := by
  intro d
  induction d with
  | zero => exact fun e a _ h => ⟨h, fun x _ => ⟨Or.inl, fun y => y.elim id (fun z => by omega)⟩⟩
  | succ d ih =>
    intro e a he h
    have hF : F109 k l g (d + 1) e a = F109 k l g d (e + 1) (a ||| (if g 47 0 (80 * k + 8 * l + e) ≤ 0 then (0 : Int32) else 1 <<< (nI e &&& 31))) := rfl
    rw [hF]
    by_cases q : g 47 0 (80 * k + 8 * l + e) ≤ 0
    · rw [if_pos q, or_z h]
      obtain ⟨i1, i2⟩ := ih (e + 1) a (by omega) h
      refine ⟨i1, fun x hx => (i2 x hx).trans ⟨fun y => y.imp id (fun z => ⟨by omega, by omega, z.2.2⟩), fun y => y.imp id (fun z => ?_)⟩⟩
      by_cases e1 : x = e
      · exact absurd q (by rw [← e1]; exact z.2.2)
      · exact ⟨by omega, by omega, z.2.2⟩
    · rw [if_neg q]
      obtain ⟨i1, i2⟩ := ih (e + 1) (a ||| 1 <<< (nI e &&& 31)) (by omega) (m6_or h (m6_sh (by omega)))
      refine ⟨i1, fun x hx => (i2 x hx).trans ?_⟩
      rw [bt_or h (m6_sh (by omega)) (by omega), bt_sh (by omega) (by omega)]
      refine ⟨fun y => ?_, fun y => ?_⟩
      · rcases y with (y | y) | y
        · exact Or.inl y
        · exact Or.inr ⟨by omega, by omega, by rw [y]; exact q⟩
        · exact Or.inr ⟨by omega, by omega, y.2.2⟩
      · rcases y with y | y
        · exact Or.inl (Or.inl y)
        · by_cases e1 : x = e
          · exact Or.inl (Or.inr e1)
          · exact Or.inr ⟨by omega, by omega, y.2.2⟩
theorem ph_i {ph k : Nat} (h : ph ≤ 3) (hk : k ≤ 3) : (nI ph = nI k) = (ph = k) := iI_eq (by omega) (by omega)
section O9
variable {N w q a V n z M : Nat} {g : mG} (L : Nat)
/-- is bookie k in the ensemble of the broker's ledger -/
def ensOk (N L b k : Nat) (g : mG) : Prop := (∀ c s x o, av_cal 57 [.inr (.inr (some (64, 0))), .inr (.inr (some (28, b))), .inl (nI k)] (mm N L c s x o g) = some (.inl none, mm N L c s x o g)) ∧ ∀ X : mG, (∀ j, X 36 0 j = g 36 0 j) → X 51 0 b = g 51 0 b → X 53 0 b = g 53 0 b → X 65 0 2 = g 65 0 2 → ∀ c s x o, av_cal 110 [.inr (.inr (some (65, 0))), .inl (nI b), .inl (nI k)] (mm N L c s x o X) = some (.inl (some (.inl 0)), mm N L c s x o X)
def ensNo (N L b k : Nat) (g : mG) : Prop := (∀ c s x o, av_cal 57 [.inr (.inr (some (64, 0))), .inr (.inr (some (28, b))), .inl (nI k)] (mm N L c s x o g) = some (.inr (30, x 30), mm N L (c + 1) (s + 6) (mx x 30) o g)) ∧ ∀ X : mG, (∀ j, X 36 0 j = g 36 0 j) → X 51 0 b = g 51 0 b → X 53 0 b = g 53 0 b → X 65 0 2 = g 65 0 2 → ∀ c s x o, av_cal 110 [.inr (.inr (some (65, 0))), .inl (nI b), .inl (nI k)] (mm N L c s x o X) = some (.inl (some (.inl 1)), mm N L c s x o X)
theorem F111_c {l fr w' : Nat} {k : Int32} {X : mG} (h : ∀ j, X 36 0 j = g 36 0 j) : ∀ (m i : Nat) (a' : Int32), F111 l fr w' k X m i a' = F111 l fr w' k g m i a' := by
  intro m
  induction m with
  | zero => exact fun _ _ => rfl
  | succ m ih =>
    intro i a'
    show F111 l fr w' k X m (i + 1) (if a' = 0 then bI (X 36 0 (4 * l + (fr + i) % w') = k) else 1) = F111 l fr w' k g m (i + 1) (if a' = 0 then bI (g 36 0 (4 * l + (fr + i) % w') = k) else 1)
    rw [ih, h]
theorem ens_e {b k : Nat} (hp : pr N w q a) (hb : nb V n z M) (r : Rel N w q a V n z M g) (hbb : b < 3) : ensOk N L b k g ∨ ensNo N L b k g := by
  obtain ⟨p1, p2, p3, p4, p5, p6, p7, p8, p9⟩ := hp
  obtain ⟨ph, l, v, e, s, wr, rr⟩ := r.2.2.2.2.2.2.1 b hbb
  obtain ⟨s1, s2, s3, s4, s5, s6, s7, s8, s9, s10, s11, s12, s13⟩ := s
  have gw : g 65 0 2 = nI w := r.1.2.2.2.2.1
  have km : ∀ X : mG, (∀ j, X 36 0 j = g 36 0 j) → X 51 0 b = g 51 0 b → X 53 0 b = g 53 0 b → X 65 0 2 = g 65 0 2 → ∀ c s x o, av_cal 110 [.inr (.inr (some (65, 0))), .inl (nI b), .inl (nI k)] (mm N L c s x o X) = some (.inl (some (.inl (bI ((nI ph = 3 ∨ nI ph = 1) ∧ F111 l 0 w (nI k) g w 0 0 = 0)))), mm N L c s x o X) := fun X h1 h2 h3 h4 c s x o => by
    have := m_110 N L c s x o b l w hbb s2 ⟨by omega, by omega⟩ (nI k) X (h4.trans gw) (h3.trans s11)
    rw [h2, s8, F111_c h1] at this
    exact this
  by_cases hph : ph = 1 ∨ ph = 3
  · obtain ⟨hln, h3⟩ := s12 hph
    have hph' : nI ph = 3 ∨ nI ph = 1 := hph.elim (fun y => Or.inr (by rw [y]; rfl)) (fun y => Or.inl (by rw [y]; rfl))
    obtain ⟨_, hLe, _⟩ := r.2.2.1.1 l hln
    have hon := on_z (by omega) hLe (nI k)
    have k57 := fun c s x o => m_57 N L c s x o b l w s2 (by omega) (nI k) g h3 hLe.1
    by_cases y : F24 l (nI k) g w 0 = true
    · refine Or.inl ⟨fun c s x o => (k57 c s x o).trans (if_pos y), fun X h1 h2 h3 h4 c s x o => ?_⟩
      rw [km X h1 h2 h3 h4 c s x o, bI_f _ (fun t => hon.mp y t.2)]
    · refine Or.inr ⟨fun c s x o => (k57 c s x o).trans (if_neg y), fun X h1 h2 h3 h4 c s x o => ?_⟩
      rw [km X h1 h2 h3 h4 c s x o, bI_t _ ⟨hph', Classical.byContradiction (fun t => y (hon.mpr t))⟩]
  · refine Or.inl ⟨fun c s x o => m_57n N L c s x o b (nI k) g (s13 hph), fun X h1 h2 h3 h4 c s x o => ?_⟩
    rw [km X h1 h2 h3 h4 c s x o, bI_f]
    intro t
    rcases t.1 with t | t
    · exact hph (Or.inr ((ph_i s1 (k := 3) (by decide)).mp t))
    · exact hph (Or.inl ((ph_i s1 (k := 1) (by decide)).mp t))
/-- broker -/
theorem o_44 (hp : pr N w q a) (hb : nb V n z M) (r : Rel N w q a V n z M g) (b v : Int32) : opO N L 44 144 [.inl b, .inl v] (nxt N w q a V g) g := by
  have hpp := hp
  obtain ⟨p1, p2, p3, p4, p5, p6, p7, p8, p9⟩ := hp
  by_cases h : ¬ b < 0 ∧ ¬ 3 ≤ b
  · obtain ⟨b', hb', rfl⟩ := inr_of (n := 3) (by decide) h
    obtain ⟨ph, l, ve, e, s, wr, rr⟩ := r.2.2.2.2.2.2.1 b' hb'
    obtain ⟨s1, s2, s3, s4, s5, s6, s7, s8, s9, s10, s11, s12, s13⟩ := s
    have hA : ∃ A, (∀ c s x o, av_cal 45 [.inr (.inr (some (64, 0))), .inr (.inr (some (28, b')))] (mm N L c s x o g) = some (.inl (some (.inl A)), mm N L c s x o g)) ∧ A = (if nI ph = 3 then nI (F106 b' g e 0) else if nI ph = 1 then nI (if F113 b' l w q g w 0 = true then F7b (F114a b' g 6 0 0) 6 0 else 0) else 0) := by
      by_cases h3 : ph = 3
      · have e3 : nI ph = 3 := by rw [h3]; rfl
        exact ⟨_, fun c s x o => m_45w N L c s x o b' g (s7.trans e3), by rw [if_pos e3]; exact wr.2.2.2.2.1⟩
      · have n3 : ¬ nI ph = 3 := fun y => h3 ((ph_i s1 (k := 3) (by decide)).mp y)
        by_cases h1 : ph = 1
        · have e1 : nI ph = 1 := by rw [h1]; rfl
          obtain ⟨hln, hl3⟩ := s12 (Or.inl h1)
          obtain ⟨_, hLe, hLw⟩ := r.2.2.1.1 l hln
          refine ⟨_, fun c s x o => m_45r N L c s x o b' l w s2 (by omega) g hl3 r.1.1 (s7.trans e1), ?_⟩
          rw [if_neg n3, if_pos e1, en_e hpp r.1 hLe hLw rr.2.1 rr.1 w 0 (by omega), cF_e rr]
          by_cases y : F113 b' l w q g w 0 = true
          · rw [if_pos y, if_pos y]
          · rw [if_neg y, if_neg y]; rfl
        · have n1 : ¬ nI ph = 1 := fun y => h1 ((ph_i s1 (k := 1) (by decide)).mp y)
          exact ⟨_, fun c s x o => m_45n N L c s x o b' g (by rw [s7]; exact n1) (by rw [s7]; exact n3), by rw [if_neg n3, if_neg n1]⟩
    obtain ⟨A, hA1, hA2⟩ := hA
    by_cases hv : ¬ v < 0 ∧ ¬ 4 ≤ v
    · obtain ⟨v', hv', rfl⟩ := inr_of (n := 4) (by decide) hv
      refine ⟨_, _, fun c s x o => m_44 N L c s x o b' hb' (nI v') A g (hA1 c s x o), fun c s x o => ?_, nxt_0 (v := 0) hb r⟩
      rw [m_144 N L c s x o b' e l w q hb' wr.1 s2 ⟨by omega, by omega⟩ (by omega) v' hv' g r.1.2.2.2.2.1 r.1.2.2.2.2.2.1 s11 wr.2.2.1, s5, s8, s10, s9, s7, s11]
      have hv4 : v' = 0 ∨ v' = 1 ∨ v' = 2 ∨ v' = 3 := by omega
      rcases hv4 with rfl | rfl | rfl | rfl
      · simp only [show (nI 0 = 0) = True from eq_true rfl, ↓reduceIte]
      · simp only [show (nI 1 = 0) = False from eq_false (by decide), show (nI 1 = 1) = True from eq_true rfl, ↓reduceIte, show ((1 : Nat) = 0) = False from eq_false (by decide)]
        by_cases y : ph = 1 ∨ ph = 3
        · rw [(s12 y).2, if_pos (y.elim (fun t => Or.inr (by rw [t]; rfl)) (fun t => Or.inl (by rw [t]; rfl)))]
        · rw [s13 y, if_neg]
          intro t
          rcases t with t | t
          · exact y (Or.inr ((ph_i s1 (k := 3) (by decide)).mp t))
          · exact y (Or.inl ((ph_i s1 (k := 1) (by decide)).mp t))
      · simp only [show (nI 2 = 0) = False from eq_false (by decide), show (nI 2 = 1) = False from eq_false (by decide), show (nI 2 = 2) = True from eq_true rfl, ↓reduceIte, show ((2 : Nat) = 0) = False from eq_false (by decide), show ((2 : Nat) = 1) = False from eq_false (by decide)]
        rw [hA2]
      · simp only [show (nI 3 = 0) = False from eq_false (by decide), show (nI 3 = 1) = False from eq_false (by decide), show (nI 3 = 2) = False from eq_false (by decide), show (nI 3 = 3) = True from eq_true rfl, ↓reduceIte, show ((3 : Nat) = 0) = False from eq_false (by decide), show ((3 : Nat) = 1) = False from eq_false (by decide), show ((3 : Nat) = 2) = False from eq_false (by decide)]
    · refine ⟨-2, _, fun c s x o => ?_, fun c s x o => m_144o N L c s x o (nI b') v g (fun y => hv ⟨y.2.1, (i_le (k := 3) (by decide) v).mp y.2.2⟩), nxt_0 (v := 0) hb r⟩
      have nv : ∀ j, j < 4 → ¬ v = nI j := fun j hj y => hv (by rw [y]; exact Eq.mpr (inr_to (n := 4) hj (by decide)) trivial)
      rw [m_44 N L c s x o b' hb' v A g (hA1 c s x o), if_neg (show ¬ v = 0 from nv 0 (by decide)), if_neg (show ¬ v = 1 from nv 1 (by decide)), if_neg (show ¬ v = 2 from nv 2 (by decide)), if_neg (show ¬ v = 3 from nv 3 (by decide))]
  · exact ⟨_, _, fun c s x o => m_44o N L c s x o b v h g, fun c s x o => m_144o N L c s x o b v g (fun y => h ((i_b3 b).mp y.1)), nxt_0 (v := 0) hb r⟩
/-- broker b and bookie k change, as the changes say -/
theorem Rel_BK {b k : Nat} {G : mG} (hbb : b < 3) (hk : k < N) (h : out [26, 28, 4, 5, 49, 56, 57, 58, 1, 2, 47, 48, 65, 63, 0] g G) (h5 : ago [1, 2, 3, 4, 5, 6, 7, 8, 14] g G) (hok : ∀ k', k' < N → ¬ k' = k → (∀ j, G 26 k' j = g 26 k' j) ∧ (∀ l, l < 10 → G 49 0 (10 * k' + l) = g 49 0 (10 * k' + l)) ∧ (∀ l, l < 10 → G 1 k' l = g 1 k' l ∧ G 2 k' l = g 2 k' l) ∧ ∀ t, t < 80 → G 47 0 (80 * k' + t) = g 47 0 (80 * k' + t) ∧ G 48 0 (80 * k' + t) = g 48 0 (80 * k' + t)) (hn : rKu k G ∧ rKh k G) (hob : ∀ b', b' < 3 → ¬ b' = b → (∀ j, G 28 b' j = g 28 b' j) ∧ G 56 0 b' = g 56 0 b' ∧ (∀ i, i < 6 → G 4 b' i = g 4 b' i ∧ G 5 b' i = g 5 b' i ∧ G 57 0 (6 * b' + i) = g 57 0 (6 * b' + i) ∧ G 58 0 (6 * b' + i) = g 58 0 (6 * b' + i))) (hB : rB n V b G) (r : Rel N w q a V n z M g) : Rel N w q a V n z M G := by
  obtain ⟨a1, a2, a3, a4, a5, a6, a7, a8, a9, a10⟩ := r
  have s5 : ∀ js : List Nat, (∀ j, j ∈ js → j ∈ [1, 2, 3, 4, 5, 6, 7, 8, 14]) → ago js g G := fun js hs j hj => h5 j (hs j hj)
  refine ⟨rP_c (ag_o h (by decide)) (s5 _ (by decide)) a1, rM_c (ag_o h (by decide)) (s5 _ (by decide)) a2, rLL_c (ag_o h (by decide)) a3, rS_c (ag_o h (by decide)) (s5 _ (by decide)) a4, rH_c (ag_o h (by decide)) a5, fun k' hk' => ?_, fun b' hb' => ?_, rW_c (ag_o h (by decide)) (s5 _ (by decide)) a8, fun d hd => rD_a (ag_o h (by decide)) (a9 d hd), fun t ht => rV_a (ag_o h (by decide)) (a10 t ht)⟩
  · by_cases e : k' = k
    · subst e; exact hn
    · obtain ⟨o1, o3, o4, o5⟩ := hok k' hk' e
      exact ⟨rKu_c o1 (h 46 (by decide) 0 k') o3 (a6 k' hk').1, rKh_c (fun l hl => (o4 l hl).1) (fun l hl => (o4 l hl).2) (fun t ht => (o5 t ht).1) (fun t ht => (o5 t ht).2) (ag_o h (by decide)) (a6 k' hk').2⟩
  · by_cases e : b' = b
    · subst e; exact hB
    · obtain ⟨o1, o2, o3⟩ := hob b' hb' e
      refine rB_c o1 (fun f hf => ?_) (fun f hf i hi => ?_) (fun f hf i hi => ?_) (ag_o h (by decide)) (h5 4 (by decide)) (a7 b' hb')
      · by_cases e6 : f = 56
        · rw [e6]; exact o2
        · refine h f ?_ 0 b'
          simp at hf ⊢
          omega
      · simp at hf
        rcases hf with rfl | rfl | rfl
        · exact h 3 (by decide) _ _
        · exact (o3 i hi).1
        · exact (o3 i hi).2.1
      · simp at hf
        rcases hf with rfl | rfl | rfl
        · exact h 55 (by decide) _ _
        · exact (o3 i hi).2.2.1
        · exact (o3 i hi).2.2.2
theorem op_55 (hp : pr N w q a) (hb : nb V n z M) (r : Rel N w q a V n z M g) (b k : Int32) : opI N L 55 109 [.inl b, .inl k] (cd 151) (nxt N w q a V g) g := by
  have hN : N ≤ 6 := hp.2.1
  have g1 := r.1.2.2.2.1
  by_cases h : ¬ b < 0 ∧ ¬ 3 ≤ b
  · obtain ⟨b', hb', rfl⟩ := inr_of (n := 3) (by decide) h
    by_cases hk : ¬ k < 0 ∧ ¬ nI N ≤ k
    · obtain ⟨k', hk', rfl⟩ := inr_of (n := N) (by omega) hk
      obtain ⟨⟨u1, u2, u3, u4⟩, uh⟩ := r.2.2.2.2.2.1 k' hk'
      obtain ⟨ph, l, ve, e, s, wr, rr⟩ := r.2.2.2.2.2.2.1 b' hb'
      have s' := s
      obtain ⟨s1, s2, s3, s4, s5, s6, s7, s8, s9, s10, s11, s12, s13⟩ := s
      have z36 : ∀ u, (∀ j, gu g 65 0 0 u 36 0 j = g 36 0 j) ∧ gu g 65 0 0 u 51 0 b' = g 51 0 b' ∧ gu g 65 0 0 u 53 0 b' = g 53 0 b' ∧ gu g 65 0 0 u 65 0 2 = g 65 0 2 := fun u => ⟨fun j => gu_f _ _ _ _ _ _ _ _ (by decide), gu_f _ _ _ _ _ _ _ _ (by decide), gu_f _ _ _ _ _ _ _ _ (by decide), gu_k _ _ _ _ _ _ (by decide)⟩
      rcases ens_e (k := k') L hp hb r hb' with hE | hE
      · by_cases hs : g 26 k' 0 = 0 ∨ ¬ g 28 b' 1 = 1
        · refine Or.inr ⟨31, 0, g, _, by decide, fun c s x o => m_55s N L c s x o b' k' (by omega) hb' hk' g (hE.1 c s x o) hs, fun c s x o => m_109s N L c s x o b' k' hN hb' hk' g g1 (hE.2 _ (z36 0).1 (z36 0).2.1 (z36 0).2.2.1 (z36 0).2.2.2 c s x o) ?_, fun _ => rfl, gu_same _ _ _ _ _, nxt_00 hb r⟩
          rcases hs with y | y
          · exact Or.inr (Or.inl (u2.trans y))
          · exact Or.inr (Or.inr (by rw [s8, ← s7]; exact y))
        · have t1 : ¬ g 26 k' 0 = 0 := fun y => hs (Or.inl y)
          have t2 : g 28 b' 1 = 1 := Classical.byContradiction (fun y => hs (Or.inr y))
          have hph : ph = 1 := (ph_i s1 (k := 1) (by decide)).mp (s7.symm.trans t2)
          obtain ⟨hln, hl3⟩ := s12 (Or.inl hph)
          have hW := wW_r hb r
          have cf : ∀ f i j, ¬ f = 2 → ¬ f = 29 → ¬ (f = 28 ∧ j = 5) → ¬ f = 3 → F58 k' 3 0 (F1 k' 10 0 0 g).2 f i j = g f i j := fun f i j b1 b2 b3 b4 => by rw [F58_f k' f i j b2 b3 b4, F1_f k' f i j b1]
          have c5 : ∀ f i j, ¬ f = 26 → ¬ f = 28 → ¬ f = 4 → ¬ f = 5 → F55 b' k' l g (F58 k' 3 0 (F1 k' 10 0 0 g).2) f i j = F58 k' 3 0 (F1 k' 10 0 0 g).2 f i j := fun f i j b1 b2 b3 b4 => by
            unfold F55
            rw [gu_f _ _ _ _ _ _ _ _ b4, gu_f _ _ _ _ _ _ _ _ b3, gu_f _ _ _ _ _ _ _ _ b2, gu_f _ _ _ _ _ _ _ _ b1]
          have cm : ∀ f i j, ¬ (f < 36 ∨ f = 64) → F55 b' k' l g (F58 k' 3 0 (F1 k' 10 0 0 g).2) f i j = g f i j := fun f i j hf => by rw [c5 f i j (by omega) (by omega) (by omega) (by omega), cf f i j (by omega) (by omega) (by omega) (by omega)]
          obtain ⟨sy1, sy2, sy3⟩ := sy_F hp hb r hk' (X := gu (F55 b' k' l g (F58 k' 3 0 (F1 k' 10 0 0 g).2)) 65 0 0 0) (fun f i j b1 b2 => by rw [gu_f _ _ _ _ _ _ _ _ b2, cm f i j b1]) (fun j hj => by rw [gu_k _ _ _ _ _ _ hj, cm 65 0 j (by decide)])
          have hWN : wN (F55 b' k' l g (F58 k' 3 0 (F1 k' 10 0 0 g).2)) := wN_g' (fun f i j hf => cm f i j (by omega)) (wN_r hb r)
          have hRl := Rel_sy hb r hk' sy1
          have hm : F104b k' 3 0 (F104a 80 (80 * k') 0 (gu (F55 b' k' l g (F58 k' 3 0 (F1 k' 10 0 0 g).2)) 65 0 0 0)).2 = F104b k' 3 0 (F104a 80 (80 * k') 0 (gu (F55 b' k' l g (F58 k' 3 0 (F1 k' 10 0 0 g).2)) 65 0 0 0)).2 := rfl
          have k109 := fun c s x o => m_109 N L c s x o b' k' l hN hb' hk' s2 (F55 b' k' l g (F58 k' 3 0 (F1 k' 10 0 0 g).2)) (by rw [cm 65 0 1 (by decide)]; exact g1) (hE.2 _ (fun j => by rw [gu_f _ _ _ _ _ _ _ _ (by decide), cm 36 0 j (by decide)]) (by rw [gu_f _ _ _ _ _ _ _ _ (by decide), cm 51 0 b' (by decide)]) (by rw [gu_f _ _ _ _ _ _ _ _ (by decide), cm 53 0 b' (by decide)]) (by rw [gu_k _ _ _ _ _ _ (by decide), cm 65 0 2 (by decide)]) c s x o) (by rw [cm 50 0 b' (by decide), s5]; exact fun y => by have := s6 y; omega) (by rw [cm 46 0 k' (by decide), u2]; exact t1) (by rw [cm 51 0 b' (by decide), s8, hph]; rfl) (by rw [cm 53 0 b' (by decide)]; exact s11) hWN _ hm
          have hY : ∀ f i j, f < 36 ∨ f = 64 → F104b k' 3 0 (F104a 80 (80 * k') 0 (gu (F55 b' k' l g (F58 k' 3 0 (F1 k' 10 0 0 g).2)) 65 0 0 0)).2 f i j = F55 b' k' l g (F58 k' 3 0 (F1 k' 10 0 0 g).2) f i j := fun f i j hf => by
            rw [F104b_f k' f i j (by omega) (by omega), F104a_f f i j (by omega), gu_f _ _ _ _ _ _ _ _ (by omega)]
          have k55 := fun c s x o => m_55 N L c s x o b' k' l hN hb' hk' s2 g (hE.1 c s x o) t1 t2 hl3 hW
          have f0 := gu_same (F55 b' k' l g (F58 k' 3 0 (F1 k' 10 0 0 g).2)) 65 0 0 0
          rw [f0] at sy3
          have c0 : ∀ j, F55 b' k' l g (F58 k' 3 0 (F1 k' 10 0 0 g).2) 0 0 j = g 0 0 j := fun j => by rw [c5 0 0 j (by decide) (by decide) (by decide) (by decide), cf 0 0 j (by decide) (by decide) (by omega) (by decide)]
          clear hm sy2 hWN f0 cm
          generalize F104b k' 3 0 (F104a 80 (80 * k') 0 (gu (F55 b' k' l g (F58 k' 3 0 (F1 k' 10 0 0 g).2)) 65 0 0 0)).2 = Y at sy1 sy3 hRl k109 hY
          generalize F58 k' 3 0 (F1 k' 10 0 0 g).2 = C at cf c5 sy1 hRl k109 hY k55 c0
          obtain ⟨y1, y2, y3, y4, y5, y6, y7⟩ := sy1
          have y47 : ∀ j, Y 47 0 j = g 47 0 j := fun j => y3 47 0 j (by decide) (by decide) (by decide) (by decide) (by decide)
          have y56 : Y 56 0 b' = g 56 0 b' := y3 56 0 b' (by decide) (by decide) (by decide) (by decide) (by decide)
          obtain ⟨fb1, fb2⟩ := F109_b k' l Y 6 0 0 (by omega) m6_0
          have hbits : F109 k' l Y 6 0 0 = g 1 k' l := m6_e fb1 (uh l s2).1 (fun x hx => (fb2 x hx).trans ⟨fun y => y.elim (fun t => absurd t (bt_0 (by omega))) (fun t => (has_p hb r hk' s2 (by omega)).mpr (by rw [← y47]; exact t.2.2)), fun y => Or.inr ⟨by omega, by omega, by rw [y47]; exact (has_p hb r hk' s2 (by omega)).mp y⟩⟩)
          rw [hbits, y56] at k109
          refine Or.inl ⟨bc (g 1 k' l), F55 b' k' l g C, gu (gu (gu (gu Y 49 0 (10 * k' + l) 1) 56 0 b' (g 56 0 b' ||| 1 <<< (nI k' &&& 31))) 57 0 (6 * b' + k') (g 1 k' l)) 58 0 (6 * b' + k') 0, k55, fun c s x o => (k109 c s x o).trans ?_, c0, ?_, ?_⟩
          · rw [f7_ct (uh l s2).1, bc_ct (uh l s2).1]
          · rw [gu_f _ _ _ _ _ _ _ _ (by decide), gu_f _ _ _ _ _ _ _ _ (by decide), gu_f _ _ _ _ _ _ _ _ (by decide), gu_f _ _ _ _ _ _ _ _ (by decide)]; exact sy3
          · have mH : ∀ f i j, ¬ f = 49 → ¬ f = 56 → ¬ f = 57 → ¬ f = 58 → gu (gu (gu (gu Y 49 0 (10 * k' + l) 1) 56 0 b' (g 56 0 b' ||| 1 <<< (nI k' &&& 31))) 57 0 (6 * b' + k') (g 1 k' l)) 58 0 (6 * b' + k') 0 f i j = Y f i j := fun f i j b1 b2 b3 b4 => by
              rw [gu_f _ _ _ _ _ _ _ _ b4, gu_f _ _ _ _ _ _ _ _ b3, gu_f _ _ _ _ _ _ _ _ b2, gu_f _ _ _ _ _ _ _ _ b1]
            have m49 : ∀ j, gu (gu (gu (gu Y 49 0 (10 * k' + l) 1) 56 0 b' (g 56 0 b' ||| 1 <<< (nI k' &&& 31))) 57 0 (6 * b' + k') (g 1 k' l)) 58 0 (6 * b' + k') 0 49 0 j = if j = 10 * k' + l then 1 else g 49 0 j := fun j => by
              rw [gu_f _ _ _ _ _ _ _ _ (by decide), gu_f _ _ _ _ _ _ _ _ (by decide), gu_f _ _ _ _ _ _ _ _ (by decide)]
              by_cases e : j = 10 * k' + l
              · rw [if_pos e, e, gu_same]
              · rw [if_neg e, gu_k _ _ _ _ _ _ e, y3 49 0 j (by decide) (by decide) (by decide) (by decide) (by decide)]
            have m56 : ∀ j, gu (gu (gu (gu Y 49 0 (10 * k' + l) 1) 56 0 b' (g 56 0 b' ||| 1 <<< (nI k' &&& 31))) 57 0 (6 * b' + k') (g 1 k' l)) 58 0 (6 * b' + k') 0 56 0 j = if j = b' then g 56 0 b' ||| 1 <<< (nI k' &&& 31) else g 56 0 j := fun j => by
              rw [gu_f _ _ _ _ _ _ _ _ (by decide), gu_f _ _ _ _ _ _ _ _ (by decide)]
              by_cases e : j = b'
              · rw [if_pos e, e, gu_same]
              · rw [if_neg e, gu_k _ _ _ _ _ _ e, gu_f _ _ _ _ _ _ _ _ (by decide), y3 56 0 j (by decide) (by decide) (by decide) (by decide) (by decide)]
            have m57 : ∀ j, gu (gu (gu (gu Y 49 0 (10 * k' + l) 1) 56 0 b' (g 56 0 b' ||| 1 <<< (nI k' &&& 31))) 57 0 (6 * b' + k') (g 1 k' l)) 58 0 (6 * b' + k') 0 57 0 j = if j = 6 * b' + k' then g 1 k' l else g 57 0 j := fun j => by
              rw [gu_f _ _ _ _ _ _ _ _ (by decide)]
              by_cases e : j = 6 * b' + k'
              · rw [if_pos e, e, gu_same]
              · rw [if_neg e, gu_k _ _ _ _ _ _ e, gu_f _ _ _ _ _ _ _ _ (by decide), gu_f _ _ _ _ _ _ _ _ (by decide), y3 57 0 j (by decide) (by decide) (by decide) (by decide) (by decide)]
            have m58 : ∀ j, gu (gu (gu (gu Y 49 0 (10 * k' + l) 1) 56 0 b' (g 56 0 b' ||| 1 <<< (nI k' &&& 31))) 57 0 (6 * b' + k') (g 1 k' l)) 58 0 (6 * b' + k') 0 58 0 j = if j = 6 * b' + k' then 0 else g 58 0 j := fun j => by
              by_cases e : j = 6 * b' + k'
              · rw [if_pos e, e, gu_same]
              · rw [if_neg e, gu_k _ _ _ _ _ _ e, gu_f _ _ _ _ _ _ _ _ (by decide), gu_f _ _ _ _ _ _ _ _ (by decide), gu_f _ _ _ _ _ _ _ _ (by decide), y3 58 0 j (by decide) (by decide) (by decide) (by decide) (by decide)]
            generalize gu (gu (gu (gu Y 49 0 (10 * k' + l) 1) 56 0 b' (g 56 0 b' ||| 1 <<< (nI k' &&& 31))) 57 0 (6 * b' + k') (g 1 k' l)) 58 0 (6 * b' + k') 0 = H at mH m49 m56 m57 m58 ⊢
            have cH : ∀ f i j, f < 36 ∨ f = 64 → H f i j = F55 b' k' l g C f i j := fun f i j hf => by rw [mH f i j (by omega) (by omega) (by omega) (by omega), hY f i j hf]
            have c26 : ∀ i j, H 26 i j = if i = k' ∧ j = 1 then g 26 k' 1 ||| 1 <<< (nI l &&& 31) else g 26 i j := fun i j => by
              rw [cH 26 i j (by decide)]
              unfold F55
              rw [gu_f _ _ _ _ _ _ _ _ (by decide), gu_f _ _ _ _ _ _ _ _ (by decide), gu_f _ _ _ _ _ _ _ _ (by decide)]
              by_cases e : i = k' ∧ j = 1
              · rw [if_pos e, e.1, e.2, gu_same]
              · rw [if_neg e, gu_ne _ _ _ _ _ _ _ _ (fun y => e ⟨y.2.1, y.2.2⟩), cf 26 i j (by decide) (by decide) (by omega) (by decide)]
            have c28 : ∀ i j, H 28 i j = if i = b' ∧ j = 6 then g 28 b' 6 ||| 1 <<< (nI k' &&& 31) else C 28 i j := fun i j => by
              rw [cH 28 i j (by decide)]
              unfold F55
              rw [gu_f _ _ _ _ _ _ _ _ (by decide), gu_f _ _ _ _ _ _ _ _ (by decide)]
              by_cases e : i = b' ∧ j = 6
              · rw [if_pos e, e.1, e.2, gu_same]
              · rw [if_neg e, gu_ne _ _ _ _ _ _ _ _ (fun y => e ⟨y.2.1, y.2.2⟩), gu_f _ _ _ _ _ _ _ _ (by decide)]
            have c28g : ∀ i j, ¬ (i = b' ∧ j = 6) → ¬ j = 5 → H 28 i j = g 28 i j := fun i j e1 e2 => by rw [c28, if_neg e1, cf 28 i j (by decide) (by decide) (by omega) (by decide)]
            have c4 : ∀ i j, H 4 i j = if i = b' ∧ j = k' then g 1 k' l else g 4 i j := fun i j => by
              rw [cH 4 i j (by decide)]
              unfold F55
              rw [gu_f _ _ _ _ _ _ _ _ (by decide)]
              by_cases e : i = b' ∧ j = k'
              · rw [if_pos e, e.1, e.2, gu_same]
              · rw [if_neg e, gu_ne _ _ _ _ _ _ _ _ (fun y => e ⟨y.2.1, y.2.2⟩), gu_f _ _ _ _ _ _ _ _ (by decide), gu_f _ _ _ _ _ _ _ _ (by decide), cf 4 i j (by decide) (by decide) (by omega) (by decide)]
            have c5' : ∀ i j, H 5 i j = if i = b' ∧ j = k' then g 1 k' l else g 5 i j := fun i j => by
              rw [cH 5 i j (by decide)]
              unfold F55
              by_cases e : i = b' ∧ j = k'
              · rw [if_pos e, e.1, e.2, gu_same]
              · rw [if_neg e, gu_ne _ _ _ _ _ _ _ _ (fun y => e ⟨y.2.1, y.2.2⟩), gu_f _ _ _ _ _ _ _ _ (by decide), gu_f _ _ _ _ _ _ _ _ (by decide), gu_f _ _ _ _ _ _ _ _ (by decide), cf 5 i j (by decide) (by decide) (by omega) (by decide)]
            have cC : ∀ f i j, f < 36 ∨ f = 64 → ¬ f = 26 → ¬ f = 28 → ¬ f = 4 → ¬ f = 5 → H f i j = C f i j := fun f i j b0 b1 b2 b3 b4 => by rw [cH f i j b0, c5 f i j b1 b2 b3 b4]
            have ho : out [26, 28, 4, 5, 49, 56, 57, 58] (cmb C Y) H := fun f hf i j => by
              have n1 : ¬ f = 26 ∧ ¬ f = 28 ∧ ¬ f = 4 ∧ ¬ f = 5 ∧ ¬ f = 49 ∧ ¬ f = 56 ∧ ¬ f = 57 ∧ ¬ f = 58 := by
                simp at hf
                omega
              by_cases y : f < 36 ∨ f = 64
              · rw [cmb_c y, cC f i j y n1.1 n1.2.1 n1.2.2.1 n1.2.2.2.1]
              · rw [cmb_m y, mH f i j n1.2.2.2.2.1 n1.2.2.2.2.2.1 n1.2.2.2.2.2.2.1 n1.2.2.2.2.2.2.2]
            have bg : ∀ f i j, f < 36 ∨ f = 64 → ¬ f = 2 → ¬ f = 3 → ¬ f = 29 → ¬ (f = 28 ∧ j = 5) → cmb C Y f i j = g f i j := fun f i j b0 b1 b2 b3 b4 => by rw [cmb_c b0, y1 f i j b0 b1 b2 b3 b4]
            have bm : ∀ f i j, ¬ (f < 36 ∨ f = 64) → ¬ f = 45 → ¬ f = 48 → ¬ f = 55 → ¬ f = 65 → cmb C Y f i j = g f i j := fun f i j b0 b1 b2 b3 b4 => by rw [cmb_m b0, y3 f i j b0 b1 b2 b3 b4]
            have tb := y7 b' ph l ve e hb' s' wr
            have he0 : e = 0 := wr.2.2.2.1 (by omega)
            subst he0
            have h12 : ∀ i j, H 12 i j = g 12 i j := fun i j => by rw [ho 12 (by decide), bg 12 i j (by decide) (by decide) (by decide) (by decide) (by omega)]
            have h17 : ∀ i j, H 17 i j = g 17 i j := fun i j => by rw [ho 17 (by decide), bg 17 i j (by decide) (by decide) (by decide) (by decide) (by omega)]
            refine nxt_k hb (Rel_BK hb' hk' (out_m ho (by decide)) (fun j _ => ho 65 (by decide) 0 j) (fun k2 hk2 e2 => ⟨fun j => ?_, fun l2 hl2 => ?_, fun l2 hl2 => ⟨ho 1 (by decide) _ _, ho 2 (by decide) _ _⟩, fun t ht => ⟨ho 47 (by decide) _ _, ho 48 (by decide) _ _⟩⟩) ⟨⟨?_, ?_, ?_, fun l2 hl2 => ?_⟩, rKh_a (ag_o ho (by decide)) (hRl.2.2.2.2.2.1 k' hk').2⟩ (fun b2 hb2 e2 => ⟨fun j => ?_, ?_, fun i hi => ⟨?_, ?_, ?_, ?_⟩⟩) ⟨ph, l, ve, 0, ⟨s1, s2, s3, ?_, ?_, ?_, ?_, ?_, ?_, ?_, ?_, ?_, ?_⟩, ⟨by decide, ?_, ?_, fun _ => rfl, ?_, fun i hi => ?_, fun y => by omega⟩, ⟨?_, ?_, fun y => absurd hph y, fun k2 hk2 => ?_⟩⟩ hRl) (fun j => ?_)
            · rw [c26, if_neg (fun y => e2 y.1), bg 26 k2 j (by decide) (by decide) (by decide) (by decide) (by omega)]
            · rw [m49, if_neg (by omega), bm 49 0 _ (by decide) (by decide) (by decide) (by decide) (by decide)]
            · rw [c26, if_neg (by omega)]; exact u1
            · rw [c26, if_neg (by omega), ho 46 (by decide), bm 46 0 k' (by decide) (by decide) (by decide) (by decide) (by decide)]; exact u2
            · rw [c26, if_pos ⟨rfl, rfl⟩]; exact m10_or u3 s2
            · rw [c26, if_pos ⟨rfl, rfl⟩, bt10_or u3 s2 hl2, m49]
              by_cases y : l2 = l
              · subst y
                rw [if_pos rfl]
                exact ⟨fun _ => by decide, fun _ => Or.inr rfl⟩
              · rw [if_neg (by omega)]
                exact ⟨fun t => (u4 l2 hl2).mp (t.resolve_right y), fun t => Or.inl ((u4 l2 hl2).mpr t)⟩
            · rw [c28, if_neg (fun y => e2 y.1), cmb_c (by decide)]
            · rw [m56, if_neg e2, bm 56 0 b2 (by decide) (by decide) (by decide) (by decide) (by decide)]
            · rw [c4, if_neg (fun y => e2 y.1), bg 4 b2 i (by decide) (by decide) (by decide) (by decide) (by omega)]
            · rw [c5', if_neg (fun y => e2 y.1), bg 5 b2 i (by decide) (by decide) (by decide) (by decide) (by omega)]
            · rw [m57, if_neg (by omega), bm 57 0 _ (by decide) (by decide) (by decide) (by decide) (by decide)]
            · rw [m58, if_neg (by omega), bm 58 0 _ (by decide) (by decide) (by decide) (by decide) (by decide)]
            · rw [c28g b' 0 (by omega) (by decide)]; exact s4
            · rw [c28g b' 0 (by omega) (by decide), ho 50 (by decide), bm 50 0 b' (by decide) (by decide) (by decide) (by decide) (by decide)]; exact s5
            · rw [c28g b' 0 (by omega) (by decide)]; exact s6
            · rw [c28g b' 1 (by omega) (by decide)]; exact s7
            · rw [ho 51 (by decide), bm 51 0 b' (by decide) (by decide) (by decide) (by decide) (by decide)]; exact s8
            · rw [c28g b' 2 (by omega) (by decide)]; exact s9
            · rw [ho 52 (by decide), bm 52 0 b' (by decide) (by decide) (by decide) (by decide) (by decide)]; exact s10
            · rw [ho 53 (by decide), bm 53 0 b' (by decide) (by decide) (by decide) (by decide) (by decide)]; exact s11
            · rw [c28g b' 3 (by omega) (by decide)]; exact s12
            · rw [c28g b' 3 (by omega) (by decide)]; exact s13
            · rw [c28g b' 4 (by omega) (by decide)]; exact wr.2.1
            · rw [ho 54 (by decide), bm 54 0 b' (by decide) (by decide) (by decide) (by decide) (by decide)]; exact wr.2.2.1
            · rw [c28, if_neg (by omega)]; exact tb.2.2.2.2.2.2.2.2.2.2
            · rw [cC 3 b' i (by decide) (by decide) (by decide) (by decide) (by decide), mH 55 0 _ (by decide) (by decide) (by decide) (by decide)]
              exact tb.2.2.2.2.2.2.2.2.2.1 i hi
            · rw [c28, if_pos ⟨rfl, rfl⟩, m56, if_pos rfl, rr.1]
            · rw [c28, if_pos ⟨rfl, rfl⟩]; exact m6_or rr.2.1 (m6_sh (by omega))
            · have hr6 : H 28 b' 6 = g 28 b' 6 ||| 1 <<< (nI k' &&& 31) := by rw [c28, if_pos ⟨rfl, rfl⟩]
              by_cases y : k2 = k'
              · subst y
                rw [c4, if_pos ⟨rfl, rfl⟩, c5', if_pos ⟨rfl, rfl⟩, m57, if_pos rfl, m58, if_pos rfl, hr6]
                refine ⟨rfl, (uh l s2).1, m6_0, (or_z (uh l s2).1).symm, fun t => ?_, fun t => absurd hph t, fun i hi t => ?_⟩
                · exact absurd ((bt_or rr.2.1 (m6_sh (by omega)) (by omega)).mpr (Or.inr ((bt_sh (by omega) (by omega)).mpr rfl))) t
                · rw [h12, h17]
                  exact ((uh l s2).2.2 i (by omega)).2.2.2 t
              · rw [c4, if_neg (fun t => y t.2), c5', if_neg (fun t => y t.2), m57, if_neg (by omega), m58, if_neg (by omega), hr6]
                obtain ⟨v1, v2, v3, v4, v5, v6, v7⟩ := rr.2.2.2 k2 hk2
                refine ⟨v1, v2, v3, v4, fun t => v5 (fun x => t ((bt_or rr.2.1 (m6_sh (by omega)) (by omega)).mpr (Or.inl x))), v6, fun i hi t => ?_⟩
                rw [h12, h17]
                exact v7 i hi t
            · rw [cH 0 0 j (by decide)]; exact c0 j
      · exact Or.inr ⟨30, 0, g, _, by decide, fun c s x o => m_55e N L c s x o b' k' (by omega) hb' hk' g (hE.1 c s x o), fun c s x o => m_109e N L c s x o b' k' hN hb' hk' g g1 (hE.2 _ (z36 0).1 (z36 0).2.1 (z36 0).2.2.1 (z36 0).2.2.2 c s x o), fun _ => rfl, gu_same _ _ _ _ _, nxt_00 hb r⟩
    · exact Or.inr ⟨30, 0, g, _, by decide, fun c s x o => m_55k N L c s x o b' hb' k hk g, fun c s x o => m_109a N L c s x o (nI b') k g g1 (fun y => hk y.2), fun _ => rfl, gu_same _ _ _ _ _, nxt_00 hb r⟩
  · exact Or.inr ⟨30, 0, g, _, by decide, fun c s x o => m_55a N L c s x o b k h g, fun c s x o => m_109a N L c s x o b k g g1 (fun y => h ((i_b3 b).mp y.1)), fun _ => rfl, gu_same _ _ _ _ _, nxt_00 hb r⟩
end O9
