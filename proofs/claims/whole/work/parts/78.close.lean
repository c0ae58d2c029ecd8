/-! close -/
theorem F67_v (l m p' : Nat) : ∀ (d p : Nat) (g : mG), (∀ i, ¬ i = l → ∀ x, F67 l m d p g 13 i x = g 13 i x) ∧ F67 l m d p g 13 l p' = if p ≤ p' ∧ p' < p + d then F71 l (nI p') g m 0 (if l = 0 then 0 else g 13 (l - 1) p') else g 13 l p' := by
  intro d
  induction d with
  | zero => intro p g; exact ⟨fun _ _ _ => rfl, by rw [if_neg (by omega)]; rfl⟩
  | succ d ih =>
    intro p g
    have hF : F67 l m (d + 1) p g = F67 l m d (p + 1) (gu g 13 l p (F71 l (nI p) g m 0 (if l = 0 then 0 else g 13 (l - 1) p))) := rfl
    obtain ⟨i1, i2⟩ := ih (p + 1) (gu g 13 l p (F71 l (nI p) g m 0 (if l = 0 then 0 else g 13 (l - 1) p)))
    rw [hF]
    have fc : ∀ (X : mG), (∀ f i j, ¬ f = 13 → X f i j = g f i j) → ∀ (m' e : Nat) (A : Int32) (pp : Int32), F71 l pp X m' e A = F71 l pp g m' e A := by
      intro X hX m'
      induction m' with
      | zero => exact fun _ _ _ => rfl
      | succ m' ih' =>
        intro e A pp
        show F71 l pp X m' (e + 1) (if X 14 0 (X 17 0 (8 * l + e)).toNatClampNeg = pp then (if A < X 15 0 (X 17 0 (8 * l + e)).toNatClampNeg then X 15 0 (X 17 0 (8 * l + e)).toNatClampNeg else A) else A) = _
        rw [hX 17 0 _ (by decide), hX 14 0 _ (by decide), hX 15 0 _ (by decide), ih']
        rfl
    refine ⟨fun i hi x => (i1 i hi x).trans (gu_ne _ _ _ _ _ _ _ _ (fun y => hi y.2.1)), ?_⟩
    rw [i2, fc _ (fun f i j hf => gu_f _ _ _ _ _ _ _ _ hf)]
    have e1 : (if l = 0 then (0 : Int32) else gu g 13 l p (F71 l (nI p) g m 0 (if l = 0 then 0 else g 13 (l - 1) p)) 13 (l - 1) p') = (if l = 0 then 0 else g 13 (l - 1) p') := by
      by_cases y : l = 0
      · rw [if_pos y, if_pos y]
      · simp only [if_neg y]
        exact gu_ne _ _ _ _ _ _ _ _ (fun t => by omega)
    rw [e1]
    by_cases h1 : p' = p
    · subst h1
      rw [if_neg (show ¬ (p' + 1 ≤ p' ∧ p' < p' + 1 + d) by omega), gu_same, if_pos (show p' ≤ p' ∧ p' < p' + (d + 1) by omega)]
    · rw [gu_k _ _ _ _ _ _ h1]
      by_cases h2 : p + 1 ≤ p' ∧ p' < p + 1 + d
      · rw [if_pos h2, if_pos (show p ≤ p' ∧ p' < p + (d + 1) by omega)]
      · rw [if_neg h2, if_neg (show ¬ (p ≤ p' ∧ p' < p + (d + 1)) by omega)]
theorem F116a_v (b l m p' : Nat) (hp' : p' < 4) : ∀ (d p : Nat) (g : mG), p + d ≤ 4 → (∀ j, ¬ (4 * l ≤ j ∧ j < 4 * l + 4) → F116a b l m d p g 39 0 j = g 39 0 j) ∧ F116a b l m d p g 39 0 (4 * l + p') = if p ≤ p' ∧ p' < p + d then F119 l (nI p') g m 0 (if l = 0 then 0 else g 39 0 (4 * (l - 1) + p')) else g 39 0 (4 * l + p') := by
  intro d
  induction d with
  | zero => intro p g _; exact ⟨fun _ _ => rfl, by rw [if_neg (by omega)]; rfl⟩
  | succ d ih =>
    intro p g hpd
    have hF : F116a b l m (d + 1) p g = F116a b l m d (p + 1) (gu g 39 0 (4 * l + p) (F119 l (nI p) g m 0 (if l = 0 then 0 else g 39 0 (4 * (l - 1) + p)))) := rfl
    obtain ⟨i1, i2⟩ := ih (p + 1) (gu g 39 0 (4 * l + p) (F119 l (nI p) g m 0 (if l = 0 then 0 else g 39 0 (4 * (l - 1) + p)))) (by omega)
    rw [hF]
    have fc : ∀ (X : mG), (∀ f i j, ¬ f = 39 → X f i j = g f i j) → ∀ (m' e : Nat) (A : Int32) (pp : Int32), F119 l pp X m' e A = F119 l pp g m' e A := by
      intro X hX m'
      induction m' with
      | zero => exact fun _ _ _ => rfl
      | succ m' ih' =>
        intro e A pp
        show F119 l pp X m' (e + 1) (if X 41 0 (X 44 0 (8 * l + e)).toNatClampNeg = pp then (if X 42 0 (X 44 0 (8 * l + e)).toNatClampNeg ≤ A then A else X 42 0 (X 44 0 (8 * l + e)).toNatClampNeg) else A) = _
        rw [hX 44 0 _ (by decide), hX 41 0 _ (by decide), hX 42 0 _ (by decide), ih']
        rfl
    refine ⟨fun j hj => (i1 j hj).trans (gu_k _ _ _ _ _ _ (by omega)), ?_⟩
    rw [i2, fc _ (fun f i j hf => gu_f _ _ _ _ _ _ _ _ hf)]
    have e1 : (if l = 0 then (0 : Int32) else gu g 39 0 (4 * l + p) (F119 l (nI p) g m 0 (if l = 0 then 0 else g 39 0 (4 * (l - 1) + p))) 39 0 (4 * (l - 1) + p')) = (if l = 0 then 0 else g 39 0 (4 * (l - 1) + p')) := by
      by_cases y : l = 0
      · rw [if_pos y, if_pos y]
      · simp only [if_neg y]
        exact gu_k _ _ _ _ _ _ (by omega)
    rw [e1]
    by_cases h1 : p' = p
    · subst h1
      rw [if_neg (show ¬ (p' + 1 ≤ p' ∧ p' < p' + 1 + d) by omega), gu_same, if_pos (show p' ≤ p' ∧ p' < p' + (d + 1) by omega)]
    · rw [gu_k _ _ _ _ _ _ (by omega)]
      by_cases h2 : p + 1 ≤ p' ∧ p' < p + 1 + d
      · rw [if_pos h2, if_pos (show p ≤ p' ∧ p' < p + (d + 1) by omega)]
      · rw [if_neg h2, if_neg (show ¬ (p ≤ p' ∧ p' < p + (d + 1)) by omega)]
theorem F71_c {l : Nat} {pp : Int32} {g X : mG} (h : ag [14, 15, 17] g X) : ∀ (m e : Nat) (A : Int32), F71 l pp X m e A = F71 l pp g m e A := by
  have h14 := h 14 (by decide)
  have h15 := h 15 (by decide)
  have h17 := h 17 (by decide)
  intro m
  induction m with
  | zero => exact fun _ _ => rfl
  | succ m ih =>
    intro e A
    show F71 l pp X m (e + 1) (if X 14 0 (X 17 0 (8 * l + e)).toNatClampNeg = pp then (if A < X 15 0 (X 17 0 (8 * l + e)).toNatClampNeg then X 15 0 (X 17 0 (8 * l + e)).toNatClampNeg else A) else A) = _
    rw [h17, h14, h15, ih]
    rfl
theorem F117_c {N b l w q : Nat} {g X : mG} (h : ∀ f i j, 35 < f ∧ f < 64 → X f i j = g f i j) (h4 : X 65 0 4 = g 65 0 4) : ∀ (d e : Nat), F117 N b l w q X d e = F117 N b l w q g d e := by
  have ha : ∀ e d k a, F117a b l w q e X d k a = F117a b l w q e g d k a := by
    intro e d
    induction d with
    | zero => exact fun _ _ => rfl
    | succ d ih =>
      intro k a
      show F117a b l w q e X d (k + 1) (a + (if F111 l (e % w) w (nI k) X q 0 0 = 0 then 0 else ((X 57 0 (6 * b + k) ||| X 58 0 (6 * b + k)) >>> (nI e &&& 31) &&& 1))) = F117a b l w q e g d (k + 1) (a + (if F111 l (e % w) w (nI k) g q 0 0 = 0 then 0 else ((g 57 0 (6 * b + k) ||| g 58 0 (6 * b + k)) >>> (nI e &&& 31) &&& 1)))
      rw [ih, F111_c (g := g) (fun j => h 36 0 j (by decide)), h 57 0 _ (by decide), h 58 0 _ (by decide)]
  intro d
  induction d with
  | zero => exact fun _ => rfl
  | succ d ih =>
    intro e
    show (if X 65 0 4 ≤ F117a b l w q e X N 0 0 then F117 N b l w q X d (e + 1) else false) = (if g 65 0 4 ≤ F117a b l w q e g N 0 0 then F117 N b l w q g d (e + 1) else false)
    rw [ih, ha, h4]
section O12
variable {N w q a V n z M : Nat} {g : mG} (L : Nat)
/-- a broker that may close: class and model find the same number of entries -/
def clOk (N L b l m : Nat) (g : mG) : Prop := (∀ c s x o, av_cal 68 [.inr (.inr (some (64, 0))), .inr (.inr (some (28, b)))] (mm N L c s x o g) = some (.inl (some (.inl 1)), mm N L c s x o g)) ∧ ((g 28 b 1 = 3 ∧ g 28 b 4 = nI m) ∨ (¬ g 28 b 1 = 3 ∧ cF b g = m)) ∧ ∀ X : mG, (∀ f i j, 35 < f ∧ f < 64 → X f i j = g f i j) → (∀ j, ¬ j = 0 → X 65 0 j = g 65 0 j) → ∃ y y' : Int32, ∀ c s x o, av_run 116 18 [some (.inr (.inr (some (65, 0)))), some (.inl (nI b)), none, none, none, none, none, none] [] (mm N L c s x o X) = av_run 116 123 [some (.inr (.inr (some (65, 0)))), some (.inl (nI b)), some (.inl y), some (.inl y'), some (.inl (nI m)), none, none, none] [] (mm N L c s x o X)
def clNo (N L b : Nat) (g : mG) : Prop := (∀ c s x o, av_cal 68 [.inr (.inr (some (64, 0))), .inr (.inr (some (28, b)))] (mm N L c s x o g) = some (.inl (some (.inl 0)), mm N L c s x o g)) ∧ ∀ c s x o, av_run 116 18 [some (.inr (.inr (some (65, 0)))), some (.inl (nI b)), none, none, none, none, none, none] [] (mm N L c s x o (gu g 65 0 0 0)) = some (.inl (some (.inl 0)), mm N L c s x o (gu (gu g 65 0 0 0) 65 0 0 2))
theorem cl_e {b : Nat} (hp : pr N w q a) (hb : nb V n z M) (r : Rel N w q a V n z M g) (hbb : b < 3) : clNo N L b g ∨ ∃ l m, l < n ∧ m ≤ 6 ∧ g 28 b 3 = nI l ∧ g 53 0 b = nI l ∧ ¬ g 28 b 0 = 0 ∧ clOk N L b l m g := by
  have hpp := hp
  obtain ⟨p1, p2, p3, p4, p5, p6, p7, p8, p9⟩ := hpp
  have hM : M ≤ 60 := hb.2.2.2
  obtain ⟨ph, l, ve, e, bs, wr, rr⟩ := r.2.2.2.2.2.2.1 b hbb
  obtain ⟨s1, s2, s3, s4, s5, s6, s7, s8, s9, s10, s11, s12, s13⟩ := bs
  have mu : ∀ f i j, ¬ f = 65 → gu g 65 0 0 0 f i j = g f i j := fun f i j hf => gu_f _ _ _ _ _ _ _ _ hf
  by_cases h3 : ph = 3
  · have e3 : nI ph = 3 := by rw [h3]; rfl
    obtain ⟨hln, hl3⟩ := s12 (Or.inr h3)
    have nup : ¬ g 28 b 0 = 0 := fun y => by have := s6 y; omega
    have hle := F106_le b g e 0
    have k68 := fun c s x o => m_68w N L c s x o b g (s7.trans e3)
    have kw : ∀ X : mG, (∀ f i j, 35 < f ∧ f < 64 → X f i j = g f i j) → (∀ j, ¬ j = 0 → X 65 0 j = g 65 0 j) → ∀ c s x o, av_run 116 18 [some (.inr (.inr (some (65, 0)))), some (.inl (nI b)), none, none, none, none, none, none] [] (mm N L c s x o X) = av_run 116 80 [some (.inr (.inr (some (65, 0)))), some (.inl (nI b)), some (.inl (bI (F106 b g e 0 = e))), some (.inl 0), none, none, none, none] [] (mm N L c s x o X) := fun X hX hX5 c s x o => by
      have := l_116w N L c s x o b e hbb wr.1 X (by rw [hX 51 0 b (by decide), s8]; exact e3) (by rw [hX 54 0 b (by decide)]; exact wr.2.2.1)
      rw [F106_g b g X (hX5 4 (by decide)) (fun i _ => hX 55 0 _ (by decide)) e 0 (by have := wr.1; omega)] at this
      exact this
    have he6 := wr.1
    have ec : (g 28 b 5 = g 28 b 4) ↔ F106 b g e 0 = e := by
      rw [wr.2.2.2.2.1, wr.2.1, iI_eq (by omega) (by omega)]
    by_cases y : F106 b g e 0 = e
    · refine Or.inr ⟨l, e, hln, wr.1, hl3, s11, nup, fun c s x o => by rw [k68 c s x o, bI_t _ (ec.mpr y)], Or.inl ⟨s7.trans e3, wr.2.1⟩, fun X hX hX5 => ⟨1, 0, fun c s x o => ?_⟩⟩
      rw [kw X hX hX5 c s x o, bI_t _ y]
      exact l_116m N L c s x o b e 1 0 hbb X (by rw [hX 50 0 b (by decide), s5]; exact nup) (by decide) (Or.inl ⟨by decide, by rw [hX 54 0 b (by decide)]; exact wr.2.2.1⟩)
    · refine Or.inl ⟨fun c s x o => by rw [k68 c s x o, bI_f _ (fun t => y (ec.mp t))], fun c s x o => ?_⟩
      rw [kw _ (fun f i j hf => mu f i j (by omega)) (fun j hj => gu_k _ _ _ _ _ _ hj) c s x o, bI_f _ y]
      exact m_116s N L c s x o b hbb 0 0 _ (Or.inr ⟨rfl, rfl⟩)
  · have n3 : ¬ nI ph = 3 := fun y => h3 ((ph_i s1 (k := 3) (by decide)).mp y)
    by_cases h1 : ph = 1
    · have e1 : nI ph = 1 := by rw [h1]; rfl
      obtain ⟨hln, hl3⟩ := s12 (Or.inl h1)
      obtain ⟨_, hLe, hLw⟩ := r.2.2.1.1 l hln
      have nup : ¬ g 28 b 0 = 0 := fun y => by have := s6 y; omega
      have hc6 := cF_le b g
      have k68 := fun c s x o => m_68r N L c s x o b l w s2 (by omega) g hl3 r.1.1 (s7.trans e1)
      rw [en_e hp r.1 hLe hLw rr.2.1 rr.1 w 0 (by omega), sa_e hp r.1 hLe hLw rr (cF b g) 0 (by omega)] at k68
      have k114 : ∀ X : mG, (∀ f i j, 35 < f ∧ f < 64 → X f i j = g f i j) → (∀ j, ¬ j = 0 → X 65 0 j = g 65 0 j) → ∀ c s x o, av_cal 114 [.inr (.inr (some (65, 0))), .inl (nI b)] (mm N L c s x o X) = some (.inl (some (.inl (nI (if F113 b l w q g w 0 = true then cF b g else 0)))), mm N L c s x o X) := fun X hX hX5 c s x o => by
        have := m_114 N L c s x o b l w q hbb s2 ⟨by omega, by omega⟩ (by omega) X ((hX5 2 (by decide)).trans r.1.2.2.2.2.1) ((hX5 3 (by decide)).trans r.1.2.2.2.2.2.1) ((hX 53 0 b (by decide)).trans s11)
        rw [F113_c (g := g) (fun j => hX 36 0 j (by decide)) (hX 56 0 b (by decide)) (hX5 3 (by decide)) (hX5 4 (by decide)), F114a_c (g := g) (hX 56 0 b (by decide)) (fun j => hX 57 0 j (by decide)), cF_e rr] at this
        exact this
      have kr : ∀ X : mG, (∀ f i j, 35 < f ∧ f < 64 → X f i j = g f i j) → (∀ j, ¬ j = 0 → X 65 0 j = g 65 0 j) → ∀ c s x o, av_run 116 18 [some (.inr (.inr (some (65, 0)))), some (.inl (nI b)), none, none, none, none, none, none] [] (mm N L c s x o X) = av_run 116 80 [some (.inr (.inr (some (65, 0)))), some (.inl (nI b)), some (.inl 0), some (.inl (bI (F113 b l w q g w 0 = true ∧ F117 N b l w q g (if F113 b l w q g w 0 = true then cF b g else 0) 0 = true))), none, none, none, none] [] (mm N L c s x o X) := fun X hX hX5 c s x o => by
        have := l_116r N L c s x o b l w q (if F113 b l w q g w 0 = true then cF b g else 0) (by omega) hbb s2 ⟨by omega, by omega⟩ (by omega) (by split <;> omega) X ((hX5 1 (by decide)).trans r.1.2.2.2.1) ((hX5 2 (by decide)).trans r.1.2.2.2.2.1) ((hX5 3 (by decide)).trans r.1.2.2.2.2.2.1) ((hX 53 0 b (by decide)).trans s11) (k114 X hX hX5 c s x o) (by rw [hX 51 0 b (by decide), s8]; exact e1)
        rw [F113_c (g := g) (fun j => hX 36 0 j (by decide)) (hX 56 0 b (by decide)) (hX5 3 (by decide)) (hX5 4 (by decide)), F117_c (g := g) hX (hX5 4 (by decide))] at this
        exact this
      by_cases y : F113 b l w q g w 0 = true ∧ F117 N b l w q g (cF b g) 0 = true
      · rw [if_pos y.1] at kr
        refine Or.inr ⟨l, cF b g, hln, hc6, hl3, s11, nup, fun c s x o => by rw [k68 c s x o, bI_t _ y], Or.inr ⟨by rw [s7]; exact n3, rfl⟩, fun X hX hX5 => ⟨0, 1, fun c s x o => ?_⟩⟩
        rw [kr X hX hX5 c s x o, bI_t _ y]
        have k4 := k114 X hX hX5 c s x o
        rw [if_pos y.1] at k4
        exact l_116m N L c s x o b (cF b g) 0 1 hbb X (by rw [hX 50 0 b (by decide), s5]; exact nup) (by decide) (Or.inr ⟨rfl, k4⟩)
      · refine Or.inl ⟨fun c s x o => by rw [k68 c s x o, bI_f _ y], fun c s x o => ?_⟩
        rw [kr _ (fun f i j hf => mu f i j (by omega)) (fun j hj => gu_k _ _ _ _ _ _ hj) c s x o, bI_f _ (fun t => y ⟨t.1, by have := t.2; rw [if_pos t.1] at this; exact this⟩)]
        exact m_116s N L c s x o b hbb 0 0 _ (Or.inr ⟨rfl, rfl⟩)
    · have n1 : ¬ nI ph = 1 := fun y => h1 ((ph_i s1 (k := 1) (by decide)).mp y)
      refine Or.inl ⟨fun c s x o => m_68n N L c s x o b g (by rw [s7]; exact n1) (by rw [s7]; exact n3), fun c s x o => ?_⟩
      rw [l_116n N L c s x o b hbb _ (by rw [mu 51 0 b (by decide), s8]; exact n1) (by rw [mu 51 0 b (by decide), s8]; exact n3)]
      exact m_116s N L c s x o b hbb 0 0 _ (Or.inr ⟨rfl, rfl⟩)
theorem op_67 (hp : pr N w q a) (hb : nb V n z M) (r : Rel N w q a V n z M g) (b : Int32) : opI N L 67 116 [.inl b] (cd 154) (nxt N w q a V g) g := by
  have hM : M ≤ 60 := hb.2.2.2
  have hn : n ≤ 10 := hb.2.1
  by_cases h : ¬ b < 0 ∧ ¬ 3 ≤ b
  · obtain ⟨b', hb', rfl⟩ := inr_of (n := 3) (by decide) h
    rcases cl_e L hp hb r hb' with hc | ⟨l, m, hln, hm, hl3, s11, nup, hc1, hc2, hc3⟩
    · exact Or.inr ⟨31, 0, g, _, by decide, fun c s x o => m_67s N L c s x o b' hb' g (hc.1 c s x o), fun c s x o => (l_116i N L c s x o b' hb' g).trans (hc.2 c s x o), fun _ => rfl, gu_same _ _ _ _ _, nxt_00 hb r⟩
    · have hl10 : l < 10 := by omega
      have mu : ∀ f i j (X : mG), ¬ f = 65 → gu X 65 0 0 0 f i j = X f i j := fun f i j X hf => gu_f _ _ _ _ _ _ _ _ hf
      by_cases hv : g 23 0 0 ≤ g 28 b' 2
      · have hg17 : ∀ e, e < m → av_outD (g 17 0 (8 * l + e)) 61 = false := fun e he => (ok17 hM r (by omega)).1
        have hg44 : ∀ e, e < m → av_outD (g 44 0 (8 * l + e)) 61 = false := fun e he => (ok17 hM r (by omega)).2
        have k67 := fun c s x o => m_67 N L c s x o b' l m hb' hl10 hm g (hc1 c s x o) hv hl3 hc2 hg17
        have cf : ∀ f i j, ¬ f = 23 → ¬ f = 28 → ¬ f = 20 → ¬ f = 13 → ¬ f = 3 → ¬ f = 4 → ¬ f = 5 → F9 b' (gu (F67 l m 4 0 (gu (gu (gV b' g) 20 l 0 2) 20 l 1 (nI m - 1))) 28 b' 1 2) f i j = g f i j := fun f i j b1 b2 b3 b4 b5 b6 b7 => by
          rw [F9_f b' f i j _ (fun y => b2 y.1) b5 b6 b7, gu_f _ _ _ _ _ _ _ _ b2, F67_f l m f i j b4, gu_f _ _ _ _ _ _ _ _ b3, gu_f _ _ _ _ _ _ _ _ b3]
          unfold gV
          rw [gu_f _ _ _ _ _ _ _ _ b2, gu_f _ _ _ _ _ _ _ _ b1]
        have c23 : ∀ j, F9 b' (gu (F67 l m 4 0 (gu (gu (gV b' g) 20 l 0 2) 20 l 1 (nI m - 1))) 28 b' 1 2) 23 0 j = gV b' g 23 0 j := fun j => by
          rw [F9_f b' 23 0 j _ (by omega) (by decide) (by decide) (by decide), gu_f _ _ _ _ _ _ _ _ (by decide), F67_f l m 23 0 j (by decide), gu_f _ _ _ _ _ _ _ _ (by decide), gu_f _ _ _ _ _ _ _ _ (by decide)]
        have c20 : ∀ i j, F9 b' (gu (F67 l m 4 0 (gu (gu (gV b' g) 20 l 0 2) 20 l 1 (nI m - 1))) 28 b' 1 2) 20 i j = if i = l ∧ j = 0 then 2 else if i = l ∧ j = 1 then nI m - 1 else g 20 i j := fun i j => by
          rw [F9_f b' 20 i j _ (by omega) (by decide) (by decide) (by decide), gu_f _ _ _ _ _ _ _ _ (by decide), F67_f l m 20 i j (by decide)]
          by_cases y : i = l ∧ j = 0
          · rw [if_pos y, y.1, y.2, gu_k _ _ _ _ _ _ (by decide), gu_same]
          · rw [if_neg y]
            by_cases y' : i = l ∧ j = 1
            · rw [if_pos y', y'.1, y'.2, gu_same]
            · rw [if_neg y', gu_ne _ _ _ _ _ _ _ _ (fun t => y' ⟨t.2.1, t.2.2⟩), gu_ne _ _ _ _ _ _ _ _ (fun t => y ⟨t.2.1, t.2.2⟩)]
              unfold gV
              rw [gu_f _ _ _ _ _ _ _ _ (by decide), gu_f _ _ _ _ _ _ _ _ (by decide)]
        have aG : ag [14, 15, 17, 13] g (gu (gu (gV b' g) 20 l 0 2) 20 l 1 (nI m - 1)) := fun f hf i j => by
          have hf' : f = 14 ∨ f = 15 ∨ f = 17 ∨ f = 13 := by simpa using hf
          rw [gu_f _ _ _ _ _ _ _ _ (by omega), gu_f _ _ _ _ _ _ _ _ (by omega)]
          unfold gV
          rw [gu_f _ _ _ _ _ _ _ _ (by omega), gu_f _ _ _ _ _ _ _ _ (by omega)]
        have c13 : ∀ i p, p < 4 → F9 b' (gu (F67 l m 4 0 (gu (gu (gV b' g) 20 l 0 2) 20 l 1 (nI m - 1))) 28 b' 1 2) 13 i p = if i = l then F71 l (nI p) g m 0 (if l = 0 then 0 else g 13 (l - 1) p) else g 13 i p := fun i p hp' => by
          rw [F9_f b' 13 i p _ (by omega) (by decide) (by decide) (by decide), gu_f _ _ _ _ _ _ _ _ (by decide)]
          obtain ⟨f1, f2⟩ := F67_v l m p 4 0 (gu (gu (gV b' g) 20 l 0 2) 20 l 1 (nI m - 1))
          by_cases y : i = l
          · rw [if_pos y, y, f2, if_pos (by omega), F71_c (ag_s aG (by decide)), aG 13 (by decide)]
          · rw [if_neg y, f1 i y p, aG 13 (by decide)]
        have c28 : ∀ i j, ¬ i = b' → F9 b' (gu (F67 l m 4 0 (gu (gu (gV b' g) 20 l 0 2) 20 l 1 (nI m - 1))) 28 b' 1 2) 28 i j = g 28 i j := fun i j hi => by
          rw [F9_f b' 28 i j _ (fun y => hi y.2.1) (by decide) (by decide) (by decide), gu_ne _ _ _ _ _ _ _ _ (fun y => hi y.2.1), F67_f l m 28 i j (by decide), gu_f _ _ _ _ _ _ _ _ (by decide), gu_f _ _ _ _ _ _ _ _ (by decide)]
          unfold gV
          rw [gu_ne _ _ _ _ _ _ _ _ (fun y => hi y.2.1), gu_f _ _ _ _ _ _ _ _ (by decide)]
        have c28b : F9 b' (gu (F67 l m 4 0 (gu (gu (gV b' g) 20 l 0 2) 20 l 1 (nI m - 1))) 28 b' 1 2) 28 b' 0 = g 28 b' 0 ∧ F9 b' (gu (F67 l m 4 0 (gu (gu (gV b' g) 20 l 0 2) 20 l 1 (nI m - 1))) 28 b' 1 2) 28 b' 1 = 2 ∧ F9 b' (gu (F67 l m 4 0 (gu (gu (gV b' g) 20 l 0 2) 20 l 1 (nI m - 1))) 28 b' 1 2) 28 b' 2 = gV b' g 28 b' 2 := by
          refine ⟨?_, ?_, ?_⟩
          · rw [F9_f b' 28 b' 0 _ (by omega) (by decide) (by decide) (by decide), gu_k _ _ _ _ _ _ (by decide), F67_f l m 28 b' 0 (by decide), gu_f _ _ _ _ _ _ _ _ (by decide), gu_f _ _ _ _ _ _ _ _ (by decide)]
            unfold gV
            rw [gu_k _ _ _ _ _ _ (by decide), gu_f _ _ _ _ _ _ _ _ (by decide)]
          · rw [F9_f b' 28 b' 1 _ (by omega) (by decide) (by decide) (by decide), gu_same]
          · rw [F9_f b' 28 b' 2 _ (by omega) (by decide) (by decide) (by decide), gu_k _ _ _ _ _ _ (by decide), F67_f l m 28 b' 2 (by decide), gu_f _ _ _ _ _ _ _ _ (by decide), gu_f _ _ _ _ _ _ _ _ (by decide)]
        have c28z : ∀ X : mG, F9 b' X 28 b' 3 = -1 ∧ F9 b' X 28 b' 4 = 0 ∧ F9 b' X 28 b' 5 = 0 ∧ F9 b' X 28 b' 6 = 0 := fun X => by simp [F9, gf, gu]
        have c3z : ∀ (X : mG) f i j, (f = 3 ∨ f = 4 ∨ f = 5) → j < 6 → F9 b' X f i j = if i = b' then 0 else X f i j := fun X f i j hf hj => by
          rcases hf with rfl | rfl | rfl <;> simp [F9, gf, gu, hj]
        have c345 : ∀ f i j, (f = 3 ∨ f = 4 ∨ f = 5) → j < 6 → F9 b' (gu (F67 l m 4 0 (gu (gu (gV b' g) 20 l 0 2) 20 l 1 (nI m - 1))) 28 b' 1 2) f i j = if i = b' then 0 else g f i j := fun f i j hf hj => by
          rw [c3z _ f i j hf hj]
          by_cases y : i = b'
          · rw [if_pos y, if_pos y]
          · rw [if_neg y, if_neg y, gu_f _ _ _ _ _ _ _ _ (by omega), F67_f l m f i j (by omega), gu_f _ _ _ _ _ _ _ _ (by omega), gu_f _ _ _ _ _ _ _ _ (by omega)]
            unfold gV
            rw [gu_f _ _ _ _ _ _ _ _ (by omega), gu_f _ _ _ _ _ _ _ _ (by omega)]
        have cz := c28z (gu (F67 l m 4 0 (gu (gu (gV b' g) 20 l 0 2) 20 l 1 (nI m - 1))) 28 b' 1 2)
        generalize F9 b' (gu (F67 l m 4 0 (gu (gu (gV b' g) 20 l 0 2) 20 l 1 (nI m - 1))) 28 b' 1 2) = C at k67 cf c23 c20 c13 c28 c28b c345 cz
        have hX : ∀ f i j, 35 < f ∧ f < 64 → gu C 65 0 0 0 f i j = g f i j := fun f i j hf => by rw [mu f i j C (by omega), cf f i j (by omega) (by omega) (by omega) (by omega) (by omega) (by omega) (by omega)]
        have hX5 : ∀ j, ¬ j = 0 → gu C 65 0 0 0 65 0 j = g 65 0 j := fun j hj => by rw [gu_k _ _ _ _ _ _ hj, cf 65 0 j (by decide) (by decide) (by decide) (by decide) (by decide) (by decide) (by decide)]
        obtain ⟨y, y', hc3'⟩ := hc3 (gu C 65 0 0 0) hX hX5
        have k116 := fun c s x o => m_116 N L c s x o b' l m y y' hb' hl10 hm (gu C 65 0 0 0) (by rw [hX 53 0 b' (by decide)]; exact s11) (by rw [hX5 5 (by decide), hX 52 0 b' (by decide)]; exact (v_m hb' r).mpr hv) (fun e he => by rw [hX 44 0 _ (by decide)]; exact hg44 e he)
        have mf : ∀ f i j, ¬ f = 55 → ¬ f = 57 → ¬ f = 58 → ¬ f = 56 → ¬ f = 54 → ¬ f = 51 → ¬ f = 39 → ¬ f = 38 → ¬ f = 37 → F101a 6 (6 * b') (gu (gu (gu (F116a b' l m 4 0 (gu (gu (gW b' (gu C 65 0 0 0)) 37 0 l 2) 38 0 l (nI m - 1))) 51 0 b' 2) 54 0 b' 0) 56 0 b' 0) f i j = gW b' (gu C 65 0 0 0) f i j := fun f i j b1 b2 b3 b4 b5 b6 b7 b8 b9 => by
          rw [F101a_f f i j b1 b2 b3, gu_f _ _ _ _ _ _ _ _ b4, gu_f _ _ _ _ _ _ _ _ b5, gu_f _ _ _ _ _ _ _ _ b6, F116a_f b' l m f i j b7, gu_f _ _ _ _ _ _ _ _ b8, gu_f _ _ _ _ _ _ _ _ b9]
        have mfg : ∀ f i j, 35 < f ∧ f < 64 → ¬ f = 52 → ¬ f = 55 → ¬ f = 57 → ¬ f = 58 → ¬ f = 56 → ¬ f = 54 → ¬ f = 51 → ¬ f = 39 → ¬ f = 38 → ¬ f = 37 → F101a 6 (6 * b') (gu (gu (gu (F116a b' l m 4 0 (gu (gu (gW b' (gu C 65 0 0 0)) 37 0 l 2) 38 0 l (nI m - 1))) 51 0 b' 2) 54 0 b' 0) 56 0 b' 0) f i j = g f i j := fun f i j b0 b52 b1 b2 b3 b4 b5 b6 b7 b8 b9 => by
          rw [mf f i j b1 b2 b3 b4 b5 b6 b7 b8 b9, gW_f _ _ _ _ _ (by omega) b52, hX f i j b0]
        have m37 : ∀ j, F101a 6 (6 * b') (gu (gu (gu (F116a b' l m 4 0 (gu (gu (gW b' (gu C 65 0 0 0)) 37 0 l 2) 38 0 l (nI m - 1))) 51 0 b' 2) 54 0 b' 0) 56 0 b' 0) 37 0 j = if j = l then 2 else g 37 0 j := fun j => by
          rw [F101a_f 37 0 j (by decide) (by decide) (by decide), gu_f _ _ _ _ _ _ _ _ (by decide), gu_f _ _ _ _ _ _ _ _ (by decide), gu_f _ _ _ _ _ _ _ _ (by decide), F116a_f b' l m 37 0 j (by decide), gu_f _ _ _ _ _ _ _ _ (by decide)]
          by_cases e : j = l
          · rw [if_pos e, e, gu_same]
          · rw [if_neg e, gu_k _ _ _ _ _ _ e, gW_f _ _ _ _ _ (by omega) (by decide), hX 37 0 j (by decide)]
        have m38 : ∀ j, F101a 6 (6 * b') (gu (gu (gu (F116a b' l m 4 0 (gu (gu (gW b' (gu C 65 0 0 0)) 37 0 l 2) 38 0 l (nI m - 1))) 51 0 b' 2) 54 0 b' 0) 56 0 b' 0) 38 0 j = if j = l then nI m - 1 else g 38 0 j := fun j => by
          rw [F101a_f 38 0 j (by decide) (by decide) (by decide), gu_f _ _ _ _ _ _ _ _ (by decide), gu_f _ _ _ _ _ _ _ _ (by decide), gu_f _ _ _ _ _ _ _ _ (by decide), F116a_f b' l m 38 0 j (by decide)]
          by_cases e : j = l
          · rw [if_pos e, e, gu_same]
          · rw [if_neg e, gu_k _ _ _ _ _ _ e, gu_f _ _ _ _ _ _ _ _ (by decide), gW_f _ _ _ _ _ (by omega) (by decide), hX 38 0 j (by decide)]
        have kw39 : ∀ f j, 35 < f ∧ f < 64 → ¬ f = 37 → ¬ f = 38 → ¬ f = 52 → gu (gu (gW b' (gu C 65 0 0 0)) 37 0 l 2) 38 0 l (nI m - 1) f 0 j = g f 0 j := fun f j b0 b1 b2 b3 => by
          rw [gu_f _ _ _ _ _ _ _ _ b2, gu_f _ _ _ _ _ _ _ _ b1, gW_f _ _ _ _ _ (by omega) b3, hX f 0 j b0]
        have m39 : ∀ l' p, p < 4 → F101a 6 (6 * b') (gu (gu (gu (F116a b' l m 4 0 (gu (gu (gW b' (gu C 65 0 0 0)) 37 0 l 2) 38 0 l (nI m - 1))) 51 0 b' 2) 54 0 b' 0) 56 0 b' 0) 39 0 (4 * l' + p) = if l' = l then F71 l (nI p) g m 0 (if l = 0 then 0 else g 13 (l - 1) p) else g 39 0 (4 * l' + p) := fun l' p hp' => by
          rw [F101a_f 39 0 _ (by decide) (by decide) (by decide), gu_f _ _ _ _ _ _ _ _ (by decide), gu_f _ _ _ _ _ _ _ _ (by decide), gu_f _ _ _ _ _ _ _ _ (by decide)]
          obtain ⟨f1, f2⟩ := F116a_v b' l m p hp' 4 0 (gu (gu (gW b' (gu C 65 0 0 0)) 37 0 l 2) 38 0 l (nI m - 1)) (by omega)
          by_cases e : l' = l
          · rw [if_pos e, e, f2, if_pos (by omega), gs_e r hM hl10 hp' (fun j => kw39 44 j (by decide) (by decide) (by decide) (by decide)) (fun j => kw39 41 j (by decide) (by decide) (by decide) (by decide)) (fun j => kw39 42 j (by decide) (by decide) (by decide) (by decide)) m 0 _ (by omega), kw39 39 _ (by decide) (by decide) (by decide) (by decide), er_e hn r hln hp']
          · rw [if_neg e, f1 _ (by omega), kw39 39 _ (by decide) (by decide) (by decide) (by decide)]
        have m5x : ∀ f j, f = 51 ∨ f = 54 ∨ f = 56 → F101a 6 (6 * b') (gu (gu (gu (F116a b' l m 4 0 (gu (gu (gW b' (gu C 65 0 0 0)) 37 0 l 2) 38 0 l (nI m - 1))) 51 0 b' 2) 54 0 b' 0) 56 0 b' 0) f 0 j = if j = b' then (if f = 51 then 2 else 0) else g f 0 j := fun f j hf => by
          rw [F101a_f f 0 j (by omega) (by omega) (by omega)]
          have kk : F116a b' l m 4 0 (gu (gu (gW b' (gu C 65 0 0 0)) 37 0 l 2) 38 0 l (nI m - 1)) f 0 j = g f 0 j := by rw [F116a_f b' l m f 0 j (by omega), kw39 f j (by omega) (by omega) (by omega) (by omega)]
          rcases hf with rfl | rfl | rfl
          · rw [gu_f _ _ _ _ _ _ _ _ (by decide), gu_f _ _ _ _ _ _ _ _ (by decide), if_pos rfl]
            by_cases e : j = b'
            · rw [if_pos e, e, gu_same]
            · rw [if_neg e, gu_k _ _ _ _ _ _ e, kk]
          · rw [gu_f _ _ _ _ _ _ _ _ (by decide), if_neg (show ¬ (54 : Nat) = 51 by decide)]
            by_cases e : j = b'
            · rw [if_pos e, e, gu_same]
            · rw [if_neg e, gu_k _ _ _ _ _ _ e, gu_f _ _ _ _ _ _ _ _ (by decide), kk]
          · rw [if_neg (show ¬ (56 : Nat) = 51 by decide)]
            by_cases e : j = b'
            · rw [if_pos e, e, gu_same]
            · rw [if_neg e, gu_k _ _ _ _ _ _ e, gu_f _ _ _ _ _ _ _ _ (by decide), gu_f _ _ _ _ _ _ _ _ (by decide), kk]
        have m55 : ∀ f j, f = 55 ∨ f = 57 ∨ f = 58 → F101a 6 (6 * b') (gu (gu (gu (F116a b' l m 4 0 (gu (gu (gW b' (gu C 65 0 0 0)) 37 0 l 2) 38 0 l (nI m - 1))) 51 0 b' 2) 54 0 b' 0) 56 0 b' 0) f 0 j = if 6 * b' ≤ j ∧ j < 6 * b' + 6 then 0 else g f 0 j := fun f j hf => by
          rw [F101a_v f j hf, gu_f _ _ _ _ _ _ _ _ (by omega), gu_f _ _ _ _ _ _ _ _ (by omega), gu_f _ _ _ _ _ _ _ _ (by omega), F116a_f b' l m f 0 j (by omega), kw39 f j (by omega) (by omega) (by omega) (by omega)]
        refine Or.inl ⟨nI m - 1, C, F101a 6 (6 * b') (gu (gu (gu (F116a b' l m 4 0 (gu (gu (gW b' (gu C 65 0 0 0)) 37 0 l 2) 38 0 l (nI m - 1))) 51 0 b' 2) 54 0 b' 0) 56 0 b' 0), k67, fun c s x o => (l_116i N L c s x o b' hb' C).trans ((hc3' c s x o).trans (k116 c s x o)), fun j => cf 0 0 j (by decide) (by decide) (by decide) (by decide) (by decide) (by decide) (by decide), ?_, ?_⟩
        · rw [mf 65 0 0 (by decide) (by decide) (by decide) (by decide) (by decide) (by decide) (by decide) (by decide) (by decide), gW_f _ _ _ _ _ (by decide) (by decide), gu_same]
        · generalize F101a 6 (6 * b') (gu (gu (gu (F116a b' l m 4 0 (gu (gu (gW b' (gu C 65 0 0 0)) 37 0 l 2) 38 0 l (nI m - 1))) 51 0 b' 2) 54 0 b' 0) 56 0 b' 0) = G at mf mfg m37 m38 m39 m5x m55
          have kC : ∀ f i j, f < 36 ∨ f = 64 → G f i j = C f i j := fun f i j hf => by rw [mf f i j (by omega) (by omega) (by omega) (by omega) (by omega) (by omega) (by omega) (by omega) (by omega), gW_f _ _ _ _ _ (by omega) (by omega), mu f i j C (by omega)]
          have kg : ∀ f i j, f < 36 ∨ f = 64 → ¬ f = 23 → ¬ f = 28 → ¬ f = 20 → ¬ f = 13 → ¬ f = 3 → ¬ f = 4 → ¬ f = 5 → G f i j = g f i j := fun f i j b0 b1 b2 b3 b4 b5 b6 b7 => by rw [kC f i j b0, cf f i j b1 b2 b3 b4 b5 b6 b7]
          have ho : out [23, 28, 20, 13, 3, 4, 5, 52, 55, 57, 58, 56, 54, 51, 39, 38, 37, 65] g G := fun f hf i j => by
            simp at hf
            by_cases y : f < 36 ∨ f = 64
            · exact kg f i j y (by omega) (by omega) (by omega) (by omega) (by omega) (by omega) (by omega)
            · by_cases y2 : f < 64
              · exact mfg f i j (by omega) (by omega) (by omega) (by omega) (by omega) (by omega) (by omega) (by omega) (by omega) (by omega) (by omega)
              · rw [mf f i j (by omega) (by omega) (by omega) (by omega) (by omega) (by omega) (by omega) (by omega) (by omega), gW_f _ _ _ _ _ (by omega) (by omega), mu f i j C (by omega), cf f i j (by omega) (by omega) (by omega) (by omega) (by omega) (by omega) (by omega)]
          have e0 := r.2.1.1
          have e5 := r.2.1.2.1
          have e2 := v_eq hb' hb r hv
          have g65 : ∀ j, ¬ j = 0 → ¬ j = 5 → G 65 0 j = g 65 0 j := fun j h1 h2 => by rw [mf 65 0 j (by decide) (by decide) (by decide) (by decide) (by decide) (by decide) (by decide) (by decide) (by decide), gW_f _ _ _ _ _ (by omega) (by decide), hX5 j h1]
          have k5 : ∀ js : List Nat, (∀ j, j ∈ js → ¬ j = 0 ∧ ¬ j = 5) → ago js g G := fun js hs j hj => g65 j (hs j hj).1 (hs j hj).2
          have g655 : G 65 0 5 = nI (V + 1) := by
            rw [mf 65 0 5 (by decide) (by decide) (by decide) (by decide) (by decide) (by decide) (by decide) (by decide) (by decide)]
            unfold gW
            rw [gu_f _ _ _ _ _ _ _ _ (by decide), gu_same, hX5 5 (by decide), e5, iI_s]
          have g52 : ∀ j, G 52 0 j = if j = b' then nI (V + 1) else g 52 0 j := fun j => by
            rw [mf 52 0 j (by decide) (by decide) (by decide) (by decide) (by decide) (by decide) (by decide) (by decide) (by decide)]
            unfold gW
            by_cases e : j = b'
            · rw [if_pos e, e, gu_same, hX5 5 (by decide), e5, iI_s]
            · rw [if_neg e, gu_k _ _ _ _ _ _ e, gu_f _ _ _ _ _ _ _ _ (by decide), hX 52 0 j (by decide)]
          have g23 : G 23 0 0 = nI (V + 1) ∧ ∀ j, ¬ j = 0 → G 23 0 j = g 23 0 j := by
            refine ⟨?_, fun j hj => ?_⟩
            · rw [kC 23 0 0 (by decide), c23]
              unfold gV
              rw [gu_f _ _ _ _ _ _ _ _ (by decide), gu_same, e0, iI_s]
            · rw [kC 23 0 j (by decide), c23]
              unfold gV
              rw [gu_f _ _ _ _ _ _ _ _ (by decide), gu_k _ _ _ _ _ _ hj]
          have gb2 : G 28 b' 2 = nI (V + 1) := by
            rw [kC 28 b' 2 (by decide), c28b.2.2]
            unfold gV
            rw [gu_same, e2, iI_s]
          obtain ⟨a1, a2, a3, a4, a5, a6, a7, a8, a9, a10⟩ := id r
          refine nxt_V (n' := n) (z' := z) (M' := M) ⟨rP_c (ag_o ho (by decide)) (k5 _ (by decide)) a1, ⟨g23.1, g655, ?_, ?_, ?_, ?_, ?_⟩, ⟨fun l' hl' => ?_, fun l' h1 h2 => ?_, fun l' hl' => ?_, fun l' hl' => ?_⟩, rS_c (ag_o ho (by decide)) (k5 _ (by decide)) a4, rH_c (ag_o ho (by decide)) a5, fun k hk => ⟨rKu_a (ag_o ho (by decide)) (a6 k hk).1, rKh_a (ag_o ho (by decide)) (a6 k hk).2⟩, fun b2 hb2 => ?_, ⟨fun x y' hx hy hxy p1 p2 => ?_, rU_own (b := b') hb.1 g655 (fun b2 hb2 e2' => by rw [g52, if_neg e2']; exact v52 r hb2) ⟨fun _ m' hm' e7 => ?_, fun y => by rw [m5x 51 b' (by omega), if_pos rfl, if_pos rfl] at y; exact y.elim (fun t => absurd t (by decide)) (fun t => absurd t (by decide))⟩⟩, fun d hd => rD_a (ag_o ho (by decide)) (a9 d hd), fun t ht => rV_a (ag_o ho (by decide)) (a10 t ht)⟩ hn hb.2.2.1 hM (fun j => ho 0 (by decide) _ _)
          · rw [g23.2 1 (by decide), g65 6 (by decide) (by decide)]; exact a2.2.2.1
          · rw [g23.2 2 (by decide)]; exact a2.2.2.2.1
          · rw [g65 7 (by decide) (by decide)]; exact a2.2.2.2.2.1
          · rw [g23.2 3 (by decide)]; exact a2.2.2.2.2.2.1
          · rw [g65 8 (by decide) (by decide)]; exact a2.2.2.2.2.2.2
          · obtain ⟨⟨m', st', t1, t2, t3, t4, t5, t6, t7, t8⟩, tE, tW⟩ := a3.1 l' hl'
            have x20 : ∀ j, G 20 l' j = if l' = l ∧ j = 0 then 2 else if l' = l ∧ j = 1 then nI m - 1 else g 20 l' j := fun j => by rw [kC 20 l' j (by decide), c20]
            refine ⟨?_, rLe_c' (by rw [x20, if_neg (by omega), if_neg (by omega)]) (ag_o ho (by decide)) tE, rLw_c (ag_o ho (by decide)) tW⟩
            by_cases e : l' = l
            · subst e
              refine ⟨m, 2, hm, Nat.le_refl _, ?_, ?_, ?_, ?_, fun y => absurd rfl y, fun p hp' => ?_⟩
              · rw [x20, if_pos ⟨rfl, rfl⟩]; rfl
              · rw [m37, if_pos rfl]; rfl
              · rw [x20, if_neg (by omega), if_pos ⟨rfl, rfl⟩]
              · rw [m38, if_pos rfl]
              · rw [kC 13 l' p (by decide), c13 l' p hp', if_pos rfl, if_pos rfl, m39 l' p hp', if_pos rfl]
            · refine ⟨m', st', t1, t2, ?_, ?_, ?_, ?_, t7, fun p hp' => ?_⟩
              · rw [x20, if_neg (fun y => e y.1), if_neg (fun y => e y.1)]; exact t3
              · rw [m37, if_neg e]; exact t4
              · rw [x20, if_neg (fun y => e y.1), if_neg (fun y => e y.1)]; exact t5
              · rw [m38, if_neg e]; exact t6
              · rw [kC 13 l' p (by decide), c13 l' p hp', if_neg e, m39 l' p hp', if_neg e]; exact t8 p hp'
          · obtain ⟨x1, x2, x3, x4, x5, x6, x7⟩ := a3.2.1 l' h1 h2
            have x20 : ∀ j, G 20 l' j = g 20 l' j := fun j => by rw [kC 20 l' j (by decide), c20, if_neg (by omega), if_neg (by omega)]
            exact ⟨by rw [x20]; exact x1, by rw [x20]; exact x2, by rw [x20]; exact x3, fun i hi => by rw [ho 11 (by decide)]; exact x4 i hi, fun i hi => by rw [ho 12 (by decide)]; exact x5 i hi, fun p hp' => by rw [kC 13 l' p (by decide), c13 l' p hp', if_neg (by omega)]; exact x6 p hp', fun i hi => by rw [ho 17 (by decide)]; exact x7 i hi⟩
          · rw [m37]
            by_cases e : l' = l
            · rw [if_pos e]
            · rw [if_neg e]; exact a3.2.2.1 l' hl'
          · rw [m37]
            by_cases e : l' = l
            · rw [if_pos e]
            · rw [if_neg e]; exact a3.2.2.2 l' hl'
          · by_cases e : b2 = b'
            · subst e
              obtain ⟨ph, l2, ve, e', bs, wr, rr⟩ := a7 b2 hb2
              refine ⟨2, l, V + 1, 0, ⟨by decide, hl10, Nat.le_refl _, ?_, ?_, fun y => absurd y ?_, ?_, ?_, gb2, ?_, ?_, fun y => by omega, fun _ => ?_⟩, rBw_z (by decide) ?_ ?_ ?_ (fun i hi => ?_) (fun i hi => ?_), rBr_z ?_ ?_ (fun i hi => ?_) (fun i hi => ?_) (fun i hi => ?_) (fun i hi => ?_)⟩
              · rw [kC 28 b2 0 (by decide), c28b.1]; exact bs.2.2.2.1
              · rw [kC 28 b2 0 (by decide), c28b.1, ho 50 (by decide)]; exact bs.2.2.2.2.1
              · rw [kC 28 b2 0 (by decide), c28b.1]; exact nup
              · rw [kC 28 b2 1 (by decide), c28b.2.1]; rfl
              · rw [m5x 51 b2 (by omega), if_pos rfl, if_pos rfl]; rfl
              · rw [g52, if_pos rfl]
              · rw [ho 53 (by decide)]; exact s11
              · rw [kC 28 b2 3 (by decide)]; exact cz.1
              · rw [kC 28 b2 4 (by decide)]; exact cz.2.1
              · rw [m5x 54 b2 (by omega), if_pos rfl, if_neg (by decide)]
              · rw [kC 28 b2 5 (by decide)]; exact cz.2.2.1
              · rw [kC 3 b2 i (by decide), c345 3 b2 i (by omega) hi, if_pos rfl]
              · rw [m55 55 _ (by omega), if_pos (by omega)]
              · rw [kC 28 b2 6 (by decide)]; exact cz.2.2.2
              · rw [m5x 56 b2 (by omega), if_pos rfl, if_neg (by decide)]
              · rw [kC 4 b2 i (by decide), c345 4 b2 i (by omega) hi, if_pos rfl]
              · rw [kC 5 b2 i (by decide), c345 5 b2 i (by omega) hi, if_pos rfl]
              · rw [m55 57 _ (by omega), if_pos (by omega)]
              · rw [m55 58 _ (by omega), if_pos (by omega)]
            · refine rB_up (Nat.le_refl _) (Nat.le_succ _) (rB_c (fun j => by rw [kC 28 b2 j (by decide), c28 b2 j e]) (fun f hf => ?_) (fun f hf i hi => ?_) (fun f hf i hi => ?_) (ag_o ho (by decide)) (g65 4 (by decide) (by decide)) (a7 b2 hb2))
              · simp at hf
                rcases hf with rfl | rfl | rfl | rfl | rfl | rfl
                · exact ho 50 (by decide) _ _
                · rw [m5x 51 b2 (by omega), if_neg e]
                · rw [g52, if_neg e]
                · exact ho 53 (by decide) _ _
                · rw [m5x 54 b2 (by omega), if_neg e]
                · rw [m5x 56 b2 (by omega), if_neg e]
              · simp at hf
                rw [kC f b2 i (by omega), c345 f b2 i hf hi, if_neg e]
              · simp at hf
                rw [m55 f _ hf, if_neg (by omega)]
          · have nx : ∀ x', G 51 0 x' = 3 → ¬ x' = b' := fun x' t u => by rw [m5x 51 x' (by omega), if_pos u, if_pos rfl] at t; exact absurd t (by decide)
            have n1 := nx x p1
            have n2 := nx y' p2
            rw [m5x 51 x (by omega), if_neg n1] at p1
            rw [m5x 51 y' (by omega), if_neg n2] at p2
            rw [ho 53 (by decide), ho 53 (by decide)]
            exact a8.1 x y' hx hy hxy p1 p2
          · obtain ⟨ph, l2, ve, e', bs, wr, rr⟩ := a7 b' hb'
            have hcur : g 52 0 b' = g 65 0 5 := by rw [e5, ← e2, bs.2.2.2.2.2.2.2.2.1, bs.2.2.2.2.2.2.2.2.2.1]
            have hph : ph = 1 ∨ ph = 3 := Classical.byContradiction (fun t => by
              have t1 := bs.2.2.2.2.2.2.2.2.2.2.2.2 t
              rw [hl3] at t1
              exact absurd t1 (by rw [nI_m1 (show l < 65536 by omega)]; exact id))
            have h7 := (a8.2 b' hb' hcur).2 (hph.elim (fun t => Or.inl (by rw [bs.2.2.2.2.2.2.2.1, t]; rfl)) (fun t => Or.inr (by rw [bs.2.2.2.2.2.2.2.1, t]; rfl)))
            rw [a2.2.2.2.2.1, s11, iI_s, iI_eq (by omega) (by omega)] at h7
            rw [g65 7 (by decide) (by decide), a2.2.2.2.2.1, iI_eq (by omega) (by omega)] at e7
            rw [m37, if_pos (by omega)]
      · have f9 : ∀ f i j, ¬ f ∈ [28, 3, 4, 5, 7, 22, 10] → F8 b' g f i j = g f i j := fun f i j hf => F8_9 b' f i j g hf
        have fm : ∀ f i j, 35 < f ∧ f < 64 → gu (F8 b' g) 65 0 0 0 f i j = g f i j := fun f i j hf => by
          rw [mu f i j _ (by omega)]
          refine f9 f i j (fun y => ?_)
          simp at y
          omega
        have f5 : ∀ j, ¬ j = 0 → gu (F8 b' g) 65 0 0 0 65 0 j = g 65 0 j := fun j hj => by rw [gu_k _ _ _ _ _ _ hj, f9 65 0 j (by decide)]
        obtain ⟨y, y', hc3'⟩ := hc3 (gu (F8 b' g) 65 0 0 0) fm f5
        refine Or.inr ⟨33, 0, F8 b' g, _, by decide, fun c s x o => m_67u N L c s x o b' hb' g (hc1 c s x o) hv, fun c s x o => (l_116i N L c s x o b' hb' _).trans ((hc3' c s x o).trans (m_116u N L c s x o b' l m y y' hb' _ ?_ ?_)), fun j => f9 0 0 j (by decide), gu_same _ _ _ _ _, nxt_lv hb' hb r⟩
        · rw [fm 53 0 b' (by decide)]; exact s11
        · rw [f5 5 (by decide), fm 52 0 b' (by decide)]; exact fun y => hv ((v_m hb' r).mp y)
  · exact Or.inr ⟨30, 0, g, _, by decide, fun c s x o => m_67a N L c s x o b h g, fun c s x o => m_116a N L c s x o b g (fun k => h ((i_b3 b).mp k)), fun _ => rfl, gu_same _ _ _ _ _, nxt_00 hb r⟩
end O12
