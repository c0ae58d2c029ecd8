/-! the chain of a broker: class and model -/
def cll (b : Nat) (g : mG) : Nat → Nat → List Nat
  | 0, _ => []
  | r + 1, l => seg l 0 (cl b l g).toNatClampNeg ++ cll b g r (l + 1)
theorem seg_m {l e d t : Nat} : t ∈ seg l e d ↔ ∃ x, e ≤ x ∧ x < e + d ∧ t = 8 * l + x := by
  unfold seg
  rw [List.mem_map]
  constructor
  · rintro ⟨x, h1, h2⟩
    rw [List.mem_range'_1] at h1
    exact ⟨x, h1.1, h1.2, h2.symm⟩
  · rintro ⟨x, h1, h2, h3⟩
    exact ⟨x, List.mem_range'_1.mpr ⟨h1, h2⟩, h3.symm⟩
theorem find_c {p p' : Nat → Bool} : ∀ (l : List Nat), (∀ t, t ∈ l → p t = p' t) → l.find? p = l.find? p' := by
  intro l
  induction l with
  | nil => exact fun _ => rfl
  | cons t ts ih =>
    intro h
    have h1 := h t (List.mem_cons_self ..)
    have h2 := ih (fun x hx => h x (List.mem_cons_of_mem _ hx))
    cases hp : p t with
    | true => rw [List.find?_cons_of_pos hp, List.find?_cons_of_pos (by rw [← h1]; exact hp)]
    | false => rw [List.find?_cons_of_neg (by rw [hp]; exact Bool.false_ne_true), List.find?_cons_of_neg (by rw [← h1, hp]; exact Bool.false_ne_true), h2]
def P83 (d : Nat) (g : mG) (t : Nat) : Bool := decide (¬ bt (g 22 (2 + d) (t / 8)) (t % 8) ∧ g 10 d t = -1)
theorem F83e_f (d l : Nat) (g : mG) : ∀ (m e : Nat), e + m ≤ 8 → F83e d l g m e = (seg l e m).find? (P83 d g) := by
  intro m
  induction m with
  | zero => exact fun _ _ => rfl
  | succ m ih =>
    intro e he
    rw [seg_s]
    have hP : P83 d g (8 * l + e) = decide (¬ bt (g 22 (2 + d) l) e ∧ g 10 d (8 * l + e) = -1) := by
      unfold P83
      rw [show (8 * l + e) / 8 = l by omega, show (8 * l + e) % 8 = e by omega]
    show (if ¬ bt (g 22 (2 + d) l) e ∧ g 10 d (8 * l + e) = -1 then some (8 * l + e) else F83e d l g m (e + 1)) = _
    by_cases y : ¬ bt (g 22 (2 + d) l) e ∧ g 10 d (8 * l + e) = -1
    · rw [if_pos y, List.find?_cons_of_pos (by rw [hP]; exact decide_eq_true y)]
    · rw [if_neg y, List.find?_cons_of_neg (by rw [hP, decide_eq_false y]; exact Bool.false_ne_true), ih (e + 1) (by omega)]
theorem F83_f (b d : Nat) (g : mG) : ∀ (r l : Nat), (∀ l', l ≤ l' → l' < l + r → (cl b l' g).toNatClampNeg ≤ 6) → F83 b d g r l = (cll b g r l).find? (P83 d g) := by
  intro r
  induction r with
  | zero => exact fun _ _ => rfl
  | succ r ih =>
    intro l h
    show (if F83e d l g (cl b l g).toNatClampNeg 0 = none then F83 b d g r (l + 1) else F83e d l g (cl b l g).toNatClampNeg 0) = (seg l 0 (cl b l g).toNatClampNeg ++ cll b g r (l + 1)).find? (P83 d g)
    have h6 := h l (by omega) (by omega)
    rw [List.find?_append, ← F83e_f d l g _ 0 (by omega), ih (l + 1) (fun l' h1 h2 => h l' (by omega) (by omega))]
    cases hF : F83e d l g (cl b l g).toNatClampNeg 0 with
    | none => rw [if_pos rfl]; rfl
    | some t => rw [if_neg (fun z => by cases z)]; rfl
section O14
variable {N w q a V n z M : Nat} {g : mG} (L : Nat)
/-- the lengths -/
theorem cl_n {b l : Nat} (hb : nb V n z M) (r : Rel N w q a V n z M g) (hbb : b < 3) (hl : l < 10) : ∃ m, m ≤ 6 ∧ cl b l g = nI m ∧ (n ≤ l → m = 0) ∧ (l < n → (g 37 0 l = 2 → m = cM l g) ∧ (¬ g 37 0 l = 2 → (g 51 0 b = 3 ∧ g 53 0 b = nI l → m = F106 b g (g 54 0 b).toNatClampNeg 0) ∧ (¬ (g 51 0 b = 3 ∧ g 53 0 b = nI l) → m = 0))) := by
  obtain ⟨ph, l0, ve, e, s, wr, rr⟩ := r.2.2.2.2.2.2.1 b hbb
  obtain ⟨s1, s2, s3, s4, s5, s6, s7, s8, s9, s10, s11, s12, s13⟩ := s
  have he6 := wr.1
  have hle := F106_le b g e 0
  have e54 : (g 54 0 b).toNatClampNeg = e := by rw [wr.2.2.1]; exact tn (by omega)
  have hw : (g 28 b 1 = 3 ∧ g 28 b 3 = nI l) ↔ (g 51 0 b = 3 ∧ g 53 0 b = nI l) := by
    rw [s7, s8, s11]
    by_cases y : ph = 3
    · have e3 : nI ph = 3 := by rw [y]; rfl
      rw [(s12 (Or.inr y)).2]
    · have n3 : ¬ nI ph = 3 := fun t => y ((ph_i s1 (k := 3) (by decide)).mp t)
      exact ⟨fun t => absurd t.1 n3, fun t => absurd t.1 n3⟩
  by_cases hln : l < n
  · obtain ⟨⟨m, st, t1, t2, t3, t4, t5, t6, t7, t8⟩, _⟩ := r.2.2.1.1 l hln
    have ec : cM l g = m := by
      unfold cM
      rw [t6, Int32.sub_add_cancel]
      exact tn (by omega)
    have e20 : g 20 l 0 = g 37 0 l := by rw [t3, t4]
    unfold cl
    by_cases y : g 37 0 l = 2
    · rw [e20, if_pos y, t5, Int32.sub_add_cancel]
      exact ⟨m, t1, rfl, fun t => by omega, fun _ => ⟨fun _ => ec.symm, fun t => absurd y t⟩⟩
    · rw [e20, if_neg y]
      by_cases u : g 28 b 1 = 3 ∧ g 28 b 3 = nI l
      · rw [if_pos u, wr.2.2.2.2.1]
        exact ⟨F106 b g e 0, by omega, rfl, fun t => by omega, fun _ => ⟨fun t => absurd t y, fun _ => ⟨fun _ => by rw [e54], fun t => absurd (hw.mp u) t⟩⟩⟩
      · rw [if_neg u]
        exact ⟨0, by omega, rfl, fun t => by omega, fun _ => ⟨fun t => absurd t y, fun _ => ⟨fun t => absurd (hw.mpr t) u, fun _ => rfl⟩⟩⟩
  · obtain ⟨x1, x2, _⟩ := r.2.2.1.2.1 l (by omega) hl
    unfold cl
    rw [x1, if_neg (by decide)]
    have hnw : ¬ (g 28 b 1 = 3 ∧ g 28 b 3 = nI l) := fun t => by
      have t' := hw.mp t
      rw [s8] at t'
      have hph := (ph_i s1 (k := 3) (by decide)).mp t'.1
      have := (s12 (Or.inr hph)).1
      rw [s11, iI_eq (by omega) (by omega)] at t'
      omega
    rw [if_neg hnw]
    exact ⟨0, by omega, rfl, fun _ => rfl, fun t => by omega⟩
theorem hC_r {b : Nat} (hb : nb V n z M) (r : Rel N w q a V n z M g) (hbb : b < 3) : ∀ l, l < 10 → ∃ m, m ≤ 6 ∧ cl b l g = nI m := fun l hl => by
  obtain ⟨m, h1, h2, _⟩ := cl_n hb r hbb hl
  exact ⟨m, h1, h2⟩
/-- the same chain -/
theorem ch_e {b : Nat} (hb : nb V n z M) (r : Rel N w q a V n z M g) (hbb : b < 3) : cll b g (n - z) z = chn b n z g := by
  have hn := hb.2.1
  have hz := hb.2.2.1
  obtain ⟨ph, l0, ve, e, s, wr, rr⟩ := r.2.2.2.2.2.2.1 b hbb
  obtain ⟨s1, s2, s3, s4, s5, s6, s7, s8, s9, s10, s11, s12, s13⟩ := s
  have e53 : (g 53 0 b).toNatClampNeg = l0 := by rw [s11]; exact tn (by omega)
  have key : ∀ (k l : Nat), l + k = n → z ≤ l → cll b g k l = lcl g k l ++ (if (g 51 0 b = 3 ∧ ¬ g 37 0 l0 = 2) ∧ l ≤ l0 then seg l0 0 (F106 b g (g 54 0 b).toNatClampNeg 0) else []) := by
    intro k
    induction k with
    | zero =>
      intro l hl hzl
      have : ¬ ((g 51 0 b = 3 ∧ ¬ g 37 0 l0 = 2) ∧ l ≤ l0) := fun y => by
        have h3 := y.1.1
        rw [s8] at h3
        have := (s12 (Or.inr ((ph_i s1 (k := 3) (by decide)).mp h3))).1
        omega
      rw [if_neg this]
      rfl
    | succ k ih =>
      intro l hl hzl
      obtain ⟨m, c1, c2, c3, c4⟩ := cl_n hb r hbb (show l < 10 by omega)
      have c4' := c4 (by omega)
      have hcl : (cl b l g).toNatClampNeg = m := by rw [c2]; exact tn (by omega)
      show seg l 0 (cl b l g).toNatClampNeg ++ cll b g k (l + 1) = ((if g 37 0 l = 2 then seg l 0 (cM l g) else []) ++ lcl g k (l + 1)) ++ _
      rw [hcl, ih (l + 1) (by omega) (by omega)]
      by_cases y : g 37 0 l = 2
      · rw [if_pos y, c4'.1 y, List.append_assoc]
        refine congrArg (fun t => seg l 0 (cM l g) ++ (lcl g k (l + 1) ++ t)) ?_
        by_cases u : (g 51 0 b = 3 ∧ ¬ g 37 0 l0 = 2) ∧ l ≤ l0
        · have : ¬ l = l0 := fun t => u.1.2 (by rw [← t]; exact y)
          rw [if_pos u, if_pos ⟨u.1, by omega⟩]
        · rw [if_neg u, if_neg (fun t => u ⟨t.1, by omega⟩)]
      · have hlast : l + 1 = n := Classical.byContradiction (fun t => y (r.2.2.1.2.2.1 l (by omega)))
        have hk0 : k = 0 := by omega
        subst hk0
        rw [if_neg y, List.nil_append, show lcl g 0 (l + 1) = [] from rfl, List.nil_append, List.nil_append]
        by_cases u : g 51 0 b = 3 ∧ g 53 0 b = nI l
        · have hl0 : l0 = l := by
            have := u.2
            rw [s11] at this
            exact (iI_eq (by omega) (by omega)).mp this
          subst hl0
          rw [(c4'.2 y).1 u, if_neg (fun t => by omega), if_pos ⟨⟨u.1, y⟩, Nat.le_refl _⟩, List.append_nil]
        · have h5 : ¬ ((g 51 0 b = 3 ∧ ¬ g 37 0 l0 = 2) ∧ l ≤ l0) := fun t => by
            have h3 := t.1.1
            rw [s8] at h3
            have := (s12 (Or.inr ((ph_i s1 (k := 3) (by decide)).mp h3))).1
            have := t.2
            exact u ⟨t.1.1, by rw [s11]; exact congrArg nI (by omega)⟩
          have h6 : ¬ ((g 51 0 b = 3 ∧ ¬ g 37 0 l0 = 2) ∧ l + 1 ≤ l0) := fun t => h5 ⟨t.1, Nat.le_of_succ_le t.2⟩
          rw [(c4'.2 y).2 u, if_neg h5, if_neg h6]
          rfl
  rw [key (n - z) z (by omega) (Nat.le_refl _)]
  unfold chn
  rw [e53]
  refine congrArg (fun t => lcl g (n - z) z ++ t) ?_
  by_cases u : g 51 0 b = 3 ∧ ¬ g 37 0 l0 = 2
  · have hz0 : z ≤ l0 := Classical.byContradiction (fun t => u.2 (r.2.2.1.2.2.2 l0 (by omega)))
    rw [if_pos ⟨u, hz0⟩, if_pos u]
  · rw [if_neg (fun t => u t.1), if_neg u]
/-- the positions in it -/
theorem ch_m {b t : Nat} (hb : nb V n z M) (r : Rel N w q a V n z M g) (hbb : b < 3) (ht : t ∈ chn b n z g) : t / 8 < n ∧ t % 8 < 6 ∧ t < 80 := by
  have hn := hb.2.1
  have hz := hb.2.2.1
  rw [← ch_e hb r hbb] at ht
  have key : ∀ (k l : Nat), l + k = n → t ∈ cll b g k l → t / 8 < n ∧ t % 8 < 6 ∧ t < 80 := by
    intro k
    induction k with
    | zero => intro l _ h; exact absurd h (List.not_mem_nil)
    | succ k ih =>
      intro l hl h
      have h' : t ∈ seg l 0 (cl b l g).toNatClampNeg ++ cll b g k (l + 1) := h
      rcases List.mem_append.mp h' with y | y
      · obtain ⟨x, x1, x2, x3⟩ := seg_m.mp y
        obtain ⟨m, c1, c2, _⟩ := cl_n hb r hbb (show l < 10 by omega)
        rw [c2, tn (show m < 65536 by omega)] at x2
        omega
      · exact ih (l + 1) (by omega) y
  exact key (n - z) z (by omega) ht
theorem lcl_c {X : mG} (h37 : ∀ j, X 37 0 j = g 37 0 j) (h38 : ∀ j, X 38 0 j = g 38 0 j) : ∀ (k l : Nat), lcl X k l = lcl g k l := by
  intro k
  induction k with
  | zero => exact fun _ => rfl
  | succ k ih =>
    intro l
    show (if X 37 0 l = 2 then seg l 0 (cM l X) else []) ++ lcl X k (l + 1) = (if g 37 0 l = 2 then seg l 0 (cM l g) else []) ++ lcl g k (l + 1)
    unfold cM
    rw [h37, h38, ih]
theorem chn_c {b : Nat} {X : mG} (hb : nb V n z M) (r : Rel N w q a V n z M g) (hbb : b < 3) (h : ∀ f i j, 35 < f ∧ f < 59 → X f i j = g f i j) (h4 : X 65 0 4 = g 65 0 4) : chn b n z X = chn b n z g := by
  obtain ⟨ph, l0, ve, e, s, wr, rr⟩ := r.2.2.2.2.2.2.1 b hbb
  have he6 := wr.1
  unfold chn
  rw [lcl_c (fun j => h 37 0 j (by decide)) (fun j => h 38 0 j (by decide)), h 51 0 b (by decide), h 53 0 b (by decide), h 54 0 b (by decide), h 37 0 _ (by decide), wr.2.2.1, tn (show e < 65536 by omega), F106_g b g X h4 (fun i _ => h 55 0 _ (by decide)) e 0 (by omega)]
/-- lay, for any memory that agrees -/
theorem lay_e {b : Nat} {X : mG} (hb : nb V n z M) (r : Rel N w q a V n z M g) (hbb : b < 3) (h : ∀ f i j, 35 < f ∧ f < 59 → X f i j = g f i j) (h5 : ∀ j, ¬ j = 0 → X 65 0 j = g 65 0 j) : ∃ G : mG, (∀ c s x o, av_cal 130 [.inr (.inr (some (65, 0))), .inl (nI b)] (mm N L c s x o X) = some (.inl none, mm N L c s x o G)) ∧ cOK (chn b n z g) G ∧ scr X G ∧ (chn b n z g).length ≤ 66 := by
  obtain ⟨ph, l0, ve, e, ⟨s1, s2, s3, s4, s5, s6, s7, s8, s9, s10, s11, s12, s13⟩, wr, rr⟩ := r.2.2.2.2.2.2.1 b hbb
  have hL : ∀ l, l < n → ∃ m, m ≤ 6 ∧ X 38 0 l = nI m - 1 := fun l hl => by
    obtain ⟨⟨m, st, t1, t2, t3, t4, t5, t6, _⟩, _⟩ := r.2.2.1.1 l hl
    exact ⟨m, t1, by rw [h 38 0 l (by decide)]; exact t6⟩
  have k := m_130 N L b n z l0 e hbb hb.2.1 hb.2.2.1 s2 wr.1 X ((h5 7 (by decide)).trans r.2.1.2.2.2.2.1) ((h5 8 (by decide)).trans r.2.1.2.2.2.2.2.2) ((h 53 0 b (by decide)).trans s11) ((h 54 0 b (by decide)).trans wr.2.2.1) hL
  rw [chn_c hb r hbb h (h5 4 (by decide))] at k
  exact k
end O14
