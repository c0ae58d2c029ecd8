/-! send: the consumer, what can be read, the first that is not sent -/
section O15
variable {N w q a V n z M : Nat} {g : mG} (L : Nat)
theorem le1 {r : Nat} (hr : r ≤ 1000) : (nI (r + 1) ≤ 1) = (r ≤ 0) := (iI_le (a := r + 1) (b := 1) (by omega) (by decide)).trans (propext ⟨fun h => by omega, fun h => by omega⟩)
theorem le0 {r : Nat} (hr : r ≤ 1000) : (nI r ≤ 0) = (r ≤ 0) := iI_le (b := 0) (by omega) (by decide)
theorem F131a_e {b d : Nat} {X : mG} (hd : 8 * b = 4 * d) (h : ∀ j, X 61 0 j = g 61 0 j) (hD : rDc d g) : ∀ (m y : Nat), y + m = 4 → F131a b X m y = F19 d g m y ∧ (F19 d g m y = -1 ∨ ∃ v, v < 4 ∧ F19 d g m y = nI v ∧ bt (g 7 d 0) v ∧ ¬ g 9 d v ≤ 0) := by
  intro m
  induction m with
  | zero => exact fun _ _ => ⟨rfl, Or.inl rfl⟩
  | succ m ih =>
    intro y hy
    have hF : F19 d g (m + 1) y = if bt (g 7 d 0) y then (if g 9 d y ≤ 0 then -1 else nI y) else F19 d g m (y + 1) := rfl
    have hF' : F131a b X (m + 1) y = if X 61 0 (8 * b + y) ≤ 0 then F131a b X m (y + 1) else (if X 61 0 (8 * b + y) ≤ 1 then -1 else nI y) := rfl
    rw [hF, hF', h, hd]
    by_cases u : bt (g 7 d 0) y
    · obtain ⟨r', hr, e1, e2⟩ := (hD.2.1 y (by omega)).1 u
      have h0 : ¬ g 61 0 (4 * d + y) ≤ 0 := by rw [e2]; exact pos_z hr
      rw [if_neg h0, if_pos u]
      by_cases x : r' ≤ 0
      · have h1 : g 61 0 (4 * d + y) ≤ 1 := by rw [e2, le1 hr]; exact x
        have h2 : g 9 d y ≤ 0 := by rw [e1, le0 hr]; exact x
        rw [if_pos h1, if_pos h2]
        exact ⟨rfl, Or.inl rfl⟩
      · have h1 : ¬ g 61 0 (4 * d + y) ≤ 1 := by rw [e2, le1 hr]; exact x
        have h2 : ¬ g 9 d y ≤ 0 := by rw [e1, le0 hr]; exact x
        rw [if_neg h1, if_neg h2]
        exact ⟨rfl, Or.inr ⟨y, by omega, rfl, u, h2⟩⟩
    · have h0 : g 61 0 (4 * d + y) ≤ 0 := by rw [(hD.2.1 y (by omega)).2 u]; decide
      rw [if_pos h0, if_neg u]
      exact ih (y + 1) (by omega)
theorem F131b_e {b d p p' : Nat} {X : mG} (hd : 8 * b + 4 = 4 * d) (hpp : p' % 4 = (p + 1) % 4) (h : ∀ j, X 61 0 j = g 61 0 j) (hD : rDc d g) : ∀ (m i : Nat), F131b b p' X m i = F20 d p g m (i + 1) ∧ (F20 d p g m (i + 1) = -1 ∨ ∃ v, v < 4 ∧ F20 d p g m (i + 1) = nI v ∧ bt (g 7 d 0) v ∧ ¬ g 9 d v ≤ 0) := by
  intro m
  induction m with
  | zero => exact fun _ => ⟨rfl, Or.inl rfl⟩
  | succ m ih =>
    intro i
    have hF : F20 d p g (m + 1) (i + 1) = if bt (g 7 d 0) ((p + (i + 1)) % 4) ∧ ¬ g 9 d ((p + (i + 1)) % 4) ≤ 0 then nI ((p + (i + 1)) % 4) else F20 d p g m (i + 1 + 1) := rfl
    have hF' : F131b b p' X (m + 1) i = if X 61 0 (8 * b + 4 + (p' + i) % 4) ≤ 1 then F131b b p' X m (i + 1) else nI ((p' + i) % 4) := rfl
    have e : (p' + i) % 4 = (p + (i + 1)) % 4 := by omega
    have hy : (p + (i + 1)) % 4 < 4 := Nat.mod_lt _ (by decide)
    rw [hF, hF', h, hd, e]
    generalize (p + (i + 1)) % 4 = y at hy
    by_cases u : bt (g 7 d 0) y
    · obtain ⟨r', hr, e1, e2⟩ := (hD.2.1 y hy).1 u
      by_cases x : r' ≤ 0
      · have h1 : g 61 0 (4 * d + y) ≤ 1 := by rw [e2, le1 hr]; exact x
        have h2 : g 9 d y ≤ 0 := by rw [e1, le0 hr]; exact x
        rw [if_pos h1, if_neg (fun k => k.2 h2)]
        exact ih (i + 1)
      · have h1 : ¬ g 61 0 (4 * d + y) ≤ 1 := by rw [e2, le1 hr]; exact x
        have h2 : ¬ g 9 d y ≤ 0 := by rw [e1, le0 hr]; exact x
        rw [if_neg h1, if_pos ⟨u, h2⟩]
        exact ⟨rfl, Or.inr ⟨y, hy, rfl, u, h2⟩⟩
    · have h0 : g 61 0 (4 * d + y) ≤ 1 := by rw [(hD.2.1 y hy).2 u]; decide
      rw [if_pos h0, if_neg (fun k => u k.1)]
      exact ih (i + 1)
/-- the same consumer -/
theorem con_e {b t : Nat} {X : mG} (ht : t < 2) (h : ∀ j, X 61 0 j = g 61 0 j) (h62 : ∀ j, X 62 0 j = g 62 0 j) (hD : rDc (2 * b + t) g) : F131 b t X = F82 b t g ∧ (F82 b t g = -1 ∨ ∃ v, v < 4 ∧ F82 b t g = nI v ∧ bt (g 7 (2 * b + t) 0) v ∧ ¬ g 9 (2 * b + t) v ≤ 0) := by
  unfold F131 F82
  by_cases y : t = 0
  · rw [if_pos y, if_pos y]
    exact F131a_e (by omega) h hD 4 0 (by omega)
  · have y1 : t = 1 := by omega
    subst y1
    obtain ⟨_, _, p, p', p1, p2, p3, p4, p5⟩ := hD
    rw [if_neg y, if_neg y, h62, p4, p3, tn (show p' < 65536 by omega), tn (show p < 65536 by omega)]
    exact F131b_e (by omega) p5 h ⟨‹_›, ‹_›, p, p', p1, p2, p3, p4, p5⟩ 4 0
/-- what can be read -/
theorem F85_z (l e : Nat) : ∀ (m k : Nat), F85 l e g m k = true ↔ ∃ j, k ≤ j ∧ j < k + m ∧ ¬ g 26 j 0 = 0 ∧ bt (g 12 l e) j ∧ bt (g 1 j l) e := by
  intro m
  induction m with
  | zero => exact fun k => ⟨fun h => absurd h Bool.false_ne_true, fun ⟨j, h1, h2, _⟩ => by omega⟩
  | succ m ih =>
    intro k
    have hF : F85 l e g (m + 1) k = if ¬ g 26 k 0 = 0 ∧ bt (g 12 l e) k ∧ bt (g 1 k l) e then true else F85 l e g m (k + 1) := rfl
    rw [hF]
    by_cases y : ¬ g 26 k 0 = 0 ∧ bt (g 12 l e) k ∧ bt (g 1 k l) e
    · rw [if_pos y]
      exact ⟨fun _ => ⟨k, by omega, by omega, y⟩, fun _ => rfl⟩
    · rw [if_neg y, ih (k + 1)]
      refine ⟨fun ⟨j, h1, h2, h3⟩ => ⟨j, by omega, by omega, h3⟩, fun ⟨j, h1, h2, h3⟩ => ?_⟩
      have : ¬ j = k := fun x => y (by rw [← x]; exact h3)
      exact ⟨j, by omega, by omega, h3⟩
theorem F132_z (t w q : Nat) : ∀ (m k : Nat) (v : Int32), (v = 0 ∨ v = 1) → (F132 t w q g m k v = 0 ↔ v = 0 ∧ ¬ ∃ j, k ≤ j ∧ j < k + m ∧ ¬ g 46 0 j = 0 ∧ ¬ g 47 0 (80 * j + t) ≤ 0 ∧ ¬ F111 (t / 8) (t % 8 % w) w (nI j) g q 0 0 = 0) := by
  intro m
  induction m with
  | zero =>
    intro k v hv
    show v = 0 ↔ _
    exact ⟨fun h => ⟨h, fun ⟨j, h1, h2, _⟩ => by omega⟩, fun h => h.1⟩
  | succ m ih =>
    intro k v hv
    have hF : F132 t w q g (m + 1) k v = F132 t w q g m (k + 1) (if v = 0 then bI (¬ g 46 0 k = 0 ∧ ¬ g 47 0 (80 * k + t) ≤ 0 ∧ ¬ F111 (t / 8) (t % 8 % w) w (nI k) g q 0 0 = 0) else 1) := rfl
    rw [hF]
    by_cases v0 : v = 0
    · rw [if_pos v0]
      by_cases y : ¬ g 46 0 k = 0 ∧ ¬ g 47 0 (80 * k + t) ≤ 0 ∧ ¬ F111 (t / 8) (t % 8 % w) w (nI k) g q 0 0 = 0
      · rw [bI_t _ y, ih (k + 1) 1 (Or.inr rfl)]
        exact ⟨fun h => absurd h.1 (by decide), fun h => absurd ⟨k, by omega, by omega, y⟩ h.2⟩
      · rw [bI_f _ y, ih (k + 1) 0 (Or.inl rfl)]
        refine ⟨fun h => ⟨v0, fun ⟨j, h1, h2, h3⟩ => h.2 ?_⟩, fun h => ⟨rfl, fun ⟨j, h1, h2, h3⟩ => h.2 ⟨j, by omega, by omega, h3⟩⟩⟩
        have : ¬ j = k := fun x => y (by rw [← x]; exact h3)
        exact ⟨j, by omega, by omega, h3⟩
    · rw [if_neg v0, ih (k + 1) 1 (Or.inr rfl)]
      exact ⟨fun h => absurd h.1 (by decide), fun h => absurd h.1 v0⟩
theorem read_e {u : Nat} {X : mG} (hp : pr N w q a) (hb : nb V n z M) (r : Rel N w q a V n z M g) (h1 : u / 8 < n) (h2 : u % 8 < 6) (h36 : ∀ j, X 36 0 j = g 36 0 j) (h46 : ∀ j, X 46 0 j = g 46 0 j) (h47 : ∀ j, X 47 0 j = g 47 0 j) : F132 u w q X N 0 0 = 0 ↔ ¬ F85 (u / 8) (u % 8) g N 0 = true := by
  have hn := hb.2.1
  rw [F132_z u w q N 0 0 (Or.inl rfl), F85_z]
  refine ⟨fun h => fun ⟨j, a1, a2, a3, a4, a5⟩ => h.2 ⟨j, a1, a2, ?_⟩, fun h => ⟨rfl, fun ⟨j, a1, a2, a3, a4, a5⟩ => h ⟨j, a1, a2, ?_⟩⟩⟩
  · have hj : j < N := by omega
    have hN := hp.2.1
    rw [h46, h47, F111_c (g := g) h36, wr_z, Classical.not_not, show 80 * j + u = 80 * j + 8 * (u / 8) + u % 8 by omega, ← has_p hb r hj (by omega) (by omega), (r.2.2.2.2.2.1 j hj).1.2.1]
    exact ⟨a3, a5, ((r.2.2.1.1 (u / 8) h1).2.2 (u % 8) h2).2 j (by omega) |>.mp a4⟩
  · have hj : j < N := by omega
    have hN := hp.2.1
    rw [h46, (r.2.2.2.2.2.1 j hj).1.2.1] at a3
    rw [h47, show 80 * j + u = 80 * j + 8 * (u / 8) + u % 8 by omega, ← has_p hb r hj (by omega) (by omega)] at a4
    rw [F111_c (g := g) h36, wr_z, Classical.not_not] at a5
    exact ⟨a3, ((r.2.2.1.1 (u / 8) h1).2.2 (u % 8) h2).2 j (by omega) |>.mpr a5, a4⟩
/-- the same position -/
theorem fst_e {b d : Nat} {X : mG} (hb : nb V n z M) (r : Rel N w q a V n z M g) (hbb : b < 3) (hd : d < 6) (h59 : ∀ j, X 59 0 j = g 59 0 j) (h60 : ∀ j, X 60 0 j = g 60 0 j) : F83 b d g (n - z) z = (chn b n z g).find? (P129 d X) := by
  have hn := hb.2.1
  have hz := hb.2.2.1
  rw [F83_f b d g (n - z) z (fun l h1 h2 => by
    obtain ⟨m, c1, c2, _⟩ := cl_n hb r hbb (show l < 10 by omega)
    rw [c2, tn (show m < 65536 by omega)]
    exact c1), ch_e hb r hbb]
  refine find_c _ (fun t ht => ?_)
  obtain ⟨_, _, t80⟩ := ch_m hb r hbb ht
  obtain ⟨_, dA, dS⟩ := r.2.2.2.2.2.2.2.2.1 d hd
  have h1 := (dA (t / 8) (by omega)).2 (t % 8) (by omega)
  rw [show 80 * d + 8 * (t / 8) + t % 8 = 80 * d + t by omega] at h1
  unfold P83 P129
  refine decide_eq_decide.mpr ?_
  rw [h59, h60, h1]
  by_cases y : bt (g 22 (2 + d) (t / 8)) (t % 8)
  · rw [bI_t _ y]
    exact ⟨fun x => absurd y x.1, fun x => absurd x.1 (by decide)⟩
  · rw [bI_f _ y]
    rcases dS t t80 y with ⟨s1, s2⟩ | ⟨v, s0, _, s1, s2⟩
    · rw [s1, s2]
      exact ⟨fun _ => ⟨rfl, by decide⟩, fun _ => ⟨y, rfl⟩⟩
    · rw [s1, s2]
      refine ⟨fun x => ?_, fun x => absurd x.2 (pos_z (by omega))⟩
      have := x.2
      rw [nI_m1 (show v < 65536 by omega)] at this
      exact this.elim
/-- the model's send -/
theorem snd_m {b t : Nat} {X : mG} (hp : pr N w q a) (hb : nb V n z M) (r : Rel N w q a V n z M g) (hbb : b < 3) (ht : t < 2) (hX : ∀ f i j, 35 < f ∧ f < 64 → X f i j = g f i j) (hX5 : ∀ j, ¬ j = 0 → X 65 0 j = g 65 0 j) (hw : ¬ g 50 0 b = 0 ∧ ¬ g 51 0 b = 0) : ∃ G : mG, scr (gu X 65 0 0 0) G ∧ ((F83 b (2 * b + t) g (n - z) z = none ∨ F82 b t g = -1 ∨ ∃ u y, F83 b (2 * b + t) g (n - z) z = some u ∧ F82 b t g = nI y ∧ y < 4 ∧ ¬ F85 (u / 8) (u % 8) g N 0 = true) → ∀ c s x o, av_cal 129 [.inr (.inr (some (65, 0))), .inl (nI b), .inl (nI t)] (mm N L c s x o X) = some (.inl (some (.inl 0)), mm N L c s x o (gu G 65 0 0 3))) ∧ (∀ u y, F83 b (2 * b + t) g (n - z) z = some u → F82 b t g = nI y → y < 4 → F85 (u / 8) (u % 8) g N 0 = true → ∀ c s x o, av_cal 129 [.inr (.inr (some (65, 0))), .inl (nI b), .inl (nI t)] (mm N L c s x o X) = some (.inl (some (.inl (nI (100 * y + u)))), mm N L c s x o (gu (gu (gu G 60 0 (80 * (2 * b + t) + u) (nI (y + 1))) 61 0 (8 * b + 4 * t + y) (G 61 0 (8 * b + 4 * t + y) - 1)) 62 0 (2 * b + t) (nI (y + 1))))) := by
  obtain ⟨G, k1, k2, k3, k4⟩ := lay_e (X := gu X 65 0 0 0) L hb r hbb (fun f i j h => (gu_f _ _ _ _ _ _ _ _ (by omega)).trans (hX f i j (by omega))) (fun j hj => (gu_k _ _ _ _ _ _ hj).trans (hX5 j hj))
  have gG : ∀ f i j, 35 < f ∧ f < 63 → G f i j = g f i j := fun f i j h => (k3 f i j (by omega) (by omega)).trans ((gu_f _ _ _ _ _ _ _ _ (by omega)).trans (hX f i j (by omega)))
  have gG5 : ∀ j, ¬ j = 0 → ¬ j = 37 → G 65 0 j = g 65 0 j := fun j h0 h37 => (k3 65 0 j (by decide) (by omega)).trans ((gu_k _ _ _ _ _ _ h0).trans (hX5 j h0))
  have hD := (r.2.2.2.2.2.2.2.2.1 (2 * b + t) (by omega)).1
  obtain ⟨e131, _⟩ := con_e (X := G) ht (fun j => gG 61 0 j (by decide)) (fun j => gG 62 0 j (by decide)) hD
  have eF := fst_e (X := G) (d := 2 * b + t) hb r hbb (by omega) (fun j => gG 59 0 j (by decide)) (fun j => gG 60 0 j (by decide))
  have h80 : ∀ u ∈ chn b n z g, u < 80 := fun u hu => (ch_m hb r hbb hu).2.2
  obtain ⟨_, _, p, p', p1, p2, p3, p4, p5⟩ := (r.2.2.2.2.2.2.2.2.1 (2 * b + 1) (by omega)).1
  have g62 : G 62 0 (2 * b + 1) = nI p' := (gG 62 0 _ (by decide)).trans p4
  obtain ⟨P1, P2, P3, P4, P5, P6, P7⟩ := r.1
  have w1 : ¬ X 50 0 b = 0 ∧ ¬ X 51 0 b = 0 := by rw [hX 50 0 b (by decide), hX 51 0 b (by decide)]; exact hw
  have rd : ∀ u, u ∈ chn b n z g → (F132 u w q G N 0 0 = 0 ↔ ¬ F85 (u / 8) (u % 8) g N 0 = true) := fun u hu => by
    obtain ⟨c1, c2, _⟩ := ch_m hb r hbb hu
    exact read_e hp hb r c1 c2 (fun j => gG 36 0 j (by decide)) (fun j => gG 46 0 j (by decide)) (fun j => gG 47 0 j (by decide))
  have hN := hp.2.1
  have hw4 : 0 < w ∧ w ≤ 4 := ⟨hp.2.2.1, hp.2.2.2.1⟩
  have hq4 : q ≤ 4 := Nat.le_trans hp.2.2.2.2.2.2.1 hp.2.2.2.1
  refine ⟨G, k3, fun hc c s x o => ?_, fun u y f1 f2 f3 f4 c s x o => ?_⟩
  · obtain ⟨i', e1, e2⟩ := l_129m N L c s x o b t hbb ht X G w1 (chn b n z g) (k1 c s x o) k2 h80 k4
    rw [e1]
    rw [← eF] at e2
    rcases e2 with ⟨e2, e3⟩ | ⟨hi, e2⟩
    · exact m_129e N L c s x o b t i' _ p' (chn b n z g) 0 hbb ht p2 G k2 k4 (by omega) g62 (Or.inl e3)
    · rcases hc with hc | hc | ⟨u, y, f1, f2, f3, f4⟩
      · rw [hc] at e2; cases e2
      · exact m_129e N L c s x o b t i' _ p' (chn b n z g) 0 hbb ht p2 G k2 k4 (by omega) g62 (Or.inr (by rw [e131, hc]; decide))
      · rw [f1] at e2
        have eu : u = (chn b n z g)[i'] := Option.some.inj e2
        refine m_129n N L c s x o b t i' _ p' w q (chn b n z g) hN hbb ht p2 hw4 hq4 G ((gG5 1 (by decide) (by decide)).trans P4) ((gG5 2 (by decide) (by decide)).trans P5) ((gG5 3 (by decide) (by decide)).trans P6) k2 k4 hi (h80 _ (List.getElem_mem hi)) g62 ?_ ?_
        · rw [e131, f2, show (nI y < 0) = (y < 0) from iI_lt (b := 0) (by omega) (by decide)]
          omega
        · rw [rd _ (List.getElem_mem hi), ← eu]
          exact f4
  · obtain ⟨i', e1, e2⟩ := l_129m N L c s x o b t hbb ht X G w1 (chn b n z g) (k1 c s x o) k2 h80 k4
    rw [e1]
    rw [← eF] at e2
    rcases e2 with ⟨e2, e3⟩ | ⟨hi, e2⟩
    · rw [f1] at e2; cases e2
    · rw [f1] at e2
      have eu : (chn b n z g)[i'] = u := (Option.some.inj e2).symm
      have hu : u ∈ chn b n z g := by rw [← eu]; exact List.getElem_mem hi
      refine m_129 N L c s x o b t i' _ p' w q u y (chn b n z g) hN hbb ht p2 hw4 hq4 G ((gG5 1 (by decide) (by decide)).trans P4) ((gG5 2 (by decide) (by decide)).trans P5) ((gG5 3 (by decide) (by decide)).trans P6) k2 k4 hi eu (h80 _ hu) rfl g62 (by rw [e131]; exact f2) f3 ?_
      rw [rd u hu]
      exact fun x => x f4
theorem op_82 (hp : pr N w q a) (hb : nb V n z M) (r : Rel N w q a V n z M g) (b t : Int32) : opI N L 82 129 [.inl b, .inl t] (cd 160) (nxt N w q a V g) g := by
  by_cases h1 : (¬ b < 0 ∧ ¬ 3 ≤ b)
  · by_cases h2 : (¬ t < 0 ∧ ¬ 2 ≤ t)
    · obtain ⟨b', hb', rfl⟩ := inr_of (n := 3) (by decide) h1
      obtain ⟨t', ht', rfl⟩ := inr_of (n := 2) (by decide) h2
      have wk := wk_z hb' r
      by_cases p : g 28 b' 1 = 0
      · exact Or.inr ⟨31, 0, g, _, by decide, fun c s x o => m_82s N L c s x o b' t' hb' ht' g p, fun c s x o => m_129s N L c s x o b' t' hb' ht' g (fun y => wk.mp y p), fun _ => rfl, gu_same _ _ _ _ _, nxt_00 hb r⟩
      · have hn := hb.2.1
        have hz := hb.2.2.1
        have hN := hp.2.1
        have hC := hC_r hb r hb'
        have g2 := r.2.1.2.2.2.1
        have g3 := r.2.1.2.2.2.2.2.1
        obtain ⟨⟨d1, d2, p0, p', p1, p2, p3, p4, p5⟩, d4, d5⟩ := r.2.2.2.2.2.2.2.2.1 (2 * b' + t') (by omega)
        obtain ⟨_, hcon⟩ := con_e (X := g) (b := b') ht' (fun _ => rfl) (fun _ => rfl) ⟨d1, d2, p0, p', p1, p2, p3, p4, p5⟩
        have fail : (F83 b' (2 * b' + t') g (n - z) z = none ∨ F82 b' t' g = -1 ∨ ∃ u y, F83 b' (2 * b' + t') g (n - z) z = some u ∧ F82 b' t' g = nI y ∧ y < 4 ∧ ¬ F85 (u / 8) (u % 8) g N 0 = true) → (∀ c s x o, av_cal 82 [.inr (.inr (some (64, 0))), .inl (nI b'), .inl (nI t')] (mm N L c s x o g) = some (.inr (35, x 35), mm N L (c + 1) (s + 6) (mx x 35) o g)) → opI N L 82 129 [.inl (nI b'), .inl (nI t')] (cd 160) (nxt N w q a V g) g := fun hc hcl => by
          obtain ⟨G, e1, e2, _⟩ := snd_m (X := g) (t := t') L hp hb r hb' ht' (fun _ _ _ _ => rfl) (fun _ _ => rfl) (wk.mpr p)
          refine Or.inr ⟨35, 0, g, gu G 65 0 0 3, by decide, hcl, e2 hc, fun _ => rfl, gu_same _ _ _ _ _, nxt_k hb (Rel_0 (Rel_k (fun f hf i j => ?_) (fun j hj => ?_) r)) (fun j => ?_)⟩
          · have nf : ¬ f = 65 ∧ ¬ f = 63 ∧ ¬ f = 0 := by simpa using hf
            rw [e1 f i j nf.2.1 (fun y => nf.1 y.1), gu_f _ _ _ _ _ _ _ _ nf.1]
          · have := (by decide : ∀ j, j ∈ [1, 2, 3, 4, 5, 6, 7, 8, 14] → ¬ j = 37) j hj
            rw [e1 65 0 j (by decide) (fun y => this y.2.2)]
            exact ag5_0 j hj
          · rw [gu_f _ _ _ _ _ _ _ _ (by decide), e1 0 0 j (by decide) (by omega), gu_f _ _ _ _ _ _ _ _ (by decide)]
        cases hF : F83 b' (2 * b' + t') g (n - z) z with
        | none => exact fail (Or.inl hF) (fun c s x o => m_82e N L c s x o b' t' n z p0 hb' ht' hn hz p1 g p g2 g3 hC p3 (Or.inl hF))
        | some u =>
          rcases hcon with hcon | ⟨y, hy, ey, b1, b2⟩
          · exact fail (Or.inr (Or.inl hcon)) (fun c s x o => m_82e N L c s x o b' t' n z p0 hb' ht' hn hz p1 g p g2 g3 hC p3 (Or.inr hcon))
          · have hm : u ∈ chn b' n z g := by
              have := fst_e (X := g) (d := 2 * b' + t') hb r hb' (by omega) (fun _ => rfl) (fun _ => rfl)
              rw [hF] at this
              exact List.mem_of_find?_eq_some this.symm
            obtain ⟨u1, u2, u3⟩ := ch_m hb r hb' hm
            by_cases hr : F85 (u / 8) (u % 8) g N 0 = true
            · obtain ⟨r', hr', e9, e61⟩ := (d2 y hy).1 b1
              have r0 : 0 < r' := by
                rw [e9, le0 hr'] at b2
                omega
              have v9 : g 9 (2 * b' + t') y - 1 = nI (r' - 1) := by
                rw [e9, show nI r' = nI (r' - 1) + 1 by rw [iI_s, show r' - 1 + 1 = r' by omega], Int32.add_sub_cancel]
              have ei : 8 * b' + 4 * t' + y = 4 * (2 * b' + t') + y := by omega
              obtain ⟨G, e1, _, e2⟩ := snd_m (X := gu (gu (gu g 10 (2 * b' + t') u (nI y)) 9 (2 * b' + t') y (g 9 (2 * b' + t') y - 1)) 7 (2 * b' + t') 1 (nI y)) (t := t') L hp hb r hb' ht' (fun f i j h => by rw [gu_f _ _ _ _ _ _ _ _ (by omega), gu_f _ _ _ _ _ _ _ _ (by omega), gu_f _ _ _ _ _ _ _ _ (by omega)]) (fun j _ => by rw [gu_f _ _ _ _ _ _ _ _ (by decide), gu_f _ _ _ _ _ _ _ _ (by decide), gu_f _ _ _ _ _ _ _ _ (by decide)]) (wk.mpr p)
              refine Or.inl ⟨_, _, _, fun c s x o => m_82 N L c s x o b' t' n z p0 u y (by omega) hb' ht' hn hz p1 g p g2 g3 hC p3 hF u3 u2 ey hy hr, e2 u y hF ey hy hr, fun j => ?_, ?_, ?_⟩
              · rw [gu_f _ _ _ _ _ _ _ _ (by decide), gu_f _ _ _ _ _ _ _ _ (by decide), gu_f _ _ _ _ _ _ _ _ (by decide)]
              · rw [gu_f _ _ _ _ _ _ _ _ (by decide), gu_f _ _ _ _ _ _ _ _ (by decide), gu_f _ _ _ _ _ _ _ _ (by decide), e1 65 0 0 (by decide) (by decide), gu_same]
              · rw [v9] at e1
                rw [ei]
                have f61 : G 61 0 (4 * (2 * b' + t') + y) = nI (r' + 1) := by
                  rw [e1 61 0 _ (by decide) (by omega), gu_f _ _ _ _ _ _ _ _ (by decide), gu_f _ _ _ _ _ _ _ _ (by decide), gu_f _ _ _ _ _ _ _ _ (by decide), gu_f _ _ _ _ _ _ _ _ (by decide)]
                  exact e61
                have v61 : nI (r' + 1) - 1 = nI (r' - 1 + 1) := by
                  rw [show nI (r' + 1) = nI r' + 1 from (iI_s r').symm, Int32.add_sub_cancel, show r' - 1 + 1 = r' by omega]
                rw [f61, v61]
                have kf : ∀ f i j, ¬ f = 10 → ¬ f = 9 → ¬ f = 7 → ¬ f = 63 → ¬ f = 65 → G f i j = g f i j := fun f i j a1 a2 a3 a4 a5 => by
                  rw [e1 f i j a4 (fun x => a5 x.1), gu_f _ _ _ _ _ _ _ _ a5, gu_f _ _ _ _ _ _ _ _ a3, gu_f _ _ _ _ _ _ _ _ a2, gu_f _ _ _ _ _ _ _ _ a1]
                have G10 : ∀ i j, G 10 i j = if i = 2 * b' + t' ∧ j = u then nI y else g 10 i j := fun i j => by
                  rw [e1 10 i j (by decide) (by omega), gu_f _ _ _ _ _ _ _ _ (by decide), gu_f _ _ _ _ _ _ _ _ (by decide), gu_f _ _ _ _ _ _ _ _ (by decide)]
                  simp [gu]
                have G9 : ∀ i j, G 9 i j = if i = 2 * b' + t' ∧ j = y then nI (r' - 1) else g 9 i j := fun i j => by
                  rw [e1 9 i j (by decide) (by omega), gu_f _ _ _ _ _ _ _ _ (by decide), gu_f _ _ _ _ _ _ _ _ (by decide)]
                  simp [gu]
                have G7 : ∀ i j, G 7 i j = if i = 2 * b' + t' ∧ j = 1 then nI y else g 7 i j := fun i j => by
                  rw [e1 7 i j (by decide) (by omega), gu_f _ _ _ _ _ _ _ _ (by decide)]
                  simp [gu]
                have G5 : ago [1, 2, 3, 4, 5, 6, 7, 8, 14] g G := fun j hj => by
                  have := (by decide : ∀ j, j ∈ [1, 2, 3, 4, 5, 6, 7, 8, 14] → ¬ j = 37) j hj
                  rw [e1 65 0 j (by decide) (fun y => this y.2.2), ag5_0 j hj, gu_f _ _ _ _ _ _ _ _ (by decide), gu_f _ _ _ _ _ _ _ _ (by decide), gu_f _ _ _ _ _ _ _ _ (by decide)]
                have ko : out [7, 9, 10, 60, 61, 62, 65, 63] g (gu (gu (gu G 60 0 (80 * (2 * b' + t') + u) (nI (y + 1))) 61 0 (4 * (2 * b' + t') + y) (nI (r' - 1 + 1))) 62 0 (2 * b' + t') (nI (y + 1))) := fun f hf i j => by
                  have nf : ¬ f = 7 ∧ ¬ f = 9 ∧ ¬ f = 10 ∧ ¬ f = 60 ∧ ¬ f = 61 ∧ ¬ f = 62 ∧ ¬ f = 65 ∧ ¬ f = 63 := by simpa using hf
                  obtain ⟨n1, n2, n3, n4, n5, n6, n7, n8⟩ := nf
                  rw [gu_f _ _ _ _ _ _ _ _ n6, gu_f _ _ _ _ _ _ _ _ n5, gu_f _ _ _ _ _ _ _ _ n4, kf f i j n3 n2 n1 n8 n7]
                have k5 : ago [1, 2, 3, 4, 5, 6, 7, 8, 14] g (gu (gu (gu G 60 0 (80 * (2 * b' + t') + u) (nI (y + 1))) 61 0 (4 * (2 * b' + t') + y) (nI (r' - 1 + 1))) 62 0 (2 * b' + t') (nI (y + 1))) := fun j hj => by
                  rw [gu_f _ _ _ _ _ _ _ _ (by decide), gu_f _ _ _ _ _ _ _ _ (by decide), gu_f _ _ _ _ _ _ _ _ (by decide)]
                  exact G5 j hj
                have k7 : ∀ i j, gu (gu (gu G 60 0 (80 * (2 * b' + t') + u) (nI (y + 1))) 61 0 (4 * (2 * b' + t') + y) (nI (r' - 1 + 1))) 62 0 (2 * b' + t') (nI (y + 1)) 7 i j = if i = 2 * b' + t' ∧ j = 1 then nI y else g 7 i j := fun i j => by
                  rw [gu_f _ _ _ _ _ _ _ _ (by decide), gu_f _ _ _ _ _ _ _ _ (by decide), gu_f _ _ _ _ _ _ _ _ (by decide)]
                  exact G7 i j
                have k9 : ∀ i j, gu (gu (gu G 60 0 (80 * (2 * b' + t') + u) (nI (y + 1))) 61 0 (4 * (2 * b' + t') + y) (nI (r' - 1 + 1))) 62 0 (2 * b' + t') (nI (y + 1)) 9 i j = if i = 2 * b' + t' ∧ j = y then nI (r' - 1) else g 9 i j := fun i j => by
                  rw [gu_f _ _ _ _ _ _ _ _ (by decide), gu_f _ _ _ _ _ _ _ _ (by decide), gu_f _ _ _ _ _ _ _ _ (by decide)]
                  exact G9 i j
                have k10 : ∀ i j, gu (gu (gu G 60 0 (80 * (2 * b' + t') + u) (nI (y + 1))) 61 0 (4 * (2 * b' + t') + y) (nI (r' - 1 + 1))) 62 0 (2 * b' + t') (nI (y + 1)) 10 i j = if i = 2 * b' + t' ∧ j = u then nI y else g 10 i j := fun i j => by
                  rw [gu_f _ _ _ _ _ _ _ _ (by decide), gu_f _ _ _ _ _ _ _ _ (by decide), gu_f _ _ _ _ _ _ _ _ (by decide)]
                  exact G10 i j
                have k60 : ∀ j, gu (gu (gu G 60 0 (80 * (2 * b' + t') + u) (nI (y + 1))) 61 0 (4 * (2 * b' + t') + y) (nI (r' - 1 + 1))) 62 0 (2 * b' + t') (nI (y + 1)) 60 0 j = if j = 80 * (2 * b' + t') + u then nI (y + 1) else g 60 0 j := fun j => by
                  rw [gu_f _ _ _ _ _ _ _ _ (by decide), gu_f _ _ _ _ _ _ _ _ (by decide)]
                  by_cases x : j = 80 * (2 * b' + t') + u
                  · rw [if_pos x, x, gu_same]
                  · rw [if_neg x, gu_k _ _ _ _ _ _ x, kf 60 0 j (by decide) (by decide) (by decide) (by decide) (by decide)]
                have k61 : ∀ j, gu (gu (gu G 60 0 (80 * (2 * b' + t') + u) (nI (y + 1))) 61 0 (4 * (2 * b' + t') + y) (nI (r' - 1 + 1))) 62 0 (2 * b' + t') (nI (y + 1)) 61 0 j = if j = 4 * (2 * b' + t') + y then nI (r' - 1 + 1) else g 61 0 j := fun j => by
                  rw [gu_f _ _ _ _ _ _ _ _ (by decide)]
                  by_cases x : j = 4 * (2 * b' + t') + y
                  · rw [if_pos x, x, gu_same]
                  · rw [if_neg x, gu_k _ _ _ _ _ _ x, gu_f _ _ _ _ _ _ _ _ (by decide), kf 61 0 j (by decide) (by decide) (by decide) (by decide) (by decide)]
                have k62 : ∀ j, gu (gu (gu G 60 0 (80 * (2 * b' + t') + u) (nI (y + 1))) 61 0 (4 * (2 * b' + t') + y) (nI (r' - 1 + 1))) 62 0 (2 * b' + t') (nI (y + 1)) 62 0 j = if j = 2 * b' + t' then nI (y + 1) else g 62 0 j := fun j => by
                  by_cases x : j = 2 * b' + t'
                  · rw [if_pos x, x, gu_same]
                  · rw [if_neg x, gu_k _ _ _ _ _ _ x, gu_f _ _ _ _ _ _ _ _ (by decide), gu_f _ _ _ _ _ _ _ _ (by decide), kf 62 0 j (by decide) (by decide) (by decide) (by decide) (by decide)]
                generalize gu (gu (gu G 60 0 (80 * (2 * b' + t') + u) (nI (y + 1))) 61 0 (4 * (2 * b' + t') + y) (nI (r' - 1 + 1))) 62 0 (2 * b' + t') (nI (y + 1)) = H at ko k5 k7 k9 k10 k60 k61 k62 ⊢
                have k22 : ∀ i j, H 22 i j = g 22 i j := ko 22 (by decide)
                have k59 : ∀ i j, H 59 i j = g 59 i j := ko 59 (by decide)
                refine nxt_k hb (Rel_D (d := 2 * b' + t') (out_m ko (by decide)) k5 (fun d' hd' e => ⟨⟨fun j hj => ?_, fun v hv => ?_, ?_, fun l hl => k22 _ _, fun v hv => ⟨k59 _ _, ?_, ?_⟩⟩, fun v hv => ?_⟩) (fun t l _ _ => k22 _ _) ⟨⟨?_, fun v hv => ?_, ?_⟩, rDa_c (fun _ _ => k22 _ _) (fun _ _ => k59 _ _) d4, fun v hv hx => ?_⟩ r) (fun j => ko 0 (by decide) _ _)
                · rw [k7, if_neg (fun x => e x.1)]
                · rw [k61, if_neg (by omega)]
                · rw [k62, if_neg e]
                · rw [k10, if_neg (fun x => e x.1)]
                · rw [k60, if_neg (by omega)]
                · rw [k9, if_neg (fun x => e x.1)]
                · rw [k7, if_neg (fun x => absurd x.2 (by decide))]; exact d1
                · rw [k7, if_neg (fun x => absurd x.2 (by decide)), k9, k61]
                  by_cases e : v = y
                  · rw [e, if_pos ⟨rfl, rfl⟩, if_pos rfl]
                    exact ⟨fun _ => ⟨r' - 1, by omega, rfl, rfl⟩, fun x => absurd b1 x⟩
                  · rw [if_neg (fun x => e x.2), if_neg (by omega)]
                    exact d2 v hv
                · refine ⟨y, y + 1, hy, by omega, ?_, ?_, rfl⟩
                  · rw [k7, if_pos ⟨rfl, rfl⟩]
                  · rw [k62, if_pos rfl]
                · rw [k22] at hx
                  unfold rDt
                  rw [k10, k60]
                  by_cases e : v = u
                  · rw [if_pos ⟨rfl, e⟩, if_pos (by omega)]
                    exact Or.inr ⟨y, hy, by rw [e]; exact u2, rfl, rfl⟩
                  · rw [if_neg (fun x => e x.2), if_neg (by omega)]
                    exact d5 v hv hx
            · exact fail (Or.inr (Or.inr ⟨u, y, hF, ey, hy, hr⟩)) (fun c s x o => m_82n N L c s x o b' t' n z p0 u y (by omega) hb' ht' hn hz p1 g p g2 g3 hC p3 hF u3 u2 ey hy hr)
    · obtain ⟨b', hb', rfl⟩ := inr_of (n := 3) (by decide) h1
      exact Or.inr ⟨30, 0, g, _, by decide, fun c s x o => m_82b N L c s x o b' hb' t h2 g, fun c s x o => m_129a N L c s x o (nI b') t g (fun y => h2 y.2), fun _ => rfl, gu_same _ _ _ _ _, nxt_00 hb r⟩
  · exact Or.inr ⟨30, 0, g, _, by decide, fun c s x o => m_82a N L c s x o b t h1 g, fun c s x o => m_129a N L c s x o b t g (fun y => h1 ((i_b3 b).mp y.1)), fun _ => rfl, gu_same _ _ _ _ _, nxt_00 hb r⟩
end O15
