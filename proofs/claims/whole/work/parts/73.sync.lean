/-! sync: class and model -/
theorem F1_v (k j : Nat) : ∀ (d e : Nat) (m : Int32) (i : Nat) (g : mG), (F1 k d e m g).2 2 i j = if i = k ∧ e ≤ j ∧ j < e + d then g 1 k j else g 2 i j := by
  intro d
  induction d with
  | zero => intro e m i g; rw [if_neg (by omega)]; rfl
  | succ d ih =>
    intro e m i g
    show (F1 k d (e + 1) _ (gu g 2 k e (g 1 k e))).2 2 i j = _
    rw [ih (e + 1), gu_f _ _ _ _ 1 _ _ _ (by decide)]
    by_cases h1 : i = k ∧ j = e
    · obtain ⟨rfl, rfl⟩ := h1
      rw [if_neg (by omega), gu_same, if_pos ⟨rfl, by omega, by omega⟩]
    · rw [gu_ne _ _ _ _ _ _ _ _ (fun y => h1 ⟨y.2.1, y.2.2⟩)]
      by_cases h2 : i = k ∧ e + 1 ≤ j ∧ j < e + 1 + d
      · rw [if_pos h2, if_pos ⟨h2.1, by omega, by omega⟩]
      · rw [if_neg h2, if_neg]
        intro y
        by_cases h3 : j = e
        · exact h1 ⟨y.1, h3⟩
        · exact h2 ⟨y.1, by omega, by omega⟩
theorem F1_n (k : Nat) : ∀ (d e c : Nat) (g : mG), e + d ≤ 10 → (∀ l, l < 10 → m6 (g 1 k l) ∧ m6 (g 2 k l)) → (F1 k d e (nI c) g).1 = nI (c + sm (fun l => ct (fun x => bt (g 1 k l) x ∧ ¬ bt (g 2 k l) x) 6 0) d e) := by
  intro d
  induction d with
  | zero => exact fun _ _ _ _ _ => rfl
  | succ d ih =>
    intro e c g he hm
    obtain ⟨m1, m2⟩ := hm e (by omega)
    show (F1 k d (e + 1) (nI c + bc (g 1 k e &&& (g 2 k e ^^^ (-1)))) (gu g 2 k e (g 1 k e))).1 = _
    have e1 : ∀ l, gu g 2 k e (g 1 k e) 1 k l = g 1 k l := fun l => gu_f _ _ _ _ _ _ _ _ (by decide)
    rw [bc_ct (m6_an m1 m2), iI_add, ih (e + 1) _ _ (by omega) (fun l hl => by
      rw [e1]
      refine ⟨(hm l hl).1, ?_⟩
      by_cases y : l = e
      · rw [y, gu_same]; exact m1
      · rw [gu_k _ _ _ _ _ _ y]; exact (hm l hl).2), sm_s]
    refine congrArg nI ?_
    rw [Nat.add_assoc, ct_c 6 0 (p := bt (g 1 k e &&& (g 2 k e ^^^ (-1)))) (p' := fun x => bt (g 1 k e) x ∧ ¬ bt (g 2 k e) x) (fun x _ hx => bt_an m1 m2 (by omega))]
    refine congrArg (fun y => c + (ct (fun x => bt (g 1 k e) x ∧ ¬ bt (g 2 k e) x) 6 0 + y)) (sm_c d (e + 1) (fun l h1 h2 => ?_))
    rw [e1, gu_k _ _ _ _ _ _ (by omega)]
theorem F104a_v (j : Nat) : ∀ (d i : Nat) (m : Int32) (g : mG), (F104a d i m g).2 48 0 j = if i ≤ j ∧ j < i + d then bI (¬ g 47 0 j ≤ 0) else g 48 0 j := by
  intro d
  induction d with
  | zero => intro i m g; rw [if_neg (by omega)]; rfl
  | succ d ih =>
    intro i m g
    show (F104a d (i + 1) _ (gu g 48 0 i (bI (¬ g 47 0 i ≤ 0)))).2 48 0 j = _
    rw [ih (i + 1), gu_f _ _ _ _ 47 _ _ _ (by decide)]
    by_cases h1 : j = i
    · subst h1
      rw [if_neg (show ¬ (j + 1 ≤ j ∧ j < j + 1 + d) by omega), if_pos (show j ≤ j ∧ j < j + (d + 1) by omega), gu_same]
    · rw [gu_k _ _ _ _ _ _ h1]
      by_cases h2 : i + 1 ≤ j ∧ j < i + 1 + d
      · rw [if_pos h2, if_pos (show i ≤ j ∧ j < i + (d + 1) by omega)]
      · rw [if_neg h2, if_neg (show ¬ (i ≤ j ∧ j < i + (d + 1)) by omega)]
theorem F104a_n : ∀ (d i c : Nat) (g : mG), (F104a d i (nI c) g).1 = nI (c + ct (fun i => ¬ g 47 0 i ≤ 0 ∧ g 48 0 i = 0) d i) := by
  intro d
  induction d with
  | zero => exact fun _ _ _ => rfl
  | succ d ih =>
    intro i c g
    show (F104a d (i + 1) (nI c + bI (¬ g 47 0 i ≤ 0 ∧ g 48 0 i = 0)) (gu g 48 0 i (bI (¬ g 47 0 i ≤ 0)))).1 = _
    have e1 : bI (¬ g 47 0 i ≤ 0 ∧ g 48 0 i = 0) = nI (ci (¬ g 47 0 i ≤ 0 ∧ g 48 0 i = 0)) := by
      by_cases y : ¬ g 47 0 i ≤ 0 ∧ g 48 0 i = 0
      · rw [bI_t _ y, ci_t y]; rfl
      · rw [bI_f _ y, ci_f y]; rfl
    rw [e1, iI_add, ih, ct_s, Nat.add_assoc]
    refine congrArg (fun y => nI (c + (ci (¬ g 47 0 i ≤ 0 ∧ g 48 0 i = 0) + y))) (ct_c d (i + 1) (fun j h1 h2 => ?_))
    rw [gu_f _ _ _ _ _ _ _ _ (by decide), gu_k _ _ _ _ _ _ (by omega)]
theorem tell_s {k a c : Nat} {C Mo : mG} (hk : k < 6) (hc : c < 3) (hG : tG k a C Mo) (hH : tH C Mo) (hE : ∀ b, b < 3 → ∃ ph l e, tR b ph l e C Mo) : tG k a (F58s k c C) (F104s k c Mo) ∧ tH (F58s k c C) (F104s k c Mo) ∧ (∀ b ph l e, b < 3 → tR b ph l e C Mo → tR b ph l e (F58s k c C) (F104s k c Mo)) := by
  obtain ⟨ph0, l0, e0, h0⟩ := hE c hc
  refine ⟨tG_s hG, (tell_1 hk hG hH h0).1, fun b ph l e hb h => ?_⟩
  by_cases y : b = c
  · subst y; exact (tell_1 hk hG hH h).2
  · exact tR_o y h0.2.2.1 h0.2.2.2.2.2.2.2.2.1 h
theorem tell_3 {k a : Nat} {C Mo : mG} (hk : k < 6) (hG : tG k a C Mo) (hH : tH C Mo) (hE : ∀ b, b < 3 → ∃ ph l e, tR b ph l e C Mo) : tH (F58 k 3 0 C) (F104b k 3 0 Mo) ∧ (∀ b ph l e, b < 3 → tR b ph l e C Mo → tR b ph l e (F58 k 3 0 C) (F104b k 3 0 Mo)) := by
  obtain ⟨a1, a2, a3⟩ := tell_s (c := 0) hk (by decide) hG hH hE
  have hE1 : ∀ b, b < 3 → ∃ ph l e, tR b ph l e (F58s k 0 C) (F104s k 0 Mo) := fun b hb => by
    obtain ⟨ph, l, e, h⟩ := hE b hb
    exact ⟨ph, l, e, a3 b ph l e hb h⟩
  obtain ⟨b1, b2, b3⟩ := tell_s (c := 1) hk (by decide) a1 a2 hE1
  have hE2 : ∀ b, b < 3 → ∃ ph l e, tR b ph l e (F58s k 1 (F58s k 0 C)) (F104s k 1 (F104s k 0 Mo)) := fun b hb => by
    obtain ⟨ph, l, e, h⟩ := hE1 b hb
    exact ⟨ph, l, e, b3 b ph l e hb h⟩
  obtain ⟨c1, c2, c3⟩ := tell_s (c := 2) hk (by decide) b1 b2 hE2
  exact ⟨c2, fun b ph l e hb h => c3 b ph l e hb (b3 b ph l e hb (a3 b ph l e hb h))⟩
/-- class sites of C, the others of Y -/
def cmb (C Y : mG) : mG := fun f i j => if f < 36 ∨ f = 64 then C f i j else Y f i j
theorem cmb_c {C Y : mG} {f i j : Nat} (h : f < 36 ∨ f = 64) : cmb C Y f i j = C f i j := if_pos h
theorem cmb_m {C Y : mG} {f i j : Nat} (h : ¬ (f < 36 ∨ f = 64)) : cmb C Y f i j = Y f i j := if_neg h
theorem wN_g' {g g' : mG} (h : ∀ f i j, 35 < f ∧ f < 64 → g' f i j = g f i j) (hW : wN g) : wN g' := by
  intro b hb h1
  rw [h 51 0 b (by decide)] at h1
  obtain ⟨l, n, hl, hn, g3, g4, hM⟩ := hW b hb h1
  refine ⟨l, n, hl, hn, (h _ _ _ (by decide)).trans g3, (h _ _ _ (by decide)).trans g4, ?_⟩
  intro e he
  rw [h 44 _ _ (by decide), h 41 _ _ (by decide)]
  exact hM e he
section O8
variable {N w q a V n z M : Nat} {g : mG} (L : Nat)
theorem has_p {k l e : Nat} (hb : nb V n z M) (r : Rel N w q a V n z M g) (hk : k < N) (hl : l < 10) (he : e < 8) : bt (g 1 k l) e ↔ ¬ g 47 0 (80 * k + 8 * l + e) ≤ 0 := by
  obtain ⟨e1, _, _, e4⟩ := ((r.2.2.2.2.2.1 k hk).2 l hl).2.2 e he
  by_cases y : bt (g 1 k l) e
  · rw [if_pos y] at e1
    obtain ⟨_, j, hj, e5⟩ := r.2.2.2.1.2.2.2 (8 * l + e) (by omega)
    have h60 := hb.2.2.2
    have nz := (e4 y).2
    rw [e5] at nz
    have j0 : ¬ j = 0 := fun x => nz (by rw [x]; rfl)
    refine ⟨fun _ => ?_, fun _ => y⟩
    rw [e1, e5, show (nI j ≤ (0 : Int32)) = (j ≤ 0) from iI_le (b := 0) (by omega) (by omega)]
    omega
  · rw [if_neg y] at e1
    exact ⟨fun x => absurd x y, fun x => absurd (by rw [e1]; decide) x⟩
/-- class memory and model memory after all is synced and told -/
def syF (k : Nat) (N V n : Nat) (g C Y : mG) : Prop := (∀ f i j, f < 36 ∨ f = 64 → ¬ f = 2 → ¬ f = 3 → ¬ f = 29 → ¬ (f = 28 ∧ j = 5) → C f i j = g f i j) ∧ (∀ i l, l < 10 → C 2 i l = if i = k then g 1 k l else g 2 i l) ∧ (∀ f i j, ¬ (f < 36 ∨ f = 64) → ¬ f = 45 → ¬ f = 48 → ¬ f = 55 → ¬ f = 65 → Y f i j = g f i j) ∧ (∀ j, ¬ j = 0 → Y 65 0 j = g 65 0 j) ∧ (∀ j, Y 48 0 j = if 80 * k ≤ j ∧ j < 80 * k + 80 then bI (¬ g 47 0 j ≤ 0) else g 48 0 j) ∧ tH C Y ∧ ∀ b ph l v e, b < 3 → rBs b n V ph l v g → rBw b ph l e g → tR b ph l e C Y
theorem sy_F {k : Nat} {X : mG} (hp : pr N w q a) (hb : nb V n z M) (r : Rel N w q a V n z M g) (hk : k < N) (hX : ∀ f i j, ¬ (f < 36 ∨ f = 64) → ¬ f = 65 → X f i j = g f i j) (hX5 : ∀ j, ¬ j = 0 → X 65 0 j = g 65 0 j) : syF k N V n g (F58 k 3 0 (F1 k 10 0 0 g).2) (F104b k 3 0 (F104a 80 (80 * k) 0 X).2) ∧ (F104a 80 (80 * k) 0 X).1 = (F1 k 10 0 0 g).1 ∧ (F104b k 3 0 (F104a 80 (80 * k) 0 X).2) 65 0 0 = X 65 0 0 := by
  have hN : N ≤ 6 := hp.2.1
  have h60 : M ≤ 60 := hb.2.2.2
  have c0 : ∀ f i j, ¬ f = 2 → (F1 k 10 0 0 g).2 f i j = g f i j := fun f i j hf => F1_f k f i j hf 10 0 0 g
  have m0 : ∀ f i j, ¬ f = 48 → (F104a 80 (80 * k) 0 X).2 f i j = X f i j := fun f i j hf => F104a_f f i j hf 80 (80 * k) 0 X
  have mg : ∀ f i j, ¬ (f < 36 ∨ f = 64) → ¬ f = 65 → ¬ f = 48 → (F104a 80 (80 * k) 0 X).2 f i j = g f i j := fun f i j h1 h2 h3 => (m0 f i j h3).trans (hX f i j h1 h2)
  have m4 : (F104a 80 (80 * k) 0 X).2 65 0 4 = g 65 0 4 := (m0 65 0 4 (by decide)).trans (hX5 4 (by decide))
  have hG : tG k a (F1 k 10 0 0 g).2 (F104a 80 (80 * k) 0 X).2 := by
    refine ⟨(c0 64 0 2 (by decide)).trans r.1.2.2.1, m4.trans r.1.2.2.2.2.2.2, fun t ht => ?_, fun i hi => ?_, fun l e hl he => ?_⟩
    · rw [c0 17 0 t (by decide), mg 44 0 t (by decide) (by decide) (by decide)]
      obtain ⟨y1, j, hj, y2⟩ := r.2.2.2.1.2.2.2 t ht
      exact ⟨y1, j, by omega, y2⟩
    · rw [c0 14 0 i (by decide), c0 15 0 i (by decide), mg 41 0 i (by decide) (by decide) (by decide), mg 42 0 i (by decide) (by decide) (by decide)]
      obtain ⟨y1, y2, _, y4⟩ := r.2.2.2.1.2.2.1 i hi
      exact ⟨y1, y2, y4⟩
    · rw [c0 1 k l (by decide), mg 47 0 _ (by decide) (by decide) (by decide)]
      exact has_p hb r hk hl (by omega)
  have hH : tH (F1 k 10 0 0 g).2 (F104a 80 (80 * k) 0 X).2 := fun p hp' => by
    rw [c0 29 0 p (by decide), mg 45 0 p (by decide) (by decide) (by decide)]
    exact r.2.2.2.2.1 p hp'
  have hR : ∀ b ph l v e, b < 3 → rBs b n V ph l v g → rBw b ph l e g → tR b ph l e (F1 k 10 0 0 g).2 (F104a 80 (80 * k) 0 X).2 := fun b ph l v e hbb hs hw => by
    obtain ⟨s1, s2, s3, s4, s5, s6, s7, s8, s9, s10, s11, s12, s13⟩ := hs
    obtain ⟨w1, w2, w3, w4, w5, w6, w7⟩ := hw
    refine ⟨s1, s2, w1, by rw [c0 28 b 1 (by decide)]; exact s7, by rw [mg 51 0 b (by decide) (by decide) (by decide)]; exact s8, fun y => by rw [c0 28 b 3 (by decide)]; exact (s12 (Or.inr y)).2, by rw [mg 53 0 b (by decide) (by decide) (by decide)]; exact s11, by rw [c0 28 b 4 (by decide)]; exact w2, by rw [mg 54 0 b (by decide) (by decide) (by decide)]; exact w3, fun i hi => by rw [c0 3 b i (by decide), mg 55 0 _ (by decide) (by decide) (by decide)]; exact w6 i hi, ?_⟩
    rw [c0 28 b 5 (by decide), F106_g b g _ m4 (fun i _ => mg 55 0 _ (by decide) (by decide) (by decide)) e 0 (by omega)]
    exact w5
  obtain ⟨t1, t2⟩ := tell_3 (by omega) hG hH (fun b hbb => by
    obtain ⟨ph, l, v, e, x1, x2, _⟩ := r.2.2.2.2.2.2.1 b hbb
    exact ⟨ph, l, e, hR b ph l v e hbb x1 x2⟩)
  refine ⟨⟨fun f i j h1 h2 h3 h4 h5 => ?_, fun i l hl => ?_, fun f i j h1 h2 h3 h4 h5 => ?_, fun j hj => ?_, fun j => ?_, t1, fun b ph l v e hbb x1 x2 => t2 b ph l e hbb (hR b ph l v e hbb x1 x2)⟩, ?_, ?_⟩
  · rw [F58_f k f i j h4 h5 h3, c0 f i j h2]
  · rw [F58_f k 2 i l (by decide) (by omega) (by decide), F1_v]
    by_cases y : i = k
    · rw [if_pos ⟨y, by omega, by omega⟩, if_pos y]
    · rw [if_neg (fun x => y x.1), if_neg y]
  · rw [F104b_f k f i j h2 h4, mg f i j h1 h5 h3]
  · rw [F104b_f k 65 0 j (by decide) (by decide), m0 65 0 j (by decide), hX5 j hj]
  · rw [F104b_f k 48 0 j (by decide) (by decide), F104a_v, hX 47 0 j (by decide) (by decide), hX 48 0 j (by decide) (by decide)]
  · have n1 := F104a_n 80 (80 * k) 0 X
    have n2 := F1_n k 10 0 0 g (by omega) (fun l hl => ⟨((r.2.2.2.2.2.1 k hk).2 l hl).1, ((r.2.2.2.2.2.1 k hk).2 l hl).2.1⟩)
    refine Eq.trans n1 (Eq.trans (congrArg nI ?_) n2.symm)
    rw [Nat.zero_add, Nat.zero_add]
    have s8 := ct_80 (fun i => ¬ X 47 0 i ≤ 0 ∧ X 48 0 i = 0) (80 * k) 10 0
    refine Eq.trans s8 (sm_c 10 0 (fun l _ hl => ?_))
    have hl' : l < 10 := by omega
    obtain ⟨mm1, mm2, me⟩ := (r.2.2.2.2.2.1 k hk).2 l hl'
    rw [ct_c 8 0 (p' := fun x => bt (g 1 k l) x ∧ ¬ bt (g 2 k l) x) (fun e _ he => by
      rw [hX 47 0 _ (by decide) (by decide), hX 48 0 _ (by decide) (by decide), ← has_p hb r hk hl' (by omega), (me e (by omega)).2.1, bI_0])]
    exact ct_86 _ (fun e h6 h8 y => bt_hi mm1 h8 h6 y.1)
  · rw [F104b_f k 65 0 0 (by decide) (by decide), m0 65 0 0 (by decide)]
theorem Rel_sy {k : Nat} {C Y : mG} (hb : nb V n z M) (r : Rel N w q a V n z M g) (hk : k < N) (h : syF k N V n g C Y) : Rel N w q a V n z M (cmb C Y) := by
  obtain ⟨h1, h2, h3, h4, h5, h6, h7⟩ := h
  have kc : ∀ f i j, f < 36 ∨ f = 64 → ¬ f = 2 → ¬ f = 3 → ¬ f = 29 → ¬ (f = 28 ∧ j = 5) → cmb C Y f i j = g f i j := fun f i j a1 a2 a3 a4 a5 => (cmb_c a1).trans (h1 f i j a1 a2 a3 a4 a5)
  have km : ∀ f i j, ¬ (f < 36 ∨ f = 64) → ¬ f = 45 → ¬ f = 48 → ¬ f = 55 → ¬ f = 65 → cmb C Y f i j = g f i j := fun f i j a1 a2 a3 a4 a5 => (cmb_m a1).trans (h3 f i j a1 a2 a3 a4 a5)
  have ko : out [2, 3, 29, 28, 45, 48, 55, 65] g (cmb C Y) := fun f hf i j => by
    have n1 : ¬ f = 2 ∧ ¬ f = 3 ∧ ¬ f = 29 ∧ ¬ f = 28 ∧ ¬ f = 45 ∧ ¬ f = 48 ∧ ¬ f = 55 ∧ ¬ f = 65 := by
      simp at hf
      omega
    by_cases y : f < 36 ∨ f = 64
    · exact kc f i j y n1.1 n1.2.1 n1.2.2.1 (fun x => n1.2.2.2.1 x.1)
    · exact km f i j y n1.2.2.2.2.1 n1.2.2.2.2.2.1 n1.2.2.2.2.2.2.1 n1.2.2.2.2.2.2.2
  have k5 : ∀ js : List Nat, (∀ j, j ∈ js → ¬ j = 0) → ago js g (cmb C Y) := fun js hs j hj => (cmb_m (by decide)).trans (h4 j (hs j hj))
  have k28 : ∀ b j, ¬ j = 5 → cmb C Y 28 b j = g 28 b j := fun b j hj => kc 28 b j (by decide) (by decide) (by decide) (by decide) (fun x => hj x.2)
  obtain ⟨a1, a2, a3, a4, a5, a6, a7, a8, a9, a10⟩ := id r
  refine ⟨rP_c (ag_o ko (by decide)) (k5 _ (by decide)) a1, rM_c (ag_o ko (by decide)) (k5 _ (by decide)) a2, rLL_c (ag_o ko (by decide)) a3, rS_c (ag_o ko (by decide)) (k5 _ (by decide)) a4, fun p hp => ?_, fun k' hk' => ⟨rKu_a (ag_o ko (by decide)) (a6 k' hk').1, fun l hl => ?_⟩, fun b hbb => ?_, rW_c (ag_o ko (by decide)) (k5 _ (by decide)) a8, fun d hd => rD_a (ag_o ko (by decide)) (a9 d hd), fun t ht => rV_a (ag_o ko (by decide)) (a10 t ht)⟩
  · rw [cmb_c (by decide), cmb_m (by decide)]; exact h6 p hp
  · obtain ⟨m1, m2, me⟩ := (a6 k' hk').2 l hl
    have x1 : cmb C Y 1 k' l = g 1 k' l := ko 1 (by decide) _ _
    have x2 : cmb C Y 2 k' l = if k' = k then g 1 k l else g 2 k' l := (cmb_c (by decide)).trans (h2 k' l hl)
    by_cases e : k' = k
    · subst e
      rw [if_pos rfl] at x2
      refine ⟨by rw [x1]; exact m1, by rw [x2]; exact m1, fun x hx => ?_⟩
      obtain ⟨v1, v2, v3, v4⟩ := me x hx
      have x8 : cmb C Y 48 0 (80 * k' + 8 * l + x) = bI (¬ g 47 0 (80 * k' + 8 * l + x) ≤ 0) := by rw [cmb_m (by decide), h5, if_pos (by omega)]
      unfold rKe
      rw [x1, x2, x8, ko 47 (by decide), ko 17 (by decide), ko 12 (by decide)]
      exact ⟨v1, bI_c (has_p hb r hk hl hx).symm, id, v4⟩
    · rw [if_neg e] at x2
      refine ⟨by rw [x1]; exact m1, by rw [x2]; exact m2, fun x hx => ?_⟩
      have x8 : cmb C Y 48 0 (80 * k' + 8 * l + x) = g 48 0 (80 * k' + 8 * l + x) := by rw [cmb_m (by decide), h5, if_neg (by omega)]
      have := me x hx
      unfold rKe at this ⊢
      rw [x1, x2, x8, ko 47 (by decide), ko 17 (by decide), ko 12 (by decide)]
      exact this
  · obtain ⟨ph, l, v, e, s, wr, rr⟩ := a7 b hbb
    obtain ⟨t1, t2, t3, t4, t5, t6, t7, t8, t9, t10, t11⟩ := h7 b ph l v e hbb s wr
    obtain ⟨s1, s2, s3, s4, s5, s6, s7, s8, s9, s10, s11, s12, s13⟩ := s
    obtain ⟨w1, w2, w3, w4, w5, w6, w7⟩ := wr
    obtain ⟨r1, r2, r3, r4⟩ := rr
    refine ⟨ph, l, v, e, ⟨s1, s2, s3, ?_, ?_, ?_, ?_, ?_, ?_, ?_, ?_, ?_, ?_⟩, ⟨w1, ?_, ?_, w4, ?_, fun i hi => ?_, fun y i hi => ?_⟩, ⟨?_, ?_, ?_, fun x hx => ?_⟩⟩
    · rw [k28 b 0 (by decide)]; exact s4
    · rw [k28 b 0 (by decide), ko 50 (by decide)]; exact s5
    · rw [k28 b 0 (by decide)]; exact s6
    · rw [k28 b 1 (by decide)]; exact s7
    · rw [ko 51 (by decide)]; exact s8
    · rw [k28 b 2 (by decide)]; exact s9
    · rw [ko 52 (by decide)]; exact s10
    · rw [ko 53 (by decide)]; exact s11
    · rw [k28 b 3 (by decide)]; exact s12
    · rw [k28 b 3 (by decide)]; exact s13
    · rw [k28 b 4 (by decide)]; exact w2
    · rw [ko 54 (by decide)]; exact w3
    · rw [cmb_c (by decide), t11]
      exact congrArg nI (F106_g b Y (cmb C Y) (cmb_m (by decide)) (fun i _ => cmb_m (by decide)) e 0 (by omega)).symm
    · rw [cmb_c (by decide), cmb_m (by decide)]; exact t10 i hi
    · rw [ko 17 (by decide)]; exact w7 y i hi
    · rw [k28 b 6 (by decide), ko 56 (by decide)]; exact r1
    · rw [k28 b 6 (by decide)]; exact r2
    · rw [k28 b 6 (by decide)]; exact r3
    · simp only [k28 b 6 (by decide), ko 4 (by decide), ko 5 (by decide), ko 57 (by decide), ko 58 (by decide), ko 12 (by decide), ko 17 (by decide)]
      exact r4 x hx
/-- the writers are well formed -/
theorem wW_r (hb : nb V n z M) (r : Rel N w q a V n z M g) : wW g := by
  have h60 : M ≤ 60 := hb.2.2.2
  intro b hbb h3
  obtain ⟨ph, l, v, e, s, wr, _⟩ := r.2.2.2.2.2.2.1 b hbb
  have hph : ph = 3 := by
    have := s.2.2.2.2.2.2.1
    rw [h3] at this
    exact ((iI_eq (a := 3) (b := ph) (by decide) (by have := s.1; omega)).mp this).symm
  have hle := F106_le b g e 0
  refine ⟨l, e, F106 b g e 0, s.2.1, wr.1, by omega, (s.2.2.2.2.2.2.2.2.2.2.2.1 (Or.inr hph)).2, wr.2.1, wr.2.2.2.2.1, fun i hi => ?_⟩
  have he := wr.1
  have hl := s.2.1
  obtain ⟨_, j, hj, e2⟩ := r.2.2.2.1.2.2.2 (8 * l + i) (by omega)
  rw [e2]
  refine ⟨ix (by omega) (by omega), ?_⟩
  rw [tn (show j < 65536 by omega)]
  obtain ⟨_, _, _, p, hp, e3⟩ := r.2.2.2.1.2.2.1 j (by omega)
  exact ⟨p, hp, e3⟩
theorem wN_r (hb : nb V n z M) (r : Rel N w q a V n z M g) : wN g := by
  have h60 : M ≤ 60 := hb.2.2.2
  intro b hbb h3
  obtain ⟨ph, l, v, e, s, wr, _⟩ := r.2.2.2.2.2.2.1 b hbb
  refine ⟨l, e, s.2.1, wr.1, s.2.2.2.2.2.2.2.2.2.2.1, wr.2.2.1, fun i hi => ?_⟩
  have he := wr.1
  have hl := s.2.1
  obtain ⟨e1, j, hj, e2⟩ := r.2.2.2.1.2.2.2 (8 * l + i) (by omega)
  rw [← e1, e2]
  refine ⟨ix (by omega) (by omega), ?_⟩
  rw [tn (show j < 65536 by omega)]
  obtain ⟨p1, _, _, p, hp, e3⟩ := r.2.2.2.1.2.2.1 j (by omega)
  exact ⟨p, hp, by rw [← p1]; exact e3⟩
theorem op_66 (hp : pr N w q a) (hb : nb V n z M) (r : Rel N w q a V n z M g) (k : Int32) : opI N L 66 102 [.inl k] (cd 153) (nxt N w q a V g) g := by
  have hN : N ≤ 6 := hp.2.1
  have g1 := r.1.2.2.2.1
  by_cases h : ¬ k < 0 ∧ ¬ nI N ≤ k
  · obtain ⟨k', hk, rfl⟩ := inr_of (n := N) (by omega) h
    obtain ⟨⟨u1, u2, u3, u4⟩, uh⟩ := r.2.2.2.2.2.1 k' hk
    by_cases h1 : g 26 k' 0 = 0
    · exact Or.inr ⟨31, 0, g, _, by decide, fun c s x o => m_66s N L c s x o k' (by omega) hk g h1, fun c s x o => m_102s N L c s x o k' hN hk g g1 (u2.trans h1), fun _ => rfl, gu_same _ _ _ _ _, nxt_00 hb r⟩
    · have hW := wW_r hb r
      have cf : ∀ f i j, ¬ f = 2 → ¬ f = 29 → ¬ f = 28 → ¬ f = 3 → F58 k' 3 0 (F1 k' 10 0 0 g).2 f i j = g f i j := fun f i j b1 b2 b3 b4 => by rw [F58_f k' f i j b2 (fun y => b3 y.1) b4, F1_f k' f i j b1]
      obtain ⟨s1, s2, s3⟩ := sy_F hp hb r hk (X := gu (F58 k' 3 0 (F1 k' 10 0 0 g).2) 65 0 0 0) (fun f i j b1 b2 => by rw [gu_f _ _ _ _ _ _ _ _ b2, cf f i j (by omega) (by omega) (by omega) (by omega)]) (fun j hj => by rw [gu_k _ _ _ _ _ _ hj, cf 65 0 j (by decide) (by decide) (by decide) (by decide)])
      have hWN : wN (F58 k' 3 0 (F1 k' 10 0 0 g).2) := wN_g' (fun f i j b1 => cf f i j (by omega) (by omega) (by omega) (by omega)) (wN_r hb r)
      refine Or.inl ⟨_, _, _, fun c s x o => m_66 N L c s x o k' (by omega) hk g h1 hW, fun c s x o => (m_102 N L c s x o k' hN hk _ ?_ ?_ hWN).trans (by rw [s2]), fun j => cf 0 0 j (by decide) (by decide) (by decide) (by decide), ?_, ?_⟩
      · rw [cf 65 0 1 (by decide) (by decide) (by decide) (by decide)]; exact g1
      · rw [cf 46 0 k' (by decide) (by decide) (by decide) (by decide), u2]; exact h1
      · rw [s3, gu_same]
      · have hY : ∀ f i j, f < 36 ∨ f = 64 → F104b k' 3 0 (F104a 80 (80 * k') 0 (gu (F58 k' 3 0 (F1 k' 10 0 0 g).2) 65 0 0 0)).2 f i j = F58 k' 3 0 (F1 k' 10 0 0 g).2 f i j := fun f i j hf => by
          rw [F104b_f k' f i j (by omega) (by omega), F104a_f f i j (by omega), gu_f _ _ _ _ _ _ _ _ (by omega)]
        refine nxt_k hb (Rel_k (fun f hf i j => ?_) (fun j hj => ?_) (Rel_sy hb r hk s1)) (fun j => ?_)
        · by_cases y : f < 36 ∨ f = 64
          · rw [cmb_c y, hY f i j y]
          · rw [cmb_m y]
        · rw [cmb_m (by decide)]
        · rw [hY 0 0 j (by decide), cf 0 0 j (by decide) (by decide) (by decide) (by decide)]
  · exact Or.inr ⟨30, 0, g, _, by decide, fun c s x o => m_66a N L c s x o k h g, fun c s x o => m_102a N L c s x o k g g1 h, fun _ => rfl, gu_same _ _ _ _ _, nxt_00 hb r⟩
end O8
