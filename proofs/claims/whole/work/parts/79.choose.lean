/-! the ensemble that is chosen, and its write sets -/
theorem sel_e (N w l p : Nat) (hN : 0 < N ∧ N ≤ 6) (hw : w ≤ 4) : ∀ (d i m : Nat) (C Mo : mG), i + d ≤ N → m ≤ w → (∀ k, k < N → C 26 k 0 = Mo 46 0 k) → C 20 l 2 = nI m → ∃ m', m ≤ m' ∧ m' ≤ w ∧ (w ≤ m + ct (fun x => ¬ C 26 ((p + x) % N) 0 = 0) d i → m' = w) ∧ F75 N w l p d i m C 20 l 2 = nI m' ∧ (∀ j, m ≤ j → j < m' → ∃ x, i ≤ x ∧ x < i + d ∧ F75 N w l p d i m C 11 l j = nI ((p + x) % N) ∧ F121 N w l p d i m Mo 36 0 (4 * l + j) = nI ((p + x) % N)) ∧ (∀ j j', m ≤ j → j < m' → m ≤ j' → j' < m' → F121 N w l p d i m Mo 36 0 (4 * l + j) = F121 N w l p d i m Mo 36 0 (4 * l + j') → j = j') ∧ (∀ j, j < m ∨ m' ≤ j → F75 N w l p d i m C 11 l j = C 11 l j ∧ F121 N w l p d i m Mo 36 0 (4 * l + j) = Mo 36 0 (4 * l + j)) ∧ (∀ f i' j, ¬ (f = 11 ∧ i' = l) → ¬ (f = 20 ∧ i' = l ∧ j = 2) → F75 N w l p d i m C f i' j = C f i' j) ∧ (∀ j, ¬ (4 * l ≤ j ∧ j < 4 * l + 4) → F121 N w l p d i m Mo 36 0 j = Mo 36 0 j) := by
  intro d
  induction d with
  | zero =>
    intro i m C Mo hi hm hu h2
    refine ⟨m, Nat.le_refl _, hm, fun y => ?_, h2, fun j h1 h3 => by omega, fun j j' h1 h3 => by omega, fun _ _ => ⟨rfl, rfl⟩, fun _ _ _ _ _ => rfl, fun _ _ => rfl⟩
    have : w ≤ m + 0 := y
    omega
  | succ d ih =>
    intro i m C Mo hi hm hu h2
    have hlt : (p + i) % N < N := Nat.mod_lt _ hN.1
    have hF : F75 N w l p (d + 1) i m C = if ¬ C 26 ((p + i) % N) 0 = 0 ∧ m < w then F75 N w l p d (i + 1) (m + 1) (gu (gu C 11 l m (nI ((p + i) % N))) 20 l 2 (nI (m + 1))) else F75 N w l p d (i + 1) m C := rfl
    have hG : F121 N w l p (d + 1) i m Mo = if m < w then (if Mo 46 0 ((p + i) % N) = 0 then F121 N w l p d (i + 1) m Mo else F121 N w l p d (i + 1) (m + 1) (gu Mo 36 0 (4 * l + m) (nI ((p + i) % N)))) else Mo := rfl
    by_cases hmw : m < w
    · by_cases y : C 26 ((p + i) % N) 0 = 0
      · rw [hF, if_neg (fun t => t.1 y), hG, if_pos hmw, if_pos (by rw [← hu _ hlt]; exact y)]
        obtain ⟨m', a1, a2, a3, a4, a5, a6, a7, a8, a9⟩ := ih (i + 1) m C Mo (by omega) hm hu h2
        refine ⟨m', a1, a2, fun t => a3 ?_, a4, fun j h1 h3 => ?_, a6, a7, a8, a9⟩
        · rw [ct_s, ci_f (fun u => u y), Nat.zero_add] at t
          exact t
        · obtain ⟨x, x1, x2, x3, x4⟩ := a5 j h1 h3
          exact ⟨x, by omega, by omega, x3, x4⟩
      · rw [hF, if_pos ⟨y, hmw⟩, hG, if_pos hmw, if_neg (by rw [← hu _ hlt]; exact y)]
        obtain ⟨m', a1, a2, a3, a4, a5, a6, a7, a8, a9⟩ := ih (i + 1) (m + 1) (gu (gu C 11 l m (nI ((p + i) % N))) 20 l 2 (nI (m + 1))) (gu Mo 36 0 (4 * l + m) (nI ((p + i) % N))) (by omega) (by omega) (fun k hk => by rw [gu_f _ _ _ _ _ _ _ _ (by decide), gu_f _ _ _ _ _ _ _ _ (by decide), gu_f _ _ _ _ _ _ _ _ (by decide)]; exact hu k hk) (gu_same _ _ _ _ _)
        have e11 : ∀ j, gu (gu C 11 l m (nI ((p + i) % N))) 20 l 2 (nI (m + 1)) 11 l j = if j = m then nI ((p + i) % N) else C 11 l j := fun j => by
          rw [gu_f _ _ _ _ _ _ _ _ (by decide)]
          by_cases t : j = m
          · rw [if_pos t, t, gu_same]
          · rw [if_neg t, gu_k _ _ _ _ _ _ t]
        have e36 : ∀ j, gu Mo 36 0 (4 * l + m) (nI ((p + i) % N)) 36 0 (4 * l + j) = if j = m then nI ((p + i) % N) else Mo 36 0 (4 * l + j) := fun j => by
          by_cases t : j = m
          · rw [if_pos t, t, gu_same]
          · rw [if_neg t, gu_k _ _ _ _ _ _ (by omega)]
        have am := a7 m (by omega)
        rw [e11, if_pos rfl, e36, if_pos rfl] at am
        have e26 : ∀ x, gu (gu C 11 l m (nI ((p + i) % N))) 20 l 2 (nI (m + 1)) 26 ((p + x) % N) 0 = C 26 ((p + x) % N) 0 := fun x => by rw [gu_f _ _ _ _ _ _ _ _ (by decide), gu_f _ _ _ _ _ _ _ _ (by decide)]
        have nv : ∀ j, m + 1 ≤ j → j < m' → ¬ F121 N w l p d (i + 1) (m + 1) (gu Mo 36 0 (4 * l + m) (nI ((p + i) % N))) 36 0 (4 * l + j) = nI ((p + i) % N) := fun j h1 h3 t => by
          obtain ⟨x, x1, x2, x3, x4⟩ := a5 j h1 h3
          rw [x4, iI_eq (by have := Nat.mod_lt (p + x) hN.1; omega) (by omega)] at t
          have t' := t
          rw [show p + x = p + i + (x - i) by omega] at t'
          have := md_inj (w := N) (i := p + i) (j := x - i) (j' := 0) (by omega) hN.1 (by rw [t', Nat.add_zero])
          omega
        refine ⟨m', by omega, a2, fun t => a3 ?_, a4, fun j h1 h3 => ?_, fun j j' h1 h3 h4 h5 h6 => ?_, fun j hj => ?_, fun f i' j h1 h3 => ?_, fun j hj => ?_⟩
        · rw [ct_s, ci_t y] at t
          rw [ct_c d (i + 1) (p := fun x => ¬ gu (gu C 11 l m (nI ((p + i) % N))) 20 l 2 (nI (m + 1)) 26 ((p + x) % N) 0 = 0) (p' := fun x => ¬ C 26 ((p + x) % N) 0 = 0) (fun x _ _ => by rw [e26])]
          omega
        · by_cases t : j = m
          · rw [t, am.1, am.2]
            exact ⟨i, Nat.le_refl _, by omega, rfl, rfl⟩
          · obtain ⟨x, x1, x2, x3, x4⟩ := a5 j (by omega) h3
            exact ⟨x, by omega, by omega, x3, x4⟩
        · by_cases t : j = m
          · by_cases t' : j' = m
            · omega
            · rw [t, am.2] at h6
              exact absurd h6.symm (nv j' (by omega) h5)
          · by_cases t' : j' = m
            · rw [t', am.2] at h6
              exact absurd h6 (nv j (by omega) h3)
            · exact a6 j j' (by omega) h3 (by omega) h5 h6
        · obtain ⟨x1, x2⟩ := a7 j (by omega)
          rw [x1, x2, e11, e36, if_neg (by omega), if_neg (by omega)]
          exact ⟨rfl, rfl⟩
        · rw [a8 f i' j h1 h3, gu_ne _ _ _ _ _ _ _ _ h3, gu_ne _ _ _ _ _ _ _ _ (fun u => h1 ⟨u.1, u.2.1⟩)]
        · rw [a9 j hj, gu_k _ _ _ _ _ _ (by omega)]
    · rw [hF, if_neg (fun t => hmw t.2), hG, if_neg hmw]
      obtain ⟨m', a1, a2, a3, a4, a5, a6, a7, a8, a9⟩ := ih (i + 1) m C Mo (by omega) hm hu h2
      have em : m' = m := by omega
      subst em
      refine ⟨m', Nat.le_refl _, hm, fun _ => by omega, a4, fun j h1 h3 => by omega, fun j j' h1 h3 => by omega, fun j hj => ⟨(a7 j hj).1, rfl⟩, a8, fun _ _ => rfl⟩
/-- write sets -/
theorem F25a_b (l e w : Nat) (hw : 0 < w) (g : mG) (f : Nat → Nat) (hf : ∀ x, x < w → f x < 6 ∧ g 11 l x = nI (f x)) : ∀ (d i : Nat) (X : mG), (∀ x, X 11 l x = g 11 l x) → m6 (X 12 l e) → m6 (F25a l e w d i X 12 l e) ∧ (∀ k, k < 6 → (bt (F25a l e w d i X 12 l e) k ↔ bt (X 12 l e) k ∨ ∃ j, i ≤ j ∧ j < i + d ∧ f ((e + j) % w) = k)) ∧ ∀ i' j', ¬ (i' = l ∧ j' = e) → F25a l e w d i X 12 i' j' = X 12 i' j' := by
  intro d
  induction d with
  | zero => exact fun i X _ hm => ⟨hm, fun k _ => ⟨Or.inl, fun y => y.elim id (fun ⟨j, h1, h2, _⟩ => by omega)⟩, fun _ _ _ => rfl⟩
  | succ d ih =>
    intro i X hX hm
    obtain ⟨f1, f2⟩ := hf ((e + i) % w) (Nat.mod_lt _ hw)
    have hF : F25a l e w (d + 1) i X = F25a l e w d (i + 1) (gu X 12 l e (X 12 l e ||| 1 <<< (nI (f ((e + i) % w)) &&& 31))) := by
      show F25a l e w d (i + 1) (gu X 12 l e (X 12 l e ||| 1 <<< (X 11 l ((e + i) % w) &&& 31))) = _
      rw [hX, f2]
    rw [hF]
    obtain ⟨i1, i2, i3⟩ := ih (i + 1) (gu X 12 l e (X 12 l e ||| 1 <<< (nI (f ((e + i) % w)) &&& 31))) (fun x => by rw [gu_f _ _ _ _ _ _ _ _ (by decide)]; exact hX x) (by rw [gu_same]; exact m6_or hm (m6_sh f1))
    refine ⟨i1, fun k hk => (i2 k hk).trans ?_, fun i' j' h => (i3 i' j' h).trans (gu_ne _ _ _ _ _ _ _ _ (fun y => h ⟨y.2.1, y.2.2⟩))⟩
    rw [gu_same, bt_or hm (m6_sh f1) (by omega), bt_sh f1 (by omega)]
    refine ⟨fun y => ?_, fun y => ?_⟩
    · rcases y with (y | y) | ⟨j, h1, h2, h3⟩
      · exact Or.inl y
      · exact Or.inr ⟨i, Nat.le_refl _, by omega, y.symm⟩
      · exact Or.inr ⟨j, by omega, by omega, h3⟩
    · rcases y with y | ⟨j, h1, h2, h3⟩
      · exact Or.inl (Or.inl y)
      · by_cases t : j = i
        · exact Or.inl (Or.inr (by rw [← h3, t]))
        · exact Or.inr ⟨j, by omega, by omega, h3⟩
theorem F25_b (l w q : Nat) (hw : 0 < w) (g : mG) (f : Nat → Nat) (hf : ∀ x, x < w → f x < 6 ∧ g 11 l x = nI (f x)) : ∀ (d e : Nat) (X : mG), (∀ x, X 11 l x = g 11 l x) → (∀ e', e ≤ e' → e' < e + d → X 12 l e' = 0) → (∀ e', e ≤ e' → e' < e + d → m6 (F25 l w q d e X 12 l e') ∧ ∀ k, k < 6 → (bt (F25 l w q d e X 12 l e') k ↔ ∃ j, j < q ∧ f ((e' + j) % w) = k)) ∧ ∀ i' e', ¬ (i' = l ∧ e ≤ e' ∧ e' < e + d) → F25 l w q d e X 12 i' e' = X 12 i' e' := by
  intro d
  induction d with
  | zero => exact fun e X _ _ => ⟨fun e' h1 h2 => by omega, fun _ _ _ => rfl⟩
  | succ d ih =>
    intro e X hX hz
    have hF : F25 l w q (d + 1) e X = F25 l w q d (e + 1) (F25a l e w q 0 X) := rfl
    rw [hF]
    obtain ⟨a1, a2, a3⟩ := F25a_b l e w hw g f hf q 0 X hX (by rw [hz e (by omega) (by omega)]; exact m6_0)
    obtain ⟨b1, b2⟩ := ih (e + 1) (F25a l e w q 0 X) (fun x => by rw [F25a_f l e w 11 l x (by decide)]; exact hX x) (fun e' h1 h2 => by rw [a3 l e' (by omega)]; exact hz e' (by omega) (by omega))
    refine ⟨fun e' h1 h2 => ?_, fun i' e' h => ?_⟩
    · by_cases t : e' = e
      · rw [t, b2 l e (by omega)]
        refine ⟨a1, fun k hk => (a2 k hk).trans ?_⟩
        rw [hz e (by omega) (by omega)]
        exact ⟨fun y => y.elim (fun u => absurd u (bt_0 (by omega))) (fun ⟨j, h1, h2, h3⟩ => ⟨j, by omega, h3⟩), fun ⟨j, h1, h3⟩ => Or.inr ⟨j, by omega, by omega, h3⟩⟩
      · exact b1 e' (by omega) (by omega)
    · rw [b2 i' e' (fun y => h ⟨y.1, by omega, by omega⟩), a3 i' e' (fun y => h ⟨y.1, by omega, by omega⟩)]
/-- how many bookies are up -/
theorem up_n {N : Nat} {g X : mG} (h : ∀ k, k < N → X 46 0 k = g 26 k 0) : ∀ (d k c : Nat), k + d ≤ N → F73 g d k (nI c) = nI (c + ct (fun k => ¬ g 26 k 0 = 0) d k) ∧ F121a X d k (nI c) = nI (c + ct (fun k => ¬ g 26 k 0 = 0) d k) := by
  intro d
  induction d with
  | zero => exact fun _ _ _ => ⟨rfl, rfl⟩
  | succ d ih =>
    intro k c hk
    have e1 : F73 g (d + 1) k (nI c) = F73 g d (k + 1) (if g 26 k 0 = 0 then nI c else nI c + 1) := rfl
    have e2 : F121a X (d + 1) k (nI c) = F121a X d (k + 1) (nI c + (if X 46 0 k = 0 then 0 else 1)) := rfl
    rw [e1, e2, h k (by omega)]
    by_cases y : g 26 k 0 = 0
    · rw [if_pos y, if_pos y, Int32.add_zero, ct_s, ci_f (fun t => t y), Nat.zero_add]
      exact ih (k + 1) c (by omega)
    · rw [if_neg y, if_neg y, iI_s, ct_s, ci_t y, ← Nat.add_assoc]
      exact ih (k + 1) (c + 1) (by omega)
theorem ct_rot {N p : Nat} (hN : 0 < N) (P : Nat → Prop) : ct (fun x => P ((p + x) % N)) N 0 = ct P N 0 := by
  rw [← ct_im (fun x => (p + x) % N) P N N (fun i _ => Nat.mod_lt _ hN) (fun i j h1 h2 h3 => md_inj h1 h2 h3)]
  refine ct_c N 0 (fun k _ hk => ⟨fun y => y.2, fun y => ⟨⟨(k + (N - p % N)) % N, Nat.mod_lt _ hN, ?_⟩, y⟩⟩)
  have hp : p % N < N := Nat.mod_lt _ hN
  show (p + (k + (N - p % N)) % N) % N = k
  rw [Nat.add_mod_mod, show p + (k + (N - p % N)) = k + (p - p % N) + N by have := Nat.mod_le p N; omega, Nat.add_mod_right]
  have h2 := Nat.div_add_mod p N
  rw [show p - p % N = N * (p / N) by omega, Nat.add_mul_mod_self_left, Nat.mod_eq_of_lt (by omega)]
