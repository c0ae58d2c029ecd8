/-! add -/
theorem F64_b (l k : Nat) (g : mG) : ∀ (d e : Nat) (a : Int32), e + d ≤ 6 → m6 a → m6 (F64 l (nI k) g d e a) ∧ ∀ x, x < 6 → (bt (F64 l (nI k) g d e a) x ↔ bt a x ∨ (e ≤ x ∧ x < e + d ∧ bt (g 12 l x) k)) := by
  intro d
  induction d with
  | zero => exact fun e a _ h => ⟨h, fun x _ => ⟨Or.inl, fun y => y.elim id (fun z => by omega)⟩⟩
  | succ d ih =>
    intro e a he h
    have hF : F64 l (nI k) g (d + 1) e a = F64 l (nI k) g d (e + 1) (if bt (g 12 l e) k then a ||| 1 <<< (nI e &&& 31) else a) := rfl
    rw [hF]
    by_cases q : bt (g 12 l e) k
    · rw [if_pos q]
      obtain ⟨i1, i2⟩ := ih (e + 1) (a ||| 1 <<< (nI e &&& 31)) (by omega) (m6_or h (m6_sh (by omega)))
      refine ⟨i1, fun x hx => (i2 x hx).trans ?_⟩
      rw [bt_or h (m6_sh (by omega)) (by omega), bt_sh (by omega) (by omega)]
      refine ⟨fun y => ?_, fun y => ?_⟩
      · rcases y with (y | y) | y
        · exact Or.inl y
        · exact Or.inr ⟨by omega, by omega, by rw [y]; exact q⟩
        · exact Or.inr ⟨by omega, by omega, y.2.2⟩
      · rcases y with y | y
        · exact Or.inl (Or.inl y)
        · by_cases e1 : x = e
          · exact Or.inl (Or.inr e1)
          · exact Or.inr ⟨by omega, by omega, y.2.2⟩
    · rw [if_neg q]
      obtain ⟨i1, i2⟩ := ih (e + 1) a (by omega) h
      refine ⟨i1, fun x hx => (i2 x hx).trans ⟨fun y => y.imp id (fun z => ⟨by omega, by omega, z.2.2⟩), fun y => y.imp id (fun z => ?_)⟩⟩
      by_cases e1 : x = e
      · exact absurd z.2.2 (by rw [e1]; exact q)
      · exact ⟨by omega, by omega, z.2.2⟩
/-- what the model gives -/
def gP (k l w q : Nat) (g : mG) (e : Nat) : Prop := ¬ F111 l (e % w) w (nI k) g q 0 0 = 0 ∧ g 47 0 (80 * k + 8 * l + e) ≤ 0
theorem F112_v (b k l w q : Nat) (z : Int32) : ∀ (d e c : Nat) (g : mG), e + d ≤ 6 → m6 (g 58 0 (6 * b + k)) → (F112 b k l w q z d e (nI c) g).1 = nI (c + ct (gP k l w q g) d e) ∧ (∀ f i j, ¬ f = 47 → ¬ f = 48 → ¬ f = 58 → (F112 b k l w q z d e (nI c) g).2 f i j = g f i j) ∧ (∀ j, (80 * k + 8 * l + e ≤ j ∧ j < 80 * k + 8 * l + e + d ∧ gP k l w q g (j - (80 * k + 8 * l))) → (F112 b k l w q z d e (nI c) g).2 47 0 j = g 44 0 (j - 80 * k) ∧ (F112 b k l w q z d e (nI c) g).2 48 0 j = z) ∧ (∀ j, ¬ (80 * k + 8 * l + e ≤ j ∧ j < 80 * k + 8 * l + e + d ∧ gP k l w q g (j - (80 * k + 8 * l))) → (F112 b k l w q z d e (nI c) g).2 47 0 j = g 47 0 j ∧ (F112 b k l w q z d e (nI c) g).2 48 0 j = g 48 0 j) ∧ (∀ j, ¬ j = 6 * b + k → (F112 b k l w q z d e (nI c) g).2 58 0 j = g 58 0 j) ∧ m6 ((F112 b k l w q z d e (nI c) g).2 58 0 (6 * b + k)) ∧ ∀ x, x < 6 → (bt ((F112 b k l w q z d e (nI c) g).2 58 0 (6 * b + k)) x ↔ bt (g 58 0 (6 * b + k)) x ∨ (¬ z = 0 ∧ e ≤ x ∧ x < e + d ∧ gP k l w q g x)) := by
  intro d
  induction d with
  | zero =>
    intro e c g he hm
    refine ⟨rfl, fun _ _ _ _ _ _ => rfl, fun j y => by omega, fun j _ => ⟨rfl, rfl⟩, fun _ _ => rfl, hm, fun x _ => ⟨Or.inl, fun y => y.elim id (fun t => by omega)⟩⟩
  | succ d ih =>
    intro e c g he hm
    have hF : F112 b k l w q z (d + 1) e (nI c) g = if F111 l (e % w) w (nI k) g q 0 0 = 0 ∨ ¬ g 47 0 (80 * k + 8 * l + e) ≤ 0 then F112 b k l w q z d (e + 1) (nI c) g else F112 b k l w q z d (e + 1) (nI c + 1) (gu (gu (gu g 47 0 (80 * k + 8 * l + e) (g 44 0 (8 * l + e))) 48 0 (80 * k + 8 * l + e) z) 58 0 (6 * b + k) (g 58 0 (6 * b + k) ||| (if z = 0 then (0 : Int32) else 1 <<< (nI e &&& 31)))) := rfl
    rw [hF]
    by_cases hq : F111 l (e % w) w (nI k) g q 0 0 = 0 ∨ ¬ g 47 0 (80 * k + 8 * l + e) ≤ 0
    · have nP : ¬ gP k l w q g e := fun y => hq.elim y.1 (fun t => t y.2)
      rw [if_pos hq]
      obtain ⟨i1, i2, i3, i4, i5, i6, i7⟩ := ih (e + 1) c g (by omega) hm
      refine ⟨by rw [i1, ct_s, ci_f nP, Nat.zero_add], i2, fun j y => i3 j ?_, fun j y => i4 j (fun t => y ⟨by omega, by omega, t.2.2⟩), i5, i6, fun x hx => (i7 x hx).trans ⟨fun y => y.imp id (fun t => ⟨t.1, by omega, by omega, t.2.2.2⟩), fun y => y.imp id (fun t => ?_)⟩⟩
      · by_cases e1 : j = 80 * k + 8 * l + e
        · exact absurd y.2.2 (by rw [e1, show 80 * k + 8 * l + e - (80 * k + 8 * l) = e by omega]; exact nP)
        · exact ⟨by omega, by omega, y.2.2⟩
      · by_cases e1 : x = e
        · exact absurd t.2.2.2 (by rw [e1]; exact nP)
        · exact ⟨t.1, by omega, by omega, t.2.2.2⟩
    · have yP : gP k l w q g e := ⟨fun y => hq (Or.inl y), Classical.byContradiction (fun y => hq (Or.inr y))⟩
      rw [if_neg hq, iI_s]
      have f47 : ∀ j, gu (gu (gu g 47 0 (80 * k + 8 * l + e) (g 44 0 (8 * l + e))) 48 0 (80 * k + 8 * l + e) z) 58 0 (6 * b + k) (g 58 0 (6 * b + k) ||| (if z = 0 then (0 : Int32) else 1 <<< (nI e &&& 31))) 47 0 j = if j = 80 * k + 8 * l + e then g 44 0 (8 * l + e) else g 47 0 j := fun j => by
        rw [gu_f _ _ _ _ _ _ _ _ (by decide), gu_f _ _ _ _ _ _ _ _ (by decide)]
        by_cases y : j = 80 * k + 8 * l + e
        · rw [if_pos y, y, gu_same]
        · rw [if_neg y, gu_k _ _ _ _ _ _ y]
      have f48 : ∀ j, gu (gu (gu g 47 0 (80 * k + 8 * l + e) (g 44 0 (8 * l + e))) 48 0 (80 * k + 8 * l + e) z) 58 0 (6 * b + k) (g 58 0 (6 * b + k) ||| (if z = 0 then (0 : Int32) else 1 <<< (nI e &&& 31))) 48 0 j = if j = 80 * k + 8 * l + e then z else g 48 0 j := fun j => by
        rw [gu_f _ _ _ _ _ _ _ _ (by decide)]
        by_cases y : j = 80 * k + 8 * l + e
        · rw [if_pos y, y, gu_same]
        · rw [if_neg y, gu_k _ _ _ _ _ _ y, gu_f _ _ _ _ _ _ _ _ (by decide)]
      have f58 : ∀ j, ¬ j = 6 * b + k → gu (gu (gu g 47 0 (80 * k + 8 * l + e) (g 44 0 (8 * l + e))) 48 0 (80 * k + 8 * l + e) z) 58 0 (6 * b + k) (g 58 0 (6 * b + k) ||| (if z = 0 then (0 : Int32) else 1 <<< (nI e &&& 31))) 58 0 j = g 58 0 j := fun j y => by
        rw [gu_k _ _ _ _ _ _ y, gu_f _ _ _ _ _ _ _ _ (by decide), gu_f _ _ _ _ _ _ _ _ (by decide)]
      have f58' : gu (gu (gu g 47 0 (80 * k + 8 * l + e) (g 44 0 (8 * l + e))) 48 0 (80 * k + 8 * l + e) z) 58 0 (6 * b + k) (g 58 0 (6 * b + k) ||| (if z = 0 then (0 : Int32) else 1 <<< (nI e &&& 31))) 58 0 (6 * b + k) = g 58 0 (6 * b + k) ||| (if z = 0 then (0 : Int32) else 1 <<< (nI e &&& 31)) := gu_same _ _ _ _ _
      have ff : ∀ f i j, ¬ f = 47 → ¬ f = 48 → ¬ f = 58 → gu (gu (gu g 47 0 (80 * k + 8 * l + e) (g 44 0 (8 * l + e))) 48 0 (80 * k + 8 * l + e) z) 58 0 (6 * b + k) (g 58 0 (6 * b + k) ||| (if z = 0 then (0 : Int32) else 1 <<< (nI e &&& 31))) f i j = g f i j := fun f i j b1 b2 b3 => by
        rw [gu_f _ _ _ _ _ _ _ _ b3, gu_f _ _ _ _ _ _ _ _ b2, gu_f _ _ _ _ _ _ _ _ b1]
      have hz6 : m6 (if z = 0 then (0 : Int32) else 1 <<< (nI e &&& 31)) := by
        by_cases y : z = 0
        · rw [if_pos y]; exact m6_0
        · rw [if_neg y]; exact m6_sh (by omega)
      generalize gu (gu (gu g 47 0 (80 * k + 8 * l + e) (g 44 0 (8 * l + e))) 48 0 (80 * k + 8 * l + e) z) 58 0 (6 * b + k) (g 58 0 (6 * b + k) ||| (if z = 0 then (0 : Int32) else 1 <<< (nI e &&& 31))) = g' at f47 f48 f58 f58' ff ⊢
      obtain ⟨i1, i2, i3, i4, i5, i6, i7⟩ := ih (e + 1) (c + 1) g' (by omega) (by rw [f58']; exact m6_or hm hz6)
      have eP : ∀ x, ¬ x = e → (gP k l w q g' x ↔ gP k l w q g x) := fun x hx => by
        unfold gP
        rw [F111_c (g := g) (fun j => ff 36 0 j (by decide) (by decide) (by decide)), f47, if_neg (by omega)]
      refine ⟨?_, fun f i j b1 b2 b3 => (i2 f i j b1 b2 b3).trans (ff f i j b1 b2 b3), fun j y => ?_, fun j y => ?_, fun j y => (i5 j y).trans (f58 j y), i6, fun x hx => (i7 x hx).trans ?_⟩
      · rw [i1, ct_s, ci_t yP, ct_c d (e + 1) (fun j h1 h2 => eP j (by omega))]
        exact congrArg nI (by omega)
      · by_cases e1 : j = 80 * k + 8 * l + e
        · obtain ⟨x1, x2⟩ := i4 j (by omega)
          rw [x1, x2, f47, f48, if_pos e1, if_pos e1, e1, show 80 * k + 8 * l + e - 80 * k = 8 * l + e by omega]
          exact ⟨rfl, rfl⟩
        · obtain ⟨x1, x2⟩ := i3 j ⟨by omega, by omega, (eP _ (by omega)).mpr y.2.2⟩
          rw [x1, x2, ff 44 0 _ (by decide) (by decide) (by decide)]
          exact ⟨rfl, rfl⟩
      · have e1 : ¬ j = 80 * k + 8 * l + e := fun t => y ⟨by omega, by omega, by rw [t, show 80 * k + 8 * l + e - (80 * k + 8 * l) = e by omega]; exact yP⟩
        obtain ⟨x1, x2⟩ := i4 j (fun t => y ⟨by omega, by omega, (eP _ (by omega)).mp t.2.2⟩)
        rw [x1, x2, f47, f48, if_neg e1, if_neg e1]
        exact ⟨rfl, rfl⟩
      · rw [f58', bt_or hm hz6 (by omega)]
        by_cases y : z = 0
        · rw [if_pos y]
          refine ⟨fun t => ?_, fun t => ?_⟩
          · rcases t with (t | t) | t
            · exact Or.inl t
            · exact absurd t (bt_0 (by omega))
            · exact absurd y t.1
          · rcases t with t | t
            · exact Or.inl (Or.inl t)
            · exact absurd y t.1
        · rw [if_neg y, bt_sh (by omega) (by omega)]
          refine ⟨fun t => ?_, fun t => ?_⟩
          · rcases t with (t | t) | t
            · exact Or.inl t
            · exact Or.inr ⟨y, by omega, by omega, by rw [t]; exact yP⟩
            · exact Or.inr ⟨y, by omega, by omega, (eP x (by omega)).mp t.2.2.2⟩
          · rcases t with t | t
            · exact Or.inl (Or.inl t)
            · by_cases e1 : x = e
              · exact Or.inl (Or.inr e1)
              · exact Or.inr ⟨y, by omega, by omega, (eP x e1).mpr t.2.2.2⟩
theorem rKh_add {k l m : Nat} {g G : mG} {gv : Int32} (zb : Prop) (hl : l < 10) (hm : m ≤ 6) (h1 : ∀ l', l' < 10 → G 1 k l' = if l' = l then g 1 k l ||| gv else g 1 k l') (h2 : ∀ l', l' < 10 → (l' = l ∧ zb → G 2 k l' = g 2 k l ||| gv) ∧ (¬ (l' = l ∧ zb) → G 2 k l' = g 2 k l')) (hg : m6 gv) (hgb : ∀ x, x < 6 → (bt gv x ↔ (x < m ∧ bt (g 12 l x) k ∧ ¬ bt (g 1 k l) x))) (h47 : ∀ l' e, l' < 10 → e < 8 → (l' = l ∧ e < m ∧ bt (g 12 l e) k ∧ ¬ bt (g 1 k l) e → G 47 0 (80 * k + 8 * l' + e) = g 17 0 (8 * l + e) ∧ (zb → G 48 0 (80 * k + 8 * l' + e) = 1) ∧ (¬ zb → G 48 0 (80 * k + 8 * l' + e) = 0)) ∧ (¬ (l' = l ∧ e < m ∧ bt (g 12 l e) k ∧ ¬ bt (g 1 k l) e) → G 47 0 (80 * k + 8 * l' + e) = g 47 0 (80 * k + 8 * l' + e) ∧ G 48 0 (80 * k + 8 * l' + e) = g 48 0 (80 * k + 8 * l' + e))) (hat : ∀ e, e < m → ¬ g 17 0 (8 * l + e) = 0) (ha : ag [12, 17] g G) (r : rKh k g) : rKh k G := by
  have h12 := ha 12 (by decide)
  have h17 := ha 17 (by decide)
  intro l' hl'
  obtain ⟨m1, m2, me⟩ := r l' hl'
  by_cases e : l' = l
  · subst e
    have x1 := h1 l' hl'
    rw [if_pos rfl] at x1
    have hb1 : ∀ x, x < 8 → (bt (G 1 k l') x ↔ bt (g 1 k l') x ∨ bt gv x) := fun x hx => by rw [x1]; exact bt_or m1 hg hx
    have hv : ∀ x, x < 8 → (bt gv x ↔ (x < m ∧ bt (g 12 l' x) k ∧ ¬ bt (g 1 k l') x)) := fun x hx => by
      by_cases h6 : x < 6
      · exact hgb x h6
      · exact ⟨fun y => absurd y (bt_hi hg hx (by omega)), fun y => by omega⟩
    have m2' : m6 (G 2 k l') ∧ ∀ x, x < 8 → (bt (G 2 k l') x ↔ bt (g 2 k l') x ∨ (zb ∧ bt gv x)) := by
      by_cases hz : zb
      · rw [(h2 l' hl').1 ⟨rfl, hz⟩]
        exact ⟨m6_or m2 hg, fun x hx => (bt_or m2 hg hx).trans ⟨fun y => y.imp id (fun t => ⟨hz, t⟩), fun y => y.imp id (fun t => t.2)⟩⟩
      · rw [(h2 l' hl').2 (fun y => hz y.2)]
        exact ⟨m2, fun x hx => ⟨Or.inl, fun y => y.elim id (fun t => absurd t.1 hz)⟩⟩
    refine ⟨by rw [x1]; exact m6_or m1 hg, m2'.1, fun x hx => ?_⟩
    obtain ⟨v1, v2, v3, v4⟩ := me x hx
    unfold rKe
    rw [h17, h12]
    by_cases hy : bt gv x
    · have hc := (hv x hx).mp hy
      obtain ⟨w1, w2, w3⟩ := (h47 l' x hl' hx).1 ⟨rfl, hc⟩
      have hn2 : ¬ bt (g 2 k l') x := fun t => hc.2.2 (v3 t)
      refine ⟨by rw [w1, if_pos ((hb1 x hx).mpr (Or.inr hy))], ?_, fun t => ?_, fun _ => ⟨hc.2.1, hat x hc.1⟩⟩
      · by_cases hz : zb
        · rw [w2 hz, bI_t _ ((m2'.2 x hx).mpr (Or.inr ⟨hz, hy⟩))]
        · rw [w3 hz, bI_f _ (fun t => ((m2'.2 x hx).mp t).elim hn2 (fun u => hz u.1))]
      · exact (hb1 x hx).mpr (Or.inr hy)
    · have hc : ¬ (x < m ∧ bt (g 12 l' x) k ∧ ¬ bt (g 1 k l') x) := fun t => hy ((hv x hx).mpr t)
      obtain ⟨w1, w2⟩ := (h47 l' x hl' hx).2 (fun t => hc t.2)
      have e1 : bt (G 1 k l') x ↔ bt (g 1 k l') x := (hb1 x hx).trans ⟨fun t => t.resolve_right hy, Or.inl⟩
      have e2 : bt (G 2 k l') x ↔ bt (g 2 k l') x := (m2'.2 x hx).trans ⟨fun t => t.elim id (fun u => absurd u.2 hy), Or.inl⟩
      refine ⟨?_, by rw [w2, v2]; exact bI_c e2.symm, fun t => e1.mpr (v3 (e2.mp t)), fun t => v4 (e1.mp t)⟩
      rw [w1, v1]
      by_cases t : bt (g 1 k l') x
      · rw [if_pos t, if_pos (e1.mpr t)]
      · rw [if_neg t, if_neg (fun u => t (e1.mp u))]
  · have x1 := h1 l' hl'
    rw [if_neg e] at x1
    have x2 := (h2 l' hl').2 (fun y => e y.1)
    refine ⟨by rw [x1]; exact m1, by rw [x2]; exact m2, fun x hx => ?_⟩
    obtain ⟨w1, w2⟩ := (h47 l' x hl' hx).2 (fun y => e y.1)
    have := me x hx
    unfold rKe at this ⊢
    rw [x1, x2, w1, w2, h17, h12]
    exact this
