/-! sync: what is synced; what the writers are told -/
theorem F10_v (b : Nat) (kk m : Int32) (i : Nat) : ∀ (d e : Nat) (g : mG), F10 b kk m d e g 3 b i = if e ≤ i ∧ i < e + d ∧ bt m i then g 3 b i ||| 1 <<< (kk &&& 31) else g 3 b i := by
  intro d
  induction d with
  | zero => intro e g; rw [if_neg (by omega)]; rfl
  | succ d ih =>
    intro e g
    show F10 b kk m d (e + 1) (if bt m e then gu g 3 b e (g 3 b e ||| 1 <<< (kk &&& 31)) else g) 3 b i = _
    rw [ih (e + 1)]
    by_cases h1 : i = e
    · subst h1
      rw [if_neg (by omega)]
      by_cases h2 : bt m i
      · rw [if_pos h2, gu_same, if_pos ⟨by omega, by omega, h2⟩]
      · rw [if_neg h2, if_neg (fun y => h2 y.2.2)]
    · have hv : (if bt m e then gu g 3 b e (g 3 b e ||| 1 <<< (kk &&& 31)) else g) 3 b i = g 3 b i := by
        split
        · exact gu_k _ _ _ _ _ _ h1
        · rfl
      rw [hv]
      by_cases h2 : e + 1 ≤ i ∧ i < e + 1 + d ∧ bt m i
      · rw [if_pos h2, if_pos ⟨by omega, by omega, h2.2.2⟩]
      · rw [if_neg h2, if_neg (fun y => h2 ⟨by omega, by omega, y.2.2⟩)]
theorem F10_o (b b' : Nat) (kk m : Int32) (i : Nat) (hb : ¬ b' = b) : ∀ (d e : Nat) (g : mG), F10 b kk m d e g 3 b' i = g 3 b' i := by
  intro d
  induction d with
  | zero => exact fun _ _ => rfl
  | succ d ih =>
    intro e g
    show F10 b kk m d (e + 1) (if bt m e then gu g 3 b e (g 3 b e ||| 1 <<< (kk &&& 31)) else g) 3 b' i = _
    rw [ih (e + 1)]
    split
    · exact gu_ne _ _ _ _ _ _ _ _ (fun y => hb y.2.1)
    · rfl
theorem F105a_v (k b l j : Nat) : ∀ (d e : Nat) (g : mG), F105a k b l d e g 55 0 j = if 6 * b + e ≤ j ∧ j < 6 * b + e + d then g 55 0 j ||| (if g 47 0 (80 * k + 8 * l + (j - 6 * b)) ≤ 0 then (0 : Int32) else 1 <<< (nI k &&& 31)) else g 55 0 j := by
  intro d
  induction d with
  | zero => intro e g; rw [if_neg (by omega)]; rfl
  | succ d ih =>
    intro e g
    show F105a k b l d (e + 1) (gu g 55 0 (6 * b + e) (g 55 0 (6 * b + e) ||| (if g 47 0 (80 * k + 8 * l + e) ≤ 0 then (0 : Int32) else 1 <<< (nI k &&& 31)))) 55 0 j = _
    rw [ih (e + 1), gu_f _ _ _ _ 47 _ _ _ (by decide)]
    by_cases h1 : j = 6 * b + e
    · subst h1
      rw [if_neg (show ¬ (6 * b + (e + 1) ≤ 6 * b + e ∧ 6 * b + e < 6 * b + (e + 1) + d) by omega), if_pos (show 6 * b + e ≤ 6 * b + e ∧ 6 * b + e < 6 * b + e + (d + 1) by omega), gu_same, show 6 * b + e - 6 * b = e by omega]
    · rw [gu_k _ _ _ _ _ _ h1]
      by_cases h2 : 6 * b + (e + 1) ≤ j ∧ j < 6 * b + (e + 1) + d
      · rw [if_pos h2, if_pos (show 6 * b + e ≤ j ∧ j < 6 * b + e + (d + 1) by omega)]
      · rw [if_neg h2, if_neg (show ¬ (6 * b + e ≤ j ∧ j < 6 * b + e + (d + 1)) by omega)]
theorem ct_mono {p p' : Nat → Prop} : ∀ (d k : Nat), (∀ j, k ≤ j → j < k + d → p j → p' j) → ct p d k ≤ ct p' d k := by
  intro d
  induction d with
  | zero => exact fun _ _ => Nat.le_refl _
  | succ d ih =>
    intro k h
    have := ih (k + 1) (fun j h1 h2 => h j (by omega) (by omega))
    rw [ct_s, ct_s]
    by_cases q : p k
    · rw [ci_t q, ci_t (h k (by omega) (by omega) q)]; omega
    · rw [ci_f q]; omega
/-- the count of those that were told, monotone -/
theorem F106_p (b : Nat) (g : mG) : ∀ (d e i : Nat), e ≤ i → i < F106 b g d e → ¬ F107 (g 55 0 (6 * b + i)) 6 0 0 < g 65 0 4 := by
  intro d
  induction d with
  | zero => intro e i h1 h2; exact absurd (show i < e from h2) (by omega)
  | succ d ih =>
    intro e i h1 h2
    have h3 : i < (if F107 (g 55 0 (6 * b + e)) 6 0 0 < g 65 0 4 then e else F106 b g d (e + 1)) := h2
    by_cases q : F107 (g 55 0 (6 * b + e)) 6 0 0 < g 65 0 4
    · rw [if_pos q] at h3; omega
    · rw [if_neg q] at h3
      by_cases hi : i = e
      · rw [hi]; exact q
      · exact ih (e + 1) i (by omega) h3
theorem F106_ge (b : Nat) (g : mG) : ∀ (d e : Nat), e ≤ F106 b g d e := by
  intro d
  induction d with
  | zero => exact fun e => Nat.le_refl _
  | succ d ih =>
    intro e
    show e ≤ (if F107 (g 55 0 (6 * b + e)) 6 0 0 < g 65 0 4 then e else F106 b g d (e + 1))
    split
    · exact Nat.le_refl _
    · have := ih (e + 1); omega
theorem F106_k (b : Nat) (g : mG) : ∀ (c d e : Nat), (∀ i, e ≤ i → i < e + c → ¬ F107 (g 55 0 (6 * b + i)) 6 0 0 < g 65 0 4) → F106 b g (c + d) e = F106 b g d (e + c) := by
  intro c
  induction c with
  | zero => intro d e _; rw [Nat.zero_add, Nat.add_zero]
  | succ c ih =>
    intro d e h
    rw [show c + 1 + d = (c + d) + 1 by omega]
    show (if F107 (g 55 0 (6 * b + e)) 6 0 0 < g 65 0 4 then e else F106 b g (c + d) (e + 1)) = _
    rw [if_neg (h e (by omega) (by omega)), ih d (e + 1) (fun i h1 h2 => h i (by omega) (by omega)), show e + 1 + c = e + (c + 1) by omega]
/-- what class memory C and model memory Mo have in common for the telling -/
def tG (k a : Nat) (C Mo : mG) : Prop := C 64 0 2 = nI a ∧ Mo 65 0 4 = nI a ∧ (∀ t, t < 80 → C 17 0 t = Mo 44 0 t ∧ ∃ j, j ≤ 60 ∧ C 17 0 t = nI j) ∧ (∀ i, i < 61 → C 14 0 i = Mo 41 0 i ∧ C 15 0 i = Mo 42 0 i ∧ ∃ p, p < 4 ∧ C 14 0 i = nI p) ∧ ∀ l e, l < 10 → e < 6 → (bt (C 1 k l) e ↔ ¬ Mo 47 0 (80 * k + 8 * l + e) ≤ 0)
def tH (C Mo : mG) : Prop := ∀ p, p < 4 → C 29 0 p = Mo 45 0 p
def tR (b ph l e : Nat) (C Mo : mG) : Prop := ph ≤ 3 ∧ l < 10 ∧ e ≤ 6 ∧ C 28 b 1 = nI ph ∧ Mo 51 0 b = nI ph ∧ (ph = 3 → C 28 b 3 = nI l) ∧ Mo 53 0 b = nI l ∧ C 28 b 4 = nI e ∧ Mo 54 0 b = nI e ∧ (∀ i, i < 6 → C 3 b i = Mo 55 0 (6 * b + i) ∧ m6 (C 3 b i) ∧ (e ≤ i → C 3 b i = 0)) ∧ C 28 b 5 = nI (F106 b Mo e 0)
theorem lt_le {x y : Int32} : (x < y) ↔ ¬ y ≤ x := Int32.not_le.symm
/-- the hearing -/
theorem tell_h {k a b l e : Nat} (hl : l < 10) (he : e ≤ 6) : ∀ (d x : Nat) (C Mo : mG), x + d = e → tG k a C Mo → tH C Mo → C 28 b 5 = nI x → (∀ i, i < 6 → C 3 b i = Mo 55 0 (6 * b + i) ∧ m6 (C 3 b i)) → F59 b l d x C 28 b 5 = nI (F106 b Mo d x) ∧ ∀ p, p < 4 → F59 b l d x C 29 0 p = F105b l (F106 b Mo d x - x) x Mo 45 0 p := by
  intro d
  induction d with
  | zero =>
    intro x C Mo hx hG hH h5 hT
    refine ⟨h5, fun p hp => ?_⟩
    rw [show F106 b Mo 0 x = x from rfl, Nat.sub_self]
    exact hH p hp
  | succ d ih =>
    intro x C Mo hx hG hH h5 hT
    obtain ⟨g1, g2, g3, g4, g5⟩ := hG
    have hF : F59 b l (d + 1) x C = if C 64 0 2 ≤ bc (C 3 b x) then F59 b l d (x + 1) (st59 b l x C) else C := rfl
    have hM : F106 b Mo (d + 1) x = if F107 (Mo 55 0 (6 * b + x)) 6 0 0 < Mo 65 0 4 then x else F106 b Mo d (x + 1) := rfl
    obtain ⟨t1, t2⟩ := hT x (by omega)
    have hc : (C 64 0 2 ≤ bc (C 3 b x)) ↔ ¬ (F107 (Mo 55 0 (6 * b + x)) 6 0 0 < Mo 65 0 4) := by
      rw [← t1, bc_ct t2, f7_ct t2, g1, g2, lt_le, Classical.not_not]
    by_cases q : C 64 0 2 ≤ bc (C 3 b x)
    · have q2 := hc.mp q
      rw [hF, if_pos q, hM, if_neg q2]
      obtain ⟨m1, j, hj, m2⟩ := g3 (8 * l + x) (by omega)
      obtain ⟨p1, p2, p, hp, p3⟩ := g4 j (by omega)
      have ej : (C 17 0 (8 * l + x)).toNatClampNeg = j := by rw [m2]; exact tn (by omega)
      have ej' : (Mo 44 0 (8 * l + x)).toNatClampNeg = j := by rw [← m1, m2]; exact tn (by omega)
      have ep : (C 14 0 j).toNatClampNeg = p := by rw [p3]; exact tn (by omega)
      have ep' : (Mo 41 0 j).toNatClampNeg = p := by rw [← p1, p3]; exact tn (by omega)
      have s1 : st59 b l x C = gu (gu C 29 0 p (if C 29 0 p < C 15 0 j then C 15 0 j else C 29 0 p)) 28 b 5 (nI (x + 1)) := by
        unfold st59
        rw [ej, ep]
      have s2 : st105 l x Mo = gu Mo 45 0 p (if Mo 42 0 j ≤ Mo 45 0 p then Mo 45 0 p else Mo 42 0 j) := by
        unfold st105
        rw [ej', ep']
      have cf : ∀ f i j', ¬ f = 29 → ¬ f = 28 → st59 b l x C f i j' = C f i j' := fun f i j' a1 a2 => st59_f b l x f i j' C a1 (fun y => a2 y.1)
      have mf : ∀ f i j', ¬ f = 45 → st105 l x Mo f i j' = Mo f i j' := fun f i j' a1 => gu_f _ _ _ _ _ _ _ _ a1
      have eM : ∀ d' x', x' + d' ≤ 6 → F106 b (st105 l x Mo) d' x' = F106 b Mo d' x' := fun d' x' hx' => F106_g b Mo _ (mf _ _ _ (by decide)) (fun _ _ => mf _ _ _ (by decide)) d' x' hx'
      obtain ⟨i1, i2⟩ := ih (x + 1) (st59 b l x C) (st105 l x Mo) (by omega) ⟨by rw [cf 64 0 2 (by decide) (by decide)]; exact g1, by rw [mf 65 0 4 (by decide)]; exact g2, fun t ht => by rw [cf 17 0 t (by decide) (by decide), mf 44 0 t (by decide)]; exact g3 t ht, fun i hi => by rw [cf 14 0 i (by decide) (by decide), mf 41 0 i (by decide), cf 15 0 i (by decide) (by decide), mf 42 0 i (by decide)]; exact g4 i hi, fun l' e' h1 h2 => by rw [cf 1 k l' (by decide) (by decide), mf 47 0 _ (by decide)]; exact g5 l' e' h1 h2⟩ (fun p' hp' => by
        rw [s1, s2, gu_f _ _ _ _ _ _ _ _ (by decide)]
        by_cases e' : p' = p
        · rw [e', gu_same, gu_same, ← hH p hp, ← p2]
          by_cases y : C 29 0 p < C 15 0 j
          · rw [if_pos y, if_neg (lt_le.mp y)]
          · rw [if_neg y, if_pos (Int32.not_lt.mp y)]
        · rw [gu_k _ _ _ _ _ _ e', gu_k _ _ _ _ _ _ e']
          exact hH p' hp') (by rw [s1, gu_same]) (fun i hi => by rw [cf 3 b i (by decide) (by decide), mf 55 0 _ (by decide)]; exact hT i hi)
      rw [eM d (x + 1) (by omega)] at i1 i2
      refine ⟨i1, fun p' hp' => ?_⟩
      rw [i2 p' hp']
      have hge := F106_ge b Mo d (x + 1)
      rw [show F106 b Mo d (x + 1) - x = (F106 b Mo d (x + 1) - (x + 1)) + 1 by omega]
      rfl
    · have q2 : F107 (Mo 55 0 (6 * b + x)) 6 0 0 < Mo 65 0 4 := Classical.byContradiction (fun y => q (hc.mpr y))
      rw [hF, if_neg q, hM, if_pos q2, Nat.sub_self]
      exact ⟨h5, hH⟩
theorem or_z {m : Int32} (h : m6 m) : m ||| 0 = m := by
  obtain ⟨j, hj, rfl⟩ := h
  rw [show (0 : Int32) = nI 0 from rfl, b6_or j hj 0 (by decide), Nat.or_zero]
/-- one writer is told -/
theorem tell_1 {k a b ph l e : Nat} {C Mo : mG} (hk : k < 6) (hG : tG k a C Mo) (hH : tH C Mo) (hR : tR b ph l e C Mo) : tH (F58s k b C) (F104s k b Mo) ∧ tR b ph l e (F58s k b C) (F104s k b Mo) := by
  obtain ⟨r1, r2, r3, r4, r5, r6, r7, r8, r9, r10, r11⟩ := hR
  by_cases h3 : ph = 3
  · have c3 : C 28 b 1 = 3 := by rw [r4, h3]; rfl
    have m3 : Mo 51 0 b = 3 := by rw [r5, h3]; rfl
    have hle : F106 b Mo e 0 ≤ e := by have := F106_le b Mo e 0; omega
    have eC : F58s k b C = F59 b l (e - F106 b Mo e 0) (F106 b Mo e 0) (F10 b (nI k) (C 1 k l) e 0 C) := F58s_e k b l e (F106 b Mo e 0) C r2 r3 hle c3 (r6 h3) r8 r11
    have eM : F104s k b Mo = F105 k b l e Mo := by
      unfold F104s
      rw [if_pos m3, r7, r9, tn (show l < 65536 by omega), tn (show e < 65536 by omega)]
    have kf : ∀ f i j, ¬ f = 3 → F10 b (nI k) (C 1 k l) e 0 C f i j = C f i j := fun f i j hf => F10_f b (nI k) (C 1 k l) f i j hf e 0 C
    have kg : ∀ f i j, ¬ f = 55 → F105a k b l e 0 Mo f i j = Mo f i j := fun f i j hf => F105a_f k b l f i j hf e 0 Mo
    have hT : ∀ i, i < 6 → F10 b (nI k) (C 1 k l) e 0 C 3 b i = F105a k b l e 0 Mo 55 0 (6 * b + i) ∧ m6 (F10 b (nI k) (C 1 k l) e 0 C 3 b i) ∧ (e ≤ i → F10 b (nI k) (C 1 k l) e 0 C 3 b i = 0) ∧ ∀ x, x < 6 → bt (C 3 b i) x → bt (F10 b (nI k) (C 1 k l) e 0 C 3 b i) x := by
      intro i hi
      obtain ⟨t1, t2, t3⟩ := r10 i hi
      rw [F10_v, F105a_v, show 6 * b + i - 6 * b = i by omega]
      have hb' := hG.2.2.2.2 l i r2 hi
      by_cases q : i < e
      · rw [if_pos (show 6 * b + 0 ≤ 6 * b + i ∧ 6 * b + i < 6 * b + 0 + e by omega)]
        by_cases y : bt (C 1 k l) i
        · rw [if_pos ⟨by omega, by omega, y⟩, if_neg (hb'.mp y), t1]
          refine ⟨rfl, by rw [← t1]; exact m6_or t2 (m6_sh hk), fun z => by omega, fun x hx z => ?_⟩
          rw [← t1, bt_or t2 (m6_sh hk) (by omega)]
          exact Or.inl (by rw [t1]; exact z)
        · rw [if_neg (fun z => y z.2.2), if_pos (Classical.byContradiction (fun z => y (hb'.mpr z))), ← t1, or_z t2]
          exact ⟨rfl, t2, t3, fun _ _ z => z⟩
      · rw [if_neg (by omega), if_neg (by omega)]
        exact ⟨t1, t2, t3, fun _ _ z => z⟩
    have hck : ∀ i, 0 ≤ i → i < 0 + F106 b Mo e 0 → ¬ F107 (F105a k b l e 0 Mo 55 0 (6 * b + i)) 6 0 0 < F105a k b l e 0 Mo 65 0 4 := by
      intro i _ hi
      have h1 := F106_p b Mo e 0 i (by omega) (by omega)
      obtain ⟨t1, t2, t3, t4⟩ := hT i (by omega)
      obtain ⟨u1, u2, _⟩ := r10 i (by omega)
      rw [kg 65 0 4 (by decide), ← t1, f7_ct t2]
      rw [← u1, f7_ct u2] at h1
      have hmo := ct_mono 6 0 (p := bt (C 3 b i)) (p' := bt (F10 b (nI k) (C 1 k l) e 0 C 3 b i)) (fun x _ hx z => t4 x (by omega) z)
      have l1 := ct_le (p := bt (C 3 b i)) 6 0
      have l2 := ct_le (p := bt (F10 b (nI k) (C 1 k l) e 0 C 3 b i)) 6 0
      rw [Int32.not_lt] at h1 ⊢
      refine Int32.le_trans h1 ?_
      rw [iI_le (by omega) (by omega)]
      exact hmo
    have hsplit : F106 b (F105a k b l e 0 Mo) e 0 = F106 b (F105a k b l e 0 Mo) (e - F106 b Mo e 0) (F106 b Mo e 0) := by
      have := F106_k b (F105a k b l e 0 Mo) (F106 b Mo e 0) (e - F106 b Mo e 0) 0 hck
      rw [show F106 b Mo e 0 + (e - F106 b Mo e 0) = e by omega, Nat.zero_add] at this
      exact this
    obtain ⟨t1, t2⟩ := tell_h (k := k) (a := a) (b := b) (l := l) (e := e) r2 r3 (e - F106 b Mo e 0) (F106 b Mo e 0) (F10 b (nI k) (C 1 k l) e 0 C) (F105a k b l e 0 Mo) (by omega) ⟨by rw [kf 64 0 2 (by decide)]; exact hG.1, by rw [kg 65 0 4 (by decide)]; exact hG.2.1, fun t ht => by rw [kf 17 0 t (by decide), kg 44 0 t (by decide)]; exact hG.2.2.1 t ht, fun i hi => by rw [kf 14 0 i (by decide), kg 41 0 i (by decide), kf 15 0 i (by decide), kg 42 0 i (by decide)]; exact hG.2.2.2.1 i hi, fun l' e' h1 h2 => by rw [kf 1 k l' (by decide), kg 47 0 _ (by decide)]; exact hG.2.2.2.2 l' e' h1 h2⟩ (fun p hp => by rw [kf 29 0 p (by decide), kg 45 0 p (by decide)]; exact hH p hp) (by rw [kf 28 b 5 (by decide)]; exact r11) (fun i hi => ⟨(hT i hi).1, (hT i hi).2.1⟩)
    rw [← hsplit] at t1 t2
    have fM : F106 b (F105 k b l e Mo) e 0 = F106 b (F105a k b l e 0 Mo) e 0 := by
      unfold F105
      exact F106_g b _ _ (F105b_f _ _ _ _ (by decide) _ _ _) (fun _ _ => F105b_f _ _ _ _ (by decide) _ _ _) e 0 (by omega)
    have kC : ∀ f i j, ¬ f = 3 → ¬ f = 29 → ¬ (f = 28 ∧ i = b ∧ j = 5) → F58s k b C f i j = C f i j := fun f i j a1 a2 a3 => F58s_f k b f i j C a2 a3 a1
    have kM : ∀ f i j, ¬ f = 45 → ¬ f = 55 → F104s k b Mo f i j = Mo f i j := fun f i j a1 a2 => F104s_f k b f i j Mo a1 a2
    refine ⟨fun p hp => ?_, r1, r2, r3, ?_, ?_, fun _ => ?_, ?_, ?_, ?_, fun i hi => ?_, ?_⟩
    · rw [eC, eM, t2 p hp]
      rfl
    · rw [kC 28 b 1 (by decide) (by decide) (by omega)]; exact r4
    · rw [kM 51 0 b (by decide) (by decide)]; exact r5
    · rw [kC 28 b 3 (by decide) (by decide) (by omega)]; exact r6 h3
    · rw [kM 53 0 b (by decide) (by decide)]; exact r7
    · rw [kC 28 b 4 (by decide) (by decide) (by omega)]; exact r8
    · rw [kM 54 0 b (by decide) (by decide)]; exact r9
    · have e1 : F58s k b C 3 b i = F10 b (nI k) (C 1 k l) e 0 C 3 b i := by rw [eC, F59_f _ _ _ _ _ (by decide) (by omega)]
      have e2 : F104s k b Mo 55 0 (6 * b + i) = F105a k b l e 0 Mo 55 0 (6 * b + i) := by
        rw [eM]
        unfold F105
        rw [F105b_f _ _ _ _ (by decide)]
      rw [e1, e2]
      obtain ⟨y1, y2, y3, _⟩ := hT i hi
      exact ⟨y1, y2, y3⟩
    · rw [eM, fM, eC]
      exact t1
  · have c3 : ¬ C 28 b 1 = 3 := fun y => h3 (by rw [r4] at y; exact (iI_eq (b := 3) (by omega) (by omega)).mp y)
    have m3 : ¬ Mo 51 0 b = 3 := fun y => h3 (by rw [r5] at y; exact (iI_eq (b := 3) (by omega) (by omega)).mp y)
    have eM : F104s k b Mo = Mo := if_neg m3
    rw [F58s_n k b C c3, eM]
    exact ⟨hH, r1, r2, r3, r4, r5, r6, r7, r8, r9, r10, r11⟩
theorem tG_s {k a b : Nat} {C Mo : mG} (hG : tG k a C Mo) : tG k a (F58s k b C) (F104s k b Mo) := by
  have kC : ∀ f i j, ¬ f = 3 → ¬ f = 29 → ¬ f = 28 → F58s k b C f i j = C f i j := fun f i j a1 a2 a3 => F58s_f k b f i j C a2 (fun y => a3 y.1) a1
  have kM : ∀ f i j, ¬ f = 45 → ¬ f = 55 → F104s k b Mo f i j = Mo f i j := fun f i j a1 a2 => F104s_f k b f i j Mo a1 a2
  obtain ⟨g1, g2, g3, g4, g5⟩ := hG
  exact ⟨by rw [kC 64 0 2 (by decide) (by decide) (by decide)]; exact g1, by rw [kM 65 0 4 (by decide) (by decide)]; exact g2, fun t ht => by rw [kC 17 0 t (by decide) (by decide) (by decide), kM 44 0 t (by decide) (by decide)]; exact g3 t ht, fun i hi => by rw [kC 14 0 i (by decide) (by decide) (by decide), kM 41 0 i (by decide) (by decide), kC 15 0 i (by decide) (by decide) (by decide), kM 42 0 i (by decide) (by decide)]; exact g4 i hi, fun l e h1 h2 => by rw [kC 1 k l (by decide) (by decide) (by decide), kM 47 0 _ (by decide) (by decide)]; exact g5 l e h1 h2⟩
theorem tR_o {k b b' ph l e eb : Nat} {C Mo : mG} (hne : ¬ b' = b) (heb : eb ≤ 6) (h54 : Mo 54 0 b = nI eb) (hR : tR b' ph l e C Mo) : tR b' ph l e (F58s k b C) (F104s k b Mo) := by
  obtain ⟨r1, r2, r3, r4, r5, r6, r7, r8, r9, r10, r11⟩ := hR
  have k28 : ∀ j, F58s k b C 28 b' j = C 28 b' j := fun j => F58s_f k b 28 b' j C (by decide) (fun y => hne y.2.1) (by decide)
  have k3 : ∀ i, F58s k b C 3 b' i = C 3 b' i := fun i => by
    unfold F58s
    split
    · rw [F59_f _ _ _ _ _ (by decide) (by omega), F10_o b b' _ _ i hne]
    · rfl
  have kM : ∀ f i j, ¬ f = 45 → ¬ f = 55 → F104s k b Mo f i j = Mo f i j := fun f i j a1 a2 => F104s_f k b f i j Mo a1 a2
  have k55 : ∀ i, i < 6 → F104s k b Mo 55 0 (6 * b' + i) = Mo 55 0 (6 * b' + i) := fun i hi => by
    unfold F104s
    split
    · rename_i h
      unfold F105
      rw [F105b_f _ _ _ _ (by decide), F105a_v]
      rw [h54, tn (show eb < 65536 by omega), if_neg (by omega)]
    · rfl
  refine ⟨r1, r2, r3, by rw [k28]; exact r4, by rw [kM 51 0 b' (by decide) (by decide)]; exact r5, by rw [k28]; exact r6, by rw [kM 53 0 b' (by decide) (by decide)]; exact r7, by rw [k28]; exact r8, by rw [kM 54 0 b' (by decide) (by decide)]; exact r9, fun i hi => by rw [k3, k55 i hi]; exact r10 i hi, ?_⟩
  rw [k28, F106_g b' Mo _ (kM 65 0 4 (by decide) (by decide)) k55 e 0 (by omega)]
  exact r11
