/-! counting; enough, found, safe are the same in class and model -/
noncomputable def ci (p : Prop) : Nat := @ite Nat p (Classical.propDecidable p) 1 0
theorem ci_t {p : Prop} (h : p) : ci p = 1 := if_pos h
theorem ci_f {p : Prop} (h : ¬ p) : ci p = 0 := if_neg h
theorem ci_c {p p' : Prop} (h : p ↔ p') : ci p = ci p' := by rw [propext h]
noncomputable def ct (p : Nat → Prop) : Nat → Nat → Nat
  | 0, _ => 0
  | d + 1, k => ci (p k) + ct p d (k + 1)
theorem ct_s (p : Nat → Prop) (d k : Nat) : ct p (d + 1) k = ci (p k) + ct p d (k + 1) := rfl
theorem ct_c {p p' : Nat → Prop} : ∀ (d k : Nat), (∀ j, k ≤ j → j < k + d → (p j ↔ p' j)) → ct p d k = ct p' d k := by
  intro d
  induction d with
  | zero => exact fun _ _ => rfl
  | succ d ih =>
    intro k h
    rw [ct_s, ct_s, ci_c (h k (by omega) (by omega)), ih (k + 1) (fun j h1 h2 => h j (by omega) (by omega))]
theorem ct_0 {p : Nat → Prop} : ∀ (d k : Nat), (∀ j, k ≤ j → j < k + d → ¬ p j) → ct p d k = 0 := by
  intro d
  induction d with
  | zero => exact fun _ _ => rfl
  | succ d ih =>
    intro k h
    rw [ct_s, ci_f (h k (by omega) (by omega)), ih (k + 1) (fun j h1 h2 => h j (by omega) (by omega))]
theorem ct_le {p : Nat → Prop} : ∀ (d k : Nat), ct p d k ≤ d := by
  intro d
  induction d with
  | zero => exact fun _ => Nat.le_refl _
  | succ d ih =>
    intro k
    have := ih (k + 1)
    by_cases h : p k
    · rw [ct_s, ci_t h]; omega
    · rw [ct_s, ci_f h]; omega
theorem ct_or {p : Nat → Prop} {x : Nat} (hx : ¬ p x) : ∀ (d k : Nat), k ≤ x → x < k + d → ct (fun j => p j ∨ j = x) d k = ct p d k + 1 := by
  intro d
  induction d with
  | zero => intro k h1 h2; omega
  | succ d ih =>
    intro k h1 h2
    rw [ct_s, ct_s]
    by_cases h : k = x
    · subst h
      rw [ci_t (p := p k ∨ k = k) (Or.inr rfl), ci_f hx, ct_c d (k + 1) (p := fun j => p j ∨ j = k) (p' := p) (fun j h3 h4 => ⟨fun z => z.resolve_right (by omega), Or.inl⟩)]
      omega
    · rw [ih (k + 1) (by omega) (by omega), ci_c (p := p k ∨ k = x) (p' := p k) ⟨fun z => z.resolve_right h, Or.inl⟩]
      omega
theorem ct_sn (p : Nat → Prop) : ∀ (d k : Nat), ct p (d + 1) k = ct p d k + ci (p (k + d)) := by
  intro d
  induction d with
  | zero =>
    intro k
    rw [ct_s]
    show ci (p k) + 0 = 0 + ci (p (k + 0))
    rw [Nat.add_zero, Nat.zero_add, Nat.add_zero]
  | succ d ih =>
    intro k
    rw [ct_s, ih (k + 1), ct_s p d k, show k + 1 + d = k + (d + 1) by omega]
    omega
theorem ct_im (f : Nat → Nat) (P : Nat → Prop) (m : Nat) : ∀ q, (∀ i, i < q → f i < m) → (∀ i j, i < q → j < q → f i = f j → i = j) → ct (fun k => (∃ i, i < q ∧ f i = k) ∧ P k) m 0 = ct (fun i => P (f i)) q 0 := by
  intro q
  induction q with
  | zero => intro _ _; exact ct_0 m 0 (fun j _ _ z => by obtain ⟨i, hi, _⟩ := z.1; omega)
  | succ q ih =>
    intro hf hi
    rw [ct_sn, ← ih (fun i h => hf i (by omega)) (fun i j h1 h2 h3 => hi i j (by omega) (by omega) h3), Nat.zero_add]
    by_cases h : P (f q)
    · rw [ci_t h, ← ct_or (p := fun k => (∃ i, i < q ∧ f i = k) ∧ P k) (x := f q) (fun z => by
        obtain ⟨i, h1, h2⟩ := z.1
        have := hi i q (by omega) (by omega) h2
        omega) m 0 (Nat.zero_le _) (by rw [Nat.zero_add]; exact hf q (by omega))]
      refine ct_c m 0 (fun j _ _ => ⟨fun z => ?_, fun z => ?_⟩)
      · obtain ⟨⟨i, h1, h2⟩, h3⟩ := z
        by_cases hq : i = q
        · exact Or.inr (by rw [← h2, hq])
        · exact Or.inl ⟨⟨i, by omega, h2⟩, h3⟩
      · rcases z with ⟨⟨i, h1, h2⟩, h3⟩ | h3
        · exact ⟨⟨i, by omega, h2⟩, h3⟩
        · exact ⟨⟨q, by omega, h3.symm⟩, by rw [h3]; exact h⟩
    · rw [ci_f h, Nat.add_zero]
      refine ct_c m 0 (fun j _ _ => ⟨fun z => ?_, fun z => ?_⟩)
      · obtain ⟨⟨i, h1, h2⟩, h3⟩ := z
        by_cases hq : i = q
        · exact absurd h3 (by rw [← h2, hq]; exact h)
        · exact ⟨⟨i, by omega, h2⟩, h3⟩
      · obtain ⟨⟨i, h1, h2⟩, h3⟩ := z
        exact ⟨⟨i, by omega, h2⟩, h3⟩
theorem ct_b (p : Nat → Prop) (t : Nat → Bool) (h : ∀ e, e < 6 → (p e ↔ t e = true)) : ct p 6 0 = (t 0).toNat + (t 1).toNat + (t 2).toNat + (t 3).toNat + (t 4).toNat + (t 5).toNat := by
  have k : ∀ e, e < 6 → ci (p e) = (t e).toNat := by
    intro e he
    cases ht : t e with
    | true => exact ci_t ((h e he).mpr ht)
    | false => exact ci_f (fun z => by rw [(h e he).mp z] at ht; exact absurd ht (by decide))
  rw [ct_s, ct_s, ct_s, ct_s, ct_s, ct_s, k 0 (by decide), k 1 (by decide), k 2 (by decide), k 3 (by decide), k 4 (by decide), k 5 (by decide)]
  show _ + (_ + (_ + (_ + (_ + (_ + 0))))) = _
  omega
theorem bc_ct {m : Int32} (h : m6 m) : bc m = nI (ct (bt m) 6 0) := by
  obtain ⟨j, hj, rfl⟩ := h
  rw [b6_bc j hj, ct_b (bt (nI j)) (fun e => j.testBit e) (fun e he => b6_bt j hj e (by omega))]
  rfl
theorem f7_ct {m : Int32} (h : m6 m) : F107 m 6 0 0 = nI (ct (bt m) 6 0) := by
  obtain ⟨j, hj, rfl⟩ := h
  rw [b6_17 j hj, ct_b (bt (nI j)) (fun e => j.testBit e) (fun e he => b6_bt j hj e (by omega))]
  rfl
theorem b6_v : ∀ j, j < 64 → ∀ k, k < 8 → (nI j >>> (nI k &&& 31) &&& 1 = 0 ∨ nI j >>> (nI k &&& 31) &&& 1 = 1) := by decide +kernel
theorem bt_v {m : Int32} (h : m6 m) {k : Nat} (hk : k < 8) : m >>> (nI k &&& 31) &&& 1 = nI (ci (bt m k)) := by
  obtain ⟨j, hj, rfl⟩ := h
  by_cases q : bt (nI j) k
  · rw [ci_t q]; exact q
  · rw [ci_f q]; exact (b6_v j hj k hk).resolve_right q
/-- stands, writes, isOn -/
theorem F111_z (l fr w : Nat) (k : Int32) (g : mG) : ∀ (n i : Nat) (a : Int32), (a = 0 ∨ a = 1) → (F111 l fr w k g n i a = 0 ↔ a = 0 ∧ ¬ ∃ j, i ≤ j ∧ j < i + n ∧ g 36 0 (4 * l + (fr + j) % w) = k) := by
  intro n
  induction n with
  | zero => exact fun i a _ => ⟨fun z => ⟨z, fun y => by obtain ⟨j, h1, h2, _⟩ := y; omega⟩, fun z => z.1⟩
  | succ n ih =>
    intro i a ha
    show F111 l fr w k g n (i + 1) (if a = 0 then bI (g 36 0 (4 * l + (fr + i) % w) = k) else 1) = 0 ↔ _
    by_cases h0 : a = 0
    · rw [if_pos h0]
      by_cases h1 : g 36 0 (4 * l + (fr + i) % w) = k
      · rw [bI_t _ h1, ih (i + 1) 1 (Or.inr rfl)]
        exact ⟨fun z => absurd z.1 (by decide), fun z => absurd ⟨i, Nat.le_refl _, by omega, h1⟩ z.2⟩
      · rw [bI_f _ h1, ih (i + 1) 0 (Or.inl rfl)]
        refine ⟨fun z => ⟨h0, fun y => z.2 ?_⟩, fun z => ⟨rfl, fun y => z.2 ?_⟩⟩
        · obtain ⟨j, h2, h3, h4⟩ := y
          by_cases hj : j = i
          · subst hj; exact absurd h4 h1
          · exact ⟨j, by omega, by omega, h4⟩
        · obtain ⟨j, h2, h3, h4⟩ := y
          exact ⟨j, by omega, by omega, h4⟩
    · rw [if_neg h0, ih (i + 1) 1 (Or.inr rfl)]
      exact ⟨fun z => absurd z.1 (by decide), fun z => absurd z.1 h0⟩
theorem wr_z {w q l e k : Nat} {g : mG} : F111 l (e % w) w (nI k) g q 0 0 = 0 ↔ ¬ inW w q l e k g := by
  rw [F111_z l (e % w) w (nI k) g q 0 0 (Or.inl rfl)]
  unfold inW
  refine ⟨fun z y => z.2 ?_, fun z => ⟨rfl, fun y => z ?_⟩⟩
  · obtain ⟨i, h1, h2⟩ := y
    exact ⟨i, by omega, by omega, by rw [Nat.mod_add_mod]; exact h2⟩
  · obtain ⟨j, h1, h2, h3⟩ := y
    rw [Nat.mod_add_mod] at h3
    exact ⟨j, by omega, h3⟩
theorem F24_z (l : Nat) (k : Int32) (g : mG) : ∀ (n e : Nat), F24 l k g n e = true ↔ ∃ j, e ≤ j ∧ j < e + n ∧ g 11 l j = k := by
  intro n
  induction n with
  | zero => exact fun e => ⟨fun z => absurd z Bool.false_ne_true, fun y => by obtain ⟨j, h1, h2, _⟩ := y; omega⟩
  | succ n ih =>
    intro e
    show (if g 11 l e = k then true else F24 l k g n (e + 1)) = true ↔ _
    by_cases h : g 11 l e = k
    · rw [if_pos h]
      exact ⟨fun _ => ⟨e, Nat.le_refl _, by omega, h⟩, fun _ => rfl⟩
    · rw [if_neg h, ih (e + 1)]
      refine ⟨fun y => ?_, fun y => ?_⟩
      · obtain ⟨j, h2, h3, h4⟩ := y
        exact ⟨j, by omega, by omega, h4⟩
      · obtain ⟨j, h2, h3, h4⟩ := y
        by_cases hj : j = e
        · subst hj; exact absurd h4 h
        · exact ⟨j, by omega, by omega, h4⟩
theorem on_z {N w l : Nat} {g : mG} (hw : 0 < w) (hL : rLe N w l g) (k : Int32) : F24 l k g w 0 = true ↔ ¬ F111 l 0 w k g w 0 0 = 0 := by
  rw [F24_z, F111_z l 0 w k g w 0 0 (Or.inl rfl)]
  have e : ∀ i, i < w → g 11 l i = g 36 0 (4 * l + i) := fun i hi => by
    obtain ⟨k, _, h1, h2⟩ := hL.2.1 i hi
    rw [h1, h2]
  refine ⟨fun y z => z.2 ?_, fun z => Classical.byContradiction (fun y => z ⟨rfl, fun x => y ?_⟩)⟩
  · obtain ⟨j, h1, h2, h3⟩ := y
    exact ⟨j, h1, h2, by rw [Nat.zero_add, Nat.mod_eq_of_lt (by omega), ← e j (by omega)]; exact h3⟩
  · obtain ⟨j, h1, h2, h3⟩ := x
    rw [Nat.zero_add, Nat.mod_eq_of_lt (by omega), ← e j (by omega)] at h3
    exact ⟨j, h1, h2, h3⟩
/-- enough -/
theorem md_inj {w i j j' : Nat} (h1 : j < w) (h2 : j' < w) (h : (i + j) % w = (i + j') % w) : j = j' := by
  have a1 := Nat.div_add_mod (i + j) w
  have a2 := Nat.div_add_mod (i + j') w
  rw [h] at a1
  have e : w * ((i + j) / w) + j' = w * ((i + j') / w) + j := by omega
  by_cases h3 : (i + j) / w = (i + j') / w
  · rw [h3] at e; omega
  · by_cases h4 : (i + j) / w < (i + j') / w
    · have : w * ((i + j) / w) + w ≤ w * ((i + j') / w) := by
        rw [← Nat.mul_succ]; exact Nat.mul_le_mul_left w h4
      omega
    · have : w * ((i + j') / w) + w ≤ w * ((i + j) / w) := by
        rw [← Nat.mul_succ]; exact Nat.mul_le_mul_left w (by omega)
      omega
theorem F113a_s (b l w i : Nat) (g : mG) (f : Nat → Nat) (hR : m6 (g 56 0 b)) (hf : ∀ j, j < w → f j < 6 ∧ g 36 0 (4 * l + (i + j) % w) = nI (f j)) : ∀ (n j c : Nat), j + n ≤ w → F113a b l w i g n j (nI c) = nI (c + ct (fun j => bt (g 56 0 b) (f j)) n j) := by
  intro n
  induction n with
  | zero => exact fun _ _ _ => rfl
  | succ n ih =>
    intro j c hj
    show F113a b l w i g n (j + 1) (nI c + (g 56 0 b >>> (g 36 0 (4 * l + (i + j) % w) &&& 31) &&& 1)) = _
    obtain ⟨h1, h2⟩ := hf j (by omega)
    rw [h2, bt_v hR (show f j < 8 by omega), iI_add, ih (j + 1) _ (by omega), ct_s, Nat.add_assoc]
theorem en_c {N w q l b i : Nat} {g : mG} (hN : N ≤ 6) (hw : 0 < w) (hqw : q ≤ w) (hi : i < 6) (hLe : rLe N w l g) (hLw : rLw w q l g) (hR : m6 (g 28 b 6)) (h56 : g 28 b 6 = g 56 0 b) : bc (g 12 l i &&& g 28 b 6) = F113a b l w i g q 0 0 := by
  have ex : ∀ j, ∃ k, j < w → k < N ∧ g 36 0 (4 * l + (i + j) % w) = nI k := by
    intro j
    by_cases hj : j < w
    · obtain ⟨k, h1, _, h3⟩ := hLe.2.1 ((i + j) % w) (Nat.mod_lt _ hw)
      exact ⟨k, fun _ => ⟨h1, h3⟩⟩
    · exact ⟨0, fun z => absurd z hj⟩
  let f : Nat → Nat := fun j => Classical.choose (ex j)
  have hf : ∀ j, j < w → f j < N ∧ g 36 0 (4 * l + (i + j) % w) = nI (f j) := fun j => Classical.choose_spec (ex j)
  have key := F113a_s b l w i g f (h56 ▸ hR) (fun j hj => ⟨by have := (hf j hj).1; omega, (hf j hj).2⟩) q 0 0 (by omega)
  rw [show (0 : Int32) = nI 0 from rfl, key, Nat.zero_add, bc_ct (m6_ad (hLw i hi).1 hR), ← ct_im f (bt (g 56 0 b)) 6 q (fun j hj => by have := (hf j (by omega)).1; omega) (fun j j' h1 h2 h3 => by
    refine md_inj (w := w) (i := i) (by omega) (by omega) ?_
    refine hLe.2.2.1 _ _ (Nat.mod_lt _ hw) (Nat.mod_lt _ hw) ?_
    rw [(hf j (by omega)).2, (hf j' (by omega)).2, h3])]
  refine congrArg nI (ct_c 6 0 (fun k _ hk => ?_))
  rw [bt_ad (hLw i hi).1 hR (by omega), (hLw i hi).2 k (by omega), h56]
  unfold inW
  refine and_congr ⟨fun z => ?_, fun z => ?_⟩ Iff.rfl
  · obtain ⟨j, h1, h2⟩ := z
    refine ⟨j, h1, ?_⟩
    rw [(hf j (by omega)).2] at h2
    have := (hf j (by omega)).1
    exact (iI_eq (by omega) (by omega)).mp h2
  · obtain ⟨j, h1, h2⟩ := z
    exact ⟨j, h1, by rw [(hf j (by omega)).2, h2]⟩
theorem en_e {N w q a l b : Nat} {g : mG} (hp : pr N w q a) (hP : rP N w q a g) (hLe : rLe N w l g) (hLw : rLw w q l g) (hR : m6 (g 28 b 6)) (h56 : g 28 b 6 = g 56 0 b) : ∀ (n i : Nat), i + n = w → F46 b l g n i = F113 b l w q g n i := by
  obtain ⟨p1, p2, p3, p4, p5, p6, p7, p8, p9⟩ := hp
  obtain ⟨r1, r2, r3, r4, r5, r6, r7⟩ := hP
  intro n
  induction n with
  | zero => exact fun _ _ => rfl
  | succ n ih =>
    intro i hi
    show (if g 64 0 1 - g 64 0 2 + 1 ≤ bc (g 12 l i &&& g 28 b 6) then F46 b l g n (i + 1) else false) = (if g 65 0 3 - g 65 0 4 + 1 ≤ F113a b l w i g q 0 0 then F113 b l w q g n (i + 1) else false)
    rw [r2, r3, r6, r7, en_c p2 (by omega) p7 (by omega) hLe hLw hR h56, ih (i + 1) (by omega)]
/-- found -/
theorem fo_e {b ph l : Nat} {g : mG} (h : rBr b ph l g) : F114a b g 6 0 0 = F7a b g 6 0 0 := by
  obtain ⟨h1, h2, h3, h4⟩ := h
  have : ∀ (d k : Nat) (a : Int32), k + d = 6 → F114a b g d k a = F7a b g d k a := by
    intro d
    induction d with
    | zero => exact fun _ _ _ => rfl
    | succ d ih =>
      intro k a hk
      show F114a b g d (k + 1) (a ||| (if bt (g 56 0 b) k then g 57 0 (6 * b + k) else 0)) = F7a b g d (k + 1) (a ||| g 4 b k)
      rw [ih (k + 1) _ (by omega), ← h1]
      obtain ⟨a1, _, _, _, a5, _⟩ := h4 k (by omega)
      by_cases q : bt (g 28 b 6) k
      · rw [if_pos q, a1]
      · rw [if_neg q, a5 q]
  exact this 6 0 0 rfl
theorem cF_e {b ph l : Nat} {g : mG} (h : rBr b ph l g) : F7b (F114a b g 6 0 0) 6 0 = cF b g := by
  rw [fo_e h]
  rfl
/-- safe -/
theorem F13_s (b e : Nat) (g : mG) : ∀ (d k c : Nat), F13 b e g d k (nI c) = nI (c + ct (fun k => bt (g 5 b k) e) d k) := by
  intro d
  induction d with
  | zero => exact fun _ _ => rfl
  | succ d ih =>
    intro k c
    show F13 b e g d (k + 1) (if bt (g 5 b k) e then nI c + 1 else nI c) = _
    by_cases q : bt (g 5 b k) e
    · rw [if_pos q, iI_s, ih, ct_s, ci_t q, Nat.add_assoc]
    · rw [if_neg q, ih, ct_s, ci_f q, Nat.zero_add]
theorem F117a_s (b l w q e : Nat) (g : mG) (he : e < 6) (h5 : ∀ k, k < 6 → g 5 b k = g 57 0 (6 * b + k) ||| g 58 0 (6 * b + k) ∧ m6 (g 5 b k)) : ∀ (d k c : Nat), k + d ≤ 6 → F117a b l w q e g d k (nI c) = nI (c + ct (fun k => inW w q l e k g ∧ bt (g 5 b k) e) d k) := by
  intro d
  induction d with
  | zero => exact fun _ _ _ => rfl
  | succ d ih =>
    intro k c hk
    show F117a b l w q e g d (k + 1) (nI c + (if F111 l (e % w) w (nI k) g q 0 0 = 0 then 0 else ((g 57 0 (6 * b + k) ||| g 58 0 (6 * b + k)) >>> (nI e &&& 31) &&& 1))) = _
    obtain ⟨e1, e2⟩ := h5 k (by omega)
    by_cases z : F111 l (e % w) w (nI k) g q 0 0 = 0
    · rw [if_pos z, Int32.add_zero, ih (k + 1) c (by omega), ct_s, ci_f (fun y => wr_z.mp z y.1), Nat.zero_add]
    · rw [if_neg z, ← e1, bt_v e2 (by omega), iI_add, ih (k + 1) _ (by omega), ct_s, Nat.add_assoc]
      have : inW w q l e k g := Classical.byContradiction (fun y => z (wr_z.mpr y))
      rw [ci_c (p := bt (g 5 b k) e) (p' := inW w q l e k g ∧ bt (g 5 b k) e) ⟨fun y => ⟨this, y⟩, fun y => y.2⟩]
theorem inW_lt {N w q l e k : Nat} {g : mG} (hN : N ≤ 6) (hw : 0 < w) (hLe : rLe N w l g) (hk : k < 6) (h : inW w q l e k g) : k < N := by
  obtain ⟨i, _, h2⟩ := h
  obtain ⟨k', h3, _, h5⟩ := hLe.2.1 ((e + i) % w) (Nat.mod_lt _ hw)
  rw [h5] at h2
  have := (iI_eq (a := k') (b := k) (by omega) (by omega)).mp h2
  omega
theorem sa_c {N w q a l b ph e : Nat} {g : mG} (hp : pr N w q a) (he : e < 6) (hLe : rLe N w l g) (hLw : rLw w q l g) (hB : rBr b ph l g) : F13 b e g 6 0 0 = F117a b l w q e g N 0 0 := by
  obtain ⟨p1, p2, p3, p4, p5, p6, p7, p8, p9⟩ := hp
  obtain ⟨b1, b2, b3, b4⟩ := hB
  have h5 : ∀ k, k < 6 → g 5 b k = g 57 0 (6 * b + k) ||| g 58 0 (6 * b + k) ∧ m6 (g 5 b k) := by
    intro k hk
    obtain ⟨c1, c2, c3, c4, _⟩ := b4 k hk
    exact ⟨c4, by rw [c4, ← c1]; exact m6_or c2 c3⟩
  have hin : ∀ k, k < 6 → bt (g 5 b k) e → inW w q l e k g := fun k hk z => ((hLw e he).2 k hk).mp (((b4 k hk).2.2.2.2.2.2 e he z).1)
  rw [show (0 : Int32) = nI 0 from rfl, F13_s, F117a_s b l w q e g he h5 N 0 0 (by omega)]
  refine congrArg nI ?_
  rw [Nat.zero_add, Nat.zero_add]
  have h6 : 6 = N + (6 - N) := by omega
  have sp : ∀ (p : Nat → Prop) (d1 d2 k : Nat), ct p (d1 + d2) k = ct p d1 k + ct p d2 (k + d1) := by
    intro p d1
    induction d1 with
    | zero => intro d2 k; rw [Nat.zero_add]; show _ = 0 + _; rw [Nat.zero_add]; rfl
    | succ d1 ih =>
      intro d2 k
      rw [show d1 + 1 + d2 = (d1 + d2) + 1 by omega, ct_s, ct_s, ih, show k + 1 + d1 = k + (d1 + 1) by omega, Nat.add_assoc]
  rw [h6, sp, ct_0 (6 - N) (0 + N) (fun k h1 h2 z => by
    have := inW_lt p2 (by omega) hLe (by omega) (hin k (by omega) z)
    omega), Nat.add_zero]
  exact ct_c N 0 (fun k _ hk => ⟨fun z => ⟨hin k (by omega) z, z⟩, fun z => z.2⟩)
theorem sa_e {N w q a l b ph : Nat} {g : mG} (hp : pr N w q a) (hP : rP N w q a g) (hLe : rLe N w l g) (hLw : rLw w q l g) (hB : rBr b ph l g) : ∀ (d e : Nat), e + d ≤ 6 → F69 b g d e = F117 N b l w q g d e := by
  intro d
  induction d with
  | zero => exact fun _ _ => rfl
  | succ d ih =>
    intro e he
    show (if g 64 0 2 ≤ F13 b e g 6 0 0 then F69 b g d (e + 1) else false) = (if g 65 0 4 ≤ F117a b l w q e g N 0 0 then F117 N b l w q g d (e + 1) else false)
    rw [hP.2.2.1, hP.2.2.2.2.2.2, sa_c hp (by omega) hLe hLw hB, ih (e + 1) (by omega)]
