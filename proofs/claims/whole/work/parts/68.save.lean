/-! a change of the metadata; save; own -/
noncomputable def sm (f : Nat → Nat) : Nat → Nat → Nat
  | 0, _ => 0
  | d + 1, k => f k + sm f d (k + 1)
theorem sm_s (f : Nat → Nat) (d k : Nat) : sm f (d + 1) k = f k + sm f d (k + 1) := rfl
theorem sm_c {f f' : Nat → Nat} : ∀ (d k : Nat), (∀ j, k ≤ j → j < k + d → f j = f' j) → sm f d k = sm f' d k := by
  intro d
  induction d with
  | zero => exact fun _ _ => rfl
  | succ d ih =>
    intro k h
    rw [sm_s, sm_s, h k (by omega) (by omega), ih (k + 1) (fun j h1 h2 => h j (by omega) (by omega))]
theorem ct_sp (p : Nat → Prop) : ∀ (d1 d2 k : Nat), ct p (d1 + d2) k = ct p d1 k + ct p d2 (k + d1) := by
  intro d1
  induction d1 with
  | zero => intro d2 k; rw [Nat.zero_add]; show _ = 0 + _; rw [Nat.zero_add]; rfl
  | succ d1 ih =>
    intro d2 k
    rw [show d1 + 1 + d2 = (d1 + d2) + 1 by omega, ct_s, ct_s, ih, show k + 1 + d1 = k + (d1 + 1) by omega, Nat.add_assoc]
theorem ct_sh (p : Nat → Prop) : ∀ (d k j : Nat), ct p d (k + j) = ct (fun e => p (k + e)) d j := by
  intro d
  induction d with
  | zero => exact fun _ _ => rfl
  | succ d ih =>
    intro k j
    rw [ct_s, ct_s, show k + j + 1 = k + (j + 1) by omega, ih]
/-- eighty positions by ledgers -/
theorem ct_80 (p : Nat → Prop) (k : Nat) : ∀ (m l : Nat), ct p (8 * m) (k + 8 * l) = sm (fun l => ct (fun e => p (k + 8 * l + e)) 8 0) m l := by
  intro m
  induction m with
  | zero => exact fun _ => rfl
  | succ m ih =>
    intro l
    rw [show 8 * (m + 1) = 8 + 8 * m by omega, ct_sp, sm_s, show k + 8 * l + 8 = k + 8 * (l + 1) by omega, ih (l + 1)]
    have := ct_sh p 8 (k + 8 * l) 0
    rw [Nat.add_zero] at this
    rw [this]
theorem ct_86 (p : Nat → Prop) (h : ∀ e, 6 ≤ e → e < 8 → ¬ p e) : ct p 8 0 = ct p 6 0 := by
  rw [show 8 = 6 + 2 by rfl, ct_sp, ct_0 2 (0 + 6) (fun j h1 h2 => h j (by omega) (by omega)), Nat.add_zero]
/-- include -/
theorem F33_v (w w2 j : Nat) (hw : ¬ w = w2) : ∀ (d e : Nat) (a : Int32) (i : Nat) (g : mG), (F33 w w2 d e a g).2 22 i j = if i = w ∧ e ≤ j ∧ j < e + d then g 22 w j ||| g 22 w2 j else g 22 i j := by
  intro d
  induction d with
  | zero => intro e a i g; rw [if_neg (by omega)]; rfl
  | succ d ih =>
    intro e a i g
    show (F33 w w2 d (e + 1) _ (gu g 22 w e (g 22 w e ||| g 22 w2 e))).2 22 i j = _
    rw [ih (e + 1)]
    have e2 : gu g 22 w e (g 22 w e ||| g 22 w2 e) 22 w2 j = g 22 w2 j := gu_ne _ _ _ _ _ _ _ _ (fun y => hw y.2.1.symm)
    rw [e2]
    by_cases h1 : i = w ∧ e + 1 ≤ j ∧ j < e + 1 + d
    · rw [if_pos h1, if_pos ⟨h1.1, by omega, by omega⟩, gu_k _ _ _ _ _ _ (by omega)]
    · rw [if_neg h1]
      by_cases h2 : i = w ∧ j = e
      · obtain ⟨rfl, rfl⟩ := h2
        rw [gu_same, if_pos ⟨rfl, by omega, by omega⟩]
      · rw [gu_ne _ _ _ _ _ _ _ _ (fun y => h2 ⟨y.2.1, y.2.2⟩), if_neg]
        intro y
        by_cases h3 : j = e
        · exact h2 ⟨y.1, h3⟩
        · exact h1 ⟨y.1, by omega, by omega⟩
theorem F33_n (w w2 : Nat) (hw : ¬ w = w2) : ∀ (d e c : Nat) (g : mG), e + d ≤ 10 → (∀ l, l < 10 → m6 (g 22 w l) ∧ m6 (g 22 w2 l)) → (F33 w w2 d e (nI c) g).1 = nI (c + sm (fun l => ct (fun x => bt (g 22 w2 l) x ∧ ¬ bt (g 22 w l) x) 6 0) d e) := by
  intro d
  induction d with
  | zero => exact fun _ _ _ _ _ => rfl
  | succ d ih =>
    intro e c g he hm
    obtain ⟨m1, m2⟩ := hm e (by omega)
    show (F33 w w2 d (e + 1) (nI c + bc (g 22 w2 e &&& (g 22 w e ^^^ (-1)))) (gu g 22 w e (g 22 w e ||| g 22 w2 e))).1 = _
    have e2 : ∀ j, gu g 22 w e (g 22 w e ||| g 22 w2 e) 22 w2 j = g 22 w2 j := fun j => gu_ne _ _ _ _ _ _ _ _ (fun y => hw y.2.1.symm)
    rw [bc_ct (m6_an m2 m1), iI_add, ih (e + 1) _ _ (by omega) (fun l hl => by
      rw [e2]
      refine ⟨?_, (hm l hl).2⟩
      by_cases y : l = e
      · rw [y, gu_same]; exact m6_or m1 m2
      · rw [gu_k _ _ _ _ _ _ y]; exact (hm l hl).1), sm_s]
    refine congrArg nI ?_
    rw [Nat.add_assoc, ct_c 6 0 (p := bt (g 22 w2 e &&& (g 22 w e ^^^ (-1)))) (p' := fun x => bt (g 22 w2 e) x ∧ ¬ bt (g 22 w e) x) (fun x _ hx => bt_an m2 m1 (by omega))]
    refine congrArg (fun y => c + (ct (fun x => bt (g 22 w2 e) x ∧ ¬ bt (g 22 w e) x) 6 0 + y)) (sm_c d (e + 1) (fun l h1 h2 => ?_))
    rw [e2, gu_k _ _ _ _ _ _ (by omega)]
theorem F134_n (b : Nat) : ∀ (d k c : Nat) (g : mG), (F134 b d k (nI c) g).1 = nI (c + ct (fun k => ¬ g 59 0 (160 * b + k) = 0 ∧ g 40 0 k = 0) d k) := by
  intro d
  induction d with
  | zero => exact fun _ _ _ => rfl
  | succ d ih =>
    intro k c g
    show (F134 b d (k + 1) (nI c + bI (¬ g 59 0 (160 * b + k) = 0 ∧ g 40 0 k = 0)) (gu g 40 0 k (bI (¬ g 40 0 k = 0 ∨ ¬ g 59 0 (160 * b + k) = 0)))).1 = _
    have e1 : bI (¬ g 59 0 (160 * b + k) = 0 ∧ g 40 0 k = 0) = nI (ci (¬ g 59 0 (160 * b + k) = 0 ∧ g 40 0 k = 0)) := by
      by_cases y : ¬ g 59 0 (160 * b + k) = 0 ∧ g 40 0 k = 0
      · rw [bI_t _ y, ci_t y]; rfl
      · rw [bI_f _ y, ci_f y]; rfl
    rw [e1, iI_add, ih, ct_s, Nat.add_assoc]
    refine congrArg (fun y => nI (c + (ci (¬ g 59 0 (160 * b + k) = 0 ∧ g 40 0 k = 0) + y))) (ct_c d (k + 1) (fun j h1 h2 => ?_))
    rw [gu_f _ _ _ _ _ _ _ _ (by decide), gu_k _ _ _ _ _ _ (by omega)]
theorem F134_f (b f i j : Nat) (hf : ¬ f = 40) : ∀ (d k : Nat) (a : Int32) (g : mG), (F134 b d k a g).2 f i j = g f i j := by
  intro d
  induction d with
  | zero => exact fun _ _ _ => rfl
  | succ d ih =>
    intro k a g
    show (F134 b d (k + 1) _ (gu g 40 0 k _)).2 f i j = _
    rw [ih, gu_f _ _ _ _ _ _ _ _ hf]
theorem F134_v (b j : Nat) : ∀ (d k : Nat) (a : Int32) (g : mG), (F134 b d k a g).2 40 0 j = if k ≤ j ∧ j < k + d then bI (¬ g 40 0 j = 0 ∨ ¬ g 59 0 (160 * b + j) = 0) else g 40 0 j := by
  intro d
  induction d with
  | zero => intro k a g; rw [if_neg (by omega)]; rfl
  | succ d ih =>
    intro k a g
    show (F134 b d (k + 1) _ (gu g 40 0 k (bI (¬ g 40 0 k = 0 ∨ ¬ g 59 0 (160 * b + k) = 0)))).2 40 0 j = _
    rw [ih (k + 1), gu_f _ _ _ _ 59 0 _ _ (by decide)]
    by_cases h1 : j = k
    · subst h1
      rw [if_neg (by omega), gu_same, if_pos (by omega)]
    · rw [gu_k _ _ _ _ _ _ h1]
      by_cases h2 : k + 1 ≤ j ∧ j < k + 1 + d
      · rw [if_pos h2, if_pos (by omega)]
      · rw [if_neg h2, if_neg (by omega)]
section O4
variable {N w q a V n z M : Nat} {g : mG} (L : Nat)
/-- the version of the metadata and of broker b -/
theorem v_eq {b : Nat} (hbb : b < 3) (hb : nb V n z M) (r : Rel N w q a V n z M g) (hv : g 23 0 0 ≤ g 28 b 2) : g 28 b 2 = nI V := by
  obtain ⟨ph, l, v, e, c1, _, _⟩ := r.2.2.2.2.2.2.1 b hbb
  have h1 := c1.2.2.1
  have h2 := c1.2.2.2.2.2.2.2.2.1
  have h3 := hb.1
  rw [r.2.1.1, h2, iI_le (by omega) (by omega)] at hv
  rw [h2]
  exact congrArg nI (by omega)
theorem v_m {b : Nat} (hbb : b < 3) (r : Rel N w q a V n z M g) : (g 65 0 5 ≤ g 52 0 b) ↔ (g 23 0 0 ≤ g 28 b 2) := by
  obtain ⟨ph, l, v, e, c1, _, _⟩ := r.2.2.2.2.2.2.1 b hbb
  rw [r.2.1.1, r.2.1.2.1, c1.2.2.2.2.2.2.2.2.1, c1.2.2.2.2.2.2.2.2.2.1]
theorem Rel_V {b : Nat} {g' : mG} (hbb : b < 3) (hV : V ≤ 600) (hcur : g 52 0 b = g 65 0 5) (h : out [23, 28, 52, 65, 63, 0] g g') (h23 : g' 23 0 0 = nI (V + 1) ∧ ∀ j, ¬ j = 0 → g' 23 0 j = g 23 0 j) (h28 : g' 28 b 2 = nI (V + 1) ∧ ∀ b' j, ¬ (b' = b ∧ j = 2) → g' 28 b' j = g 28 b' j) (h52 : g' 52 0 b = nI (V + 1) ∧ ∀ b', ¬ b' = b → g' 52 0 b' = g 52 0 b') (h5 : g' 65 0 5 = nI (V + 1) ∧ ago [1, 2, 3, 4, 6, 7, 8, 14] g g') (r : Rel N w q a V n z M g) : Rel N w q a (V + 1) n z M g' := by
  obtain ⟨a1, a2, a3, a4, a5, a6, a7, a8, a9, a10⟩ := r
  have s5 : ∀ js : List Nat, (∀ j, j ∈ js → j ∈ [1, 2, 3, 4, 6, 7, 8, 14]) → ago js g g' := fun js hs j hj => h5.2 j (hs j hj)
  refine ⟨rP_c (ag_o h (by decide)) (s5 _ (by decide)) a1, ⟨h23.1, h5.1, ?_, ?_, ?_, ?_, ?_⟩, rLL_c (ag_o h (by decide)) a3, rS_c (ag_o h (by decide)) (s5 _ (by decide)) a4, rH_c (ag_o h (by decide)) a5, fun k hk => ⟨rKu_a (ag_o h (by decide)) (a6 k hk).1, rKh_a (ag_o h (by decide)) (a6 k hk).2⟩, fun b' hb' => ?_, ⟨?_, fun x hx hc => ?_⟩, fun d hd => rD_a (ag_o h (by decide)) (a9 d hd), fun t ht => rV_a (ag_o h (by decide)) (a10 t ht)⟩
  · rw [h23.2 1 (by decide), h5.2 6 (by decide)]; exact a2.2.2.1
  · rw [h23.2 2 (by decide)]; exact a2.2.2.2.1
  · rw [h5.2 7 (by decide)]; exact a2.2.2.2.2.1
  · rw [h23.2 3 (by decide)]; exact a2.2.2.2.2.2.1
  · rw [h5.2 8 (by decide)]; exact a2.2.2.2.2.2.2
  · by_cases e : b' = b
    · subst e
      obtain ⟨ph, l, v, e, ⟨c1, c2, c3, c4, c5, c6, c7, c8, c9, c10, c11, c12, c13⟩, k2, k3⟩ := a7 b' hb'
      have f : ∀ j, ¬ j = 2 → g' 28 b' j = g 28 b' j := fun j hj => h28.2 b' j (fun y => hj y.2)
      have fo : ∀ x, ¬ x ∈ [23, 28, 52, 65, 63, 0] → ∀ i j, g' x i j = g x i j := h
      refine ⟨ph, l, V + 1, e, ⟨c1, c2, Nat.le_refl _, ?_, ?_, ?_, ?_, ?_, h28.1, h52.1, ?_, ?_, ?_⟩, ?_, ?_⟩
      · rw [f 0 (by decide)]; exact c4
      · rw [f 0 (by decide), fo 50 (by decide)]; exact c5
      · rw [f 0 (by decide)]; exact c6
      · rw [f 1 (by decide)]; exact c7
      · rw [fo 51 (by decide)]; exact c8
      · rw [fo 53 (by decide)]; exact c11
      · rw [f 3 (by decide)]; exact c12
      · rw [f 3 (by decide)]; exact c13
      · obtain ⟨w1, w2, w3, w4, w5, w6, w7⟩ := k2
        refine ⟨w1, (f 4 (by decide)).trans w2, (fo 54 (by decide) _ _).trans w3, w4, ?_, ?_, ?_⟩
        · rw [f 5 (by decide), F106_g b' g g' (h5.2 4 (by decide)) (fun i _ => fo 55 (by decide) _ _) e 0 (by omega)]; exact w5
        · intro i hi
          rw [fo 3 (by decide), fo 55 (by decide)]; exact w6 i hi
        · intro hp i hi
          rw [fo 17 (by decide)]; exact w7 hp i hi
      · obtain ⟨w1, w2, w3, w4⟩ := k3
        refine ⟨?_, ?_, ?_, fun k hk => ?_⟩
        · rw [f 6 (by decide), fo 56 (by decide)]; exact w1
        · rw [f 6 (by decide)]; exact w2
        · rw [f 6 (by decide)]; exact w3
        · simp only [f 6 (by decide), fo 4 (by decide), fo 5 (by decide), fo 57 (by decide), fo 58 (by decide), fo 12 (by decide), fo 17 (by decide)]
          exact w4 k hk
    · refine rB_up (Nat.le_refl _) (Nat.le_succ _) (rB_c (fun j => h28.2 b' j (fun y => e y.1)) (fun f hf => ?_) (fun f hf i _ => h f ((by decide : ∀ f, f ∈ [3, 4, 5] → ¬ f ∈ [23, 28, 52, 65, 63, 0]) f hf) b' i) (fun f hf i _ => h f ((by decide : ∀ f, f ∈ [55, 57, 58] → ¬ f ∈ [23, 28, 52, 65, 63, 0]) f hf) 0 _) (ag_o h (by decide)) (h5.2 4 (by decide)) (a7 b' hb'))
      by_cases e52 : f = 52
      · rw [e52]; exact h52.2 b' e
      · refine h f ?_ 0 b'
        simp at hf ⊢
        omega
  · intro x y hx hy hxy p1 p2
    rw [h 51 (by decide)] at p1 p2
    rw [h 53 (by decide), h 53 (by decide)]
    exact a8.1 x y hx hy hxy p1 p2
  · have e37 : ∀ j, g' 37 0 j = g 37 0 j := fun j => h 37 (by decide) 0 j
    rw [h 51 (by decide), h 53 (by decide), h5.2 7 (by decide)]
    simp only [e37]
    by_cases e : x = b
    · rw [e]
      exact a8.2 b hbb hcur
    · rw [h52.2 x e, h5.1] at hc
      obtain ⟨ph, l, v, e', c1, _, _⟩ := a7 x hx
      have t1 := c1.2.2.1
      rw [c1.2.2.2.2.2.2.2.2.2.1, iI_eq (by omega) (by omega)] at hc
      omega
/-- class, then model: the version alone -/
def gVW (b : Nat) (g : mG) : mG := gW b (gu (gV b g) 65 0 0 0)
theorem Rel_VW {b : Nat} (hbb : b < 3) (hb : nb V n z M) (r : Rel N w q a V n z M g) (hv : g 23 0 0 ≤ g 28 b 2) : Rel N w q a (V + 1) n z M (gVW b g) := by
  have e0 := r.2.1.1
  have e5 := r.2.1.2.1
  have e2 := v_eq hbb hb r hv
  have hcur : g 52 0 b = g 65 0 5 := by
    obtain ⟨ph, l, v, e', c1, _, _⟩ := r.2.2.2.2.2.2.1 b hbb
    rw [e5, ← e2, c1.2.2.2.2.2.2.2.2.1, c1.2.2.2.2.2.2.2.2.2.1]
  refine Rel_V hbb hb.1 hcur (fun f hf i j => ?_) ⟨?_, fun j hj => ?_⟩ ⟨?_, fun b' j hbj => ?_⟩ ⟨?_, fun b' hbj => ?_⟩ ⟨?_, fun j hj => ?_⟩ r
  · have nf : ¬ f = 23 ∧ ¬ f = 28 ∧ ¬ f = 52 ∧ ¬ f = 65 := by
      simp at hf
      omega
    unfold gVW
    rw [gW_f _ _ _ _ _ (fun y => nf.2.2.2 y.1) nf.2.2.1, gu_f _ _ _ _ _ _ _ _ nf.2.2.2]
    unfold gV
    rw [gu_f _ _ _ _ _ _ _ _ nf.2.1, gu_f _ _ _ _ _ _ _ _ nf.1]
  · simp [gVW, gW, gV, gu, e0, iI_s]
  · simp [gVW, gW, gV, gu, hj]
  · simp [gVW, gW, gV, gu, e2, iI_s]
  · simp [gVW, gW, gV, gu, hbj]
  · simp [gVW, gW, gV, gu, e5, iI_s]
  · simp [gVW, gW, gV, gu, hbj]
  · simp [gVW, gW, gV, gu, e5, iI_s]
  · simp at hj
    rcases hj with rfl | rfl | rfl | rfl | rfl | rfl | rfl | rfl <;> simp [gVW, gW, gV, gu]
theorem gVW_f {b f i j : Nat} (h1 : ¬ f = 23) (h2 : ¬ f = 28) (h3 : ¬ f = 52) (h4 : ¬ f = 65) : gVW b g f i j = g f i j := by
  unfold gVW
  rw [gW_f _ _ _ _ _ (fun y => h4 y.1) h3, gu_f _ _ _ _ _ _ _ _ h4]
  unfold gV
  rw [gu_f _ _ _ _ _ _ _ _ h2, gu_f _ _ _ _ _ _ _ _ h1]
end O4
