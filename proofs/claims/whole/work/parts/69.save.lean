/-! save -/
theorem gW_c {b f i j : Nat} {X Y : mG} (h : X f i j = Y f i j) (h5 : X 65 0 5 = Y 65 0 5) : gW b X f i j = gW b Y f i j := by
  unfold gW gu
  rw [h, h5]
section O5
variable {N w q a V n z M : Nat} {g : mG} (L : Nat)
/-- saved masks alone -/
theorem Rel_S {g' : mG} (h : out [22, 40] g g') (hd : ∀ d l, d < 6 → l < 10 → g' 22 (2 + d) l = g 22 (2 + d) l) (hn : ∀ t, t < 2 → rV t g') (r : Rel N w q a V n z M g) : Rel N w q a V n z M g' := by
  obtain ⟨a1, a2, a3, a4, a5, a6, a7, a8, a9, a10⟩ := r
  have s5 : ∀ js : List Nat, ago js g g' := fun js j _ => h 65 (by decide) 0 j
  exact ⟨rP_c (ag_o h (by decide)) (s5 _) a1, rM_c (ag_o h (by decide)) (s5 _) a2, rLL_c (ag_o h (by decide)) a3, rS_c (ag_o h (by decide)) (s5 _) a4, rH_c (ag_o h (by decide)) a5, fun k hk => ⟨rKu_a (ag_o h (by decide)) (a6 k hk).1, rKh_a (ag_o h (by decide)) (a6 k hk).2⟩, fun b hb => rB_a (ag_o h (by decide)) (h 65 (by decide) 0 4) (a7 b hb), rW_c (ag_o h (by decide)) (s5 _) a8, fun d hd' => rD_c (h 7 (by decide) d) (fun _ _ => h 9 (by decide) d _) (fun _ _ => h 61 (by decide) 0 _) (h 62 (by decide) 0 d) (fun l hl => hd d l hd' hl) (fun _ _ => h 59 (by decide) 0 _) (fun _ _ => h 10 (by decide) d _) (fun _ _ => h 60 (by decide) 0 _) (a9 d hd'), hn⟩
theorem nxt_V {g' : mG} {n' z' M' : Nat} (r : Rel N w q a (V + 1) n' z' M' g') (hn : n' ≤ 10) (hz : z' ≤ n') (hM : M' ≤ 60) (h0 : ∀ j, g' 0 0 j = g 0 0 j) : nxt N w q a V g g' := ⟨⟨V + 1, n', z', M', Nat.le_refl _, hn, hz, hM, r⟩, h0⟩
theorem op_89 (hb : nb V n z M) (r : Rel N w q a V n z M g) (b : Int32) : opI N L 89 134 [.inl b] (cd 162) (nxt N w q a V g) g := by
  by_cases h : ¬ b < 0 ∧ ¬ 3 ≤ b
  · obtain ⟨b', hb', rfl⟩ := inr_of (n := 3) (by decide) h
    have wk := wk_z hb' r
    by_cases p : g 28 b' 1 = 0
    · exact Or.inr ⟨31, 0, g, _, by decide, fun c s x o => m_89s N L c s x o b' hb' g p, fun c s x o => m_134s N L c s x o b' hb' g (fun y => wk.mp y p), fun _ => rfl, gu_same _ _ _ _ _, nxt_00 hb r⟩
    by_cases hv : g 23 0 0 ≤ g 28 b' 2
    · have m8 : ∀ d l, d < 6 → l < 10 → m6 (g 22 (2 + d) l) := fun d l hd hl => ((r.2.2.2.2.2.2.2.2.1 d hd).2.1 l hl).1
      have m0 : ∀ t l, t < 2 → l < 10 → m6 (g 22 t l) := fun t l ht hl => ((r.2.2.2.2.2.2.2.2.2 t ht) l hl).1
      have e59 : ∀ t l e, t < 2 → l < 10 → e < 8 → g 59 0 (160 * b' + (80 * t + 8 * l + e)) = bI (bt (g 22 (2 + (2 * b' + t)) l) e) := fun t l e ht hl he => by
        have := ((r.2.2.2.2.2.2.2.2.1 (2 * b' + t) (by omega)).2.1 l hl).2 e he
        rw [show 160 * b' + (80 * t + 8 * l + e) = 80 * (2 * b' + t) + 8 * l + e by omega]
        exact this
      have e40 : ∀ t l e, t < 2 → l < 10 → e < 8 → g 40 0 (80 * t + 8 * l + e) = bI (bt (g 22 t l) e) := fun t l e ht hl he => ((r.2.2.2.2.2.2.2.2.2 t ht) l hl).2 e he
      have v22 : ∀ i j, gV b' g 22 i j = g 22 i j := fun i j => by unfold gV; rw [gu_f _ _ _ _ _ _ _ _ (by decide), gu_f _ _ _ _ _ _ _ _ (by decide)]
      have kA : ∀ f i j, ¬ f = 22 → (F33 1 (2 + (2 * b' + 1)) 10 0 0 (F33 0 (2 + (2 * b' + 0)) 10 0 0 (gV b' g)).2).2 f i j = gV b' g f i j := fun f i j hf => by rw [F33_f _ _ _ _ _ hf, F33_f _ _ _ _ _ hf]
      have k22 : ∀ i j, j < 10 → (F33 1 (2 + (2 * b' + 1)) 10 0 0 (F33 0 (2 + (2 * b' + 0)) 10 0 0 (gV b' g)).2).2 22 i j = if i < 2 then g 22 i j ||| g 22 (2 + (2 * b' + i)) j else g 22 i j := fun i j hj => by
        rw [F33_v 1 _ j (by omega), F33_v 0 _ j (by omega), F33_v 0 _ j (by omega), F33_v 0 _ j (by omega), v22, v22, v22, v22, v22]
        by_cases e1 : i = 1
        · subst e1
          rw [if_pos ⟨rfl, by omega, by omega⟩, if_neg (by omega), if_neg (by omega), if_pos (by omega)]
        · rw [if_neg (fun y => e1 y.1)]
          by_cases e0 : i = 0
          · subst e0
            rw [if_pos ⟨rfl, by omega, by omega⟩, if_pos (by omega)]
          · rw [if_neg (fun y => e0 y.1), if_neg (by omega)]
      have n0 : (F33 0 (2 + (2 * b' + 0)) 10 0 0 (gV b' g)).1 = nI (sm (fun l => ct (fun x => bt (g 22 (2 + (2 * b' + 0)) l) x ∧ ¬ bt (g 22 0 l) x) 6 0) 10 0) := by
        have := F33_n 0 (2 + (2 * b' + 0)) (by omega) 10 0 0 (gV b' g) (by omega) (fun l hl => by rw [v22, v22]; exact ⟨m0 0 l (by omega) hl, m8 _ l (by omega) hl⟩)
        rw [Nat.zero_add] at this
        refine Eq.trans this (congrArg nI (sm_c 10 0 (fun l _ _ => ?_)))
        rw [v22, v22]
      have n1 : (F33 1 (2 + (2 * b' + 1)) 10 0 0 (F33 0 (2 + (2 * b' + 0)) 10 0 0 (gV b' g)).2).1 = nI (sm (fun l => ct (fun x => bt (g 22 (2 + (2 * b' + 1)) l) x ∧ ¬ bt (g 22 1 l) x) 6 0) 10 0) := by
        have q2 : ∀ j, (F33 0 (2 + (2 * b' + 0)) 10 0 0 (gV b' g)).2 22 1 j = g 22 1 j := fun j => by rw [F33_v 0 _ j (by omega), if_neg (by omega), v22]
        have q3 : ∀ j, (F33 0 (2 + (2 * b' + 0)) 10 0 0 (gV b' g)).2 22 (2 + (2 * b' + 1)) j = g 22 (2 + (2 * b' + 1)) j := fun j => by rw [F33_v 0 _ j (by omega), if_neg (by omega), v22]
        have := F33_n 1 (2 + (2 * b' + 1)) (by omega) 10 0 0 (F33 0 (2 + (2 * b' + 0)) 10 0 0 (gV b' g)).2 (by omega) (fun l hl => by rw [q2, q3]; exact ⟨m0 1 l (by omega) hl, m8 _ l (by omega) hl⟩)
        rw [Nat.zero_add] at this
        refine Eq.trans this (congrArg nI (sm_c 10 0 (fun l _ _ => ?_)))
        rw [q2, q3]
      have kB : ∀ f i j, ¬ f = 22 → ¬ f = 40 → (F134 b' 160 0 0 (gW b' (gu (F33 1 (2 + (2 * b' + 1)) 10 0 0 (F33 0 (2 + (2 * b' + 0)) 10 0 0 (gV b' g)).2).2 65 0 0 0))).2 f i j = gVW b' g f i j := fun f i j h1 h2 => by
        rw [F134_f _ _ _ _ h2]
        unfold gVW
        refine gW_c ?_ ?_
        · by_cases e : f = 65
          · unfold gu; rw [kA f i j h1]
          · rw [gu_f _ _ _ _ _ _ _ _ e, gu_f _ _ _ _ _ _ _ _ e, kA f i j h1]
        · rw [gu_k _ _ _ _ _ _ (by decide), gu_k _ _ _ _ _ _ (by decide), kA 65 0 5 (by decide)]
      have kC : ∀ f i j, f = 40 ∨ f = 59 → gW b' (gu (F33 1 (2 + (2 * b' + 1)) 10 0 0 (F33 0 (2 + (2 * b' + 0)) 10 0 0 (gV b' g)).2).2 65 0 0 0) f i j = g f i j := fun f i j hf => by
        rw [gW_f _ _ _ _ _ (by omega) (by omega), gu_f _ _ _ _ _ _ _ _ (by omega), kA f i j (by omega)]
        unfold gV
        rw [gu_f _ _ _ _ _ _ _ _ (by omega), gu_f _ _ _ _ _ _ _ _ (by omega)]
      have k40 : ∀ j, j < 160 → (F134 b' 160 0 0 (gW b' (gu (F33 1 (2 + (2 * b' + 1)) 10 0 0 (F33 0 (2 + (2 * b' + 0)) 10 0 0 (gV b' g)).2).2 65 0 0 0))).2 40 0 j = bI (¬ g 40 0 j = 0 ∨ ¬ g 59 0 (160 * b' + j) = 0) := fun j hj => by
        rw [F134_v, if_pos (by omega), kC 40 0 _ (Or.inl rfl), kC 59 0 _ (Or.inr rfl)]
      have kD : ∀ i j, (F134 b' 160 0 0 (gW b' (gu (F33 1 (2 + (2 * b' + 1)) 10 0 0 (F33 0 (2 + (2 * b' + 0)) 10 0 0 (gV b' g)).2).2 65 0 0 0))).2 22 i j = (F33 1 (2 + (2 * b' + 1)) 10 0 0 (F33 0 (2 + (2 * b' + 0)) 10 0 0 (gV b' g)).2).2 22 i j := fun i j => by
        rw [F134_f _ _ _ _ (by decide), gW_f _ _ _ _ _ (by omega) (by decide), gu_f _ _ _ _ _ _ _ _ (by decide)]
      have nM : (F134 b' 160 0 0 (gW b' (gu (F33 1 (2 + (2 * b' + 1)) 10 0 0 (F33 0 (2 + (2 * b' + 0)) 10 0 0 (gV b' g)).2).2 65 0 0 0))).1 = nI (sm (fun l => ct (fun x => bt (g 22 (2 + (2 * b' + 0)) l) x ∧ ¬ bt (g 22 0 l) x) 6 0) 10 0 + sm (fun l => ct (fun x => bt (g 22 (2 + (2 * b' + 1)) l) x ∧ ¬ bt (g 22 1 l) x) 6 0) 10 0) := by
        have := F134_n b' 160 0 0 (gW b' (gu (F33 1 (2 + (2 * b' + 1)) 10 0 0 (F33 0 (2 + (2 * b' + 0)) 10 0 0 (gV b' g)).2).2 65 0 0 0))
        refine Eq.trans this (congrArg nI ?_)
        rw [Nat.zero_add, ct_c 160 0 (p' := fun k => ¬ g 59 0 (160 * b' + k) = 0 ∧ g 40 0 k = 0) (fun k _ _ => by rw [kC 59 0 _ (Or.inr rfl), kC 40 0 _ (Or.inl rfl)]), show 160 = 80 + 80 by rfl, ct_sp]
        have part : ∀ t, t < 2 → ct (fun k => ¬ g 59 0 (160 * b' + k) = 0 ∧ g 40 0 k = 0) 80 (80 * t) = sm (fun l => ct (fun x => bt (g 22 (2 + (2 * b' + t)) l) x ∧ ¬ bt (g 22 t l) x) 6 0) 10 0 := by
          intro t ht
          have s8 := ct_80 (fun k => ¬ g 59 0 (160 * b' + k) = 0 ∧ g 40 0 k = 0) (80 * t) 10 0
          refine Eq.trans s8 (sm_c 10 0 (fun l _ hl => ?_))
          have hl' : l < 10 := by omega
          rw [ct_c 8 0 (p' := fun x => bt (g 22 (2 + (2 * b' + t)) l) x ∧ ¬ bt (g 22 t l) x) (fun e _ he => by
            rw [e59 t l e ht hl' (by omega), e40 t l e ht hl' (by omega), bI_0, bI_0, Classical.not_not])]
          exact ct_86 _ (fun e h6 h8 y => bt_hi (m8 _ l (by omega) hl') h8 h6 y.1)
        have p0 := part 0 (by decide)
        have p1 := part 1 (by decide)
        rw [Nat.mul_zero] at p0
        rw [Nat.mul_one] at p1
        rw [p0, Nat.zero_add, p1]
      refine Or.inl ⟨_, _, (F134 b' 160 0 0 (gW b' (gu (F33 1 (2 + (2 * b' + 1)) 10 0 0 (F33 0 (2 + (2 * b' + 0)) 10 0 0 (gV b' g)).2).2 65 0 0 0))).2, fun c s x o => m_89 N L c s x o b' hb' g p hv, fun c s x o => ?_, fun j => ?_, ?_, ?_⟩
      · rw [m_134 N L c s x o b' hb' _ ?_ ?_, nM, n0, n1, show (0 : Int32) = nI 0 from rfl, iI_add, iI_add, Nat.zero_add]
        · rw [kA 50 0 b' (by decide), kA 51 0 b' (by decide)]
          unfold gV
          rw [gu_f _ _ _ _ _ _ _ _ (by decide), gu_f _ _ _ _ _ _ _ _ (by decide), gu_f _ _ _ _ _ _ _ _ (by decide), gu_f _ _ _ _ _ _ _ _ (by decide)]
          exact wk.mpr p
        · rw [kA 65 0 5 (by decide), kA 52 0 b' (by decide)]
          unfold gV
          rw [gu_f _ _ _ _ _ _ _ _ (by decide), gu_f _ _ _ _ _ _ _ _ (by decide), gu_f _ _ _ _ _ _ _ _ (by decide), gu_f _ _ _ _ _ _ _ _ (by decide)]
          exact (v_m hb' r).mpr hv
      · rw [kA 0 0 j (by decide)]
        unfold gV
        rw [gu_f _ _ _ _ _ _ _ _ (by decide), gu_f _ _ _ _ _ _ _ _ (by decide)]
      · rw [kB 65 0 0 (by decide) (by decide)]
        unfold gVW
        rw [gW_f _ _ _ _ _ (by decide) (by decide), gu_same]
      · refine nxt_V (Rel_S (g := gVW b' g) (fun f hf i j => kB f i j (fun y => hf (by rw [y]; decide)) (fun y => hf (by rw [y]; decide))) (fun d l hd hl => ?_) (fun t ht l hl => ⟨?_, fun e he => ?_⟩) (Rel_VW hb' hb r hv)) hb.2.1 hb.2.2.1 hb.2.2.2 (fun j => ?_)
        · rw [kD, k22 _ l hl, if_neg (by omega), gVW_f (by decide) (by decide) (by decide) (by decide)]
        · rw [kD, k22 _ l hl, if_pos ht]
          exact m6_or (m0 t l ht hl) (m8 _ l (by omega) hl)
        · rw [kD, k22 _ l hl, if_pos ht, k40 _ (by omega), e59 t l e ht hl he, e40 t l e ht hl he]
          refine bI_c ?_
          rw [bI_0, bI_0, Classical.not_not, Classical.not_not]
          exact (bt_or (m0 t l ht hl) (m8 _ l (by omega) hl) he).symm
        · rw [kB 0 0 j (by decide) (by decide), gVW_f (by decide) (by decide) (by decide) (by decide)]
    · have f9 : ∀ f i j, ¬ f ∈ [28, 3, 4, 5, 7, 22, 10] → F8 b' g f i j = g f i j := fun f i j hf => F8_9 b' f i j g hf
      refine Or.inr ⟨33, 0, F8 b' g, _, by decide, fun c s x o => m_89u N L c s x o b' hb' g p hv, fun c s x o => m_134u N L c s x o b' hb' _ ?_ ?_, fun j => f9 0 0 j (by decide), gu_same _ _ _ _ _, nxt_lv hb' hb r⟩
      · rw [f9 50 0 b' (by decide), f9 51 0 b' (by decide)]; exact wk.mpr p
      · rw [f9 65 0 5 (by decide), f9 52 0 b' (by decide)]; exact fun y => hv ((v_m hb' r).mp y)
  · exact Or.inr ⟨30, 0, g, _, by decide, fun c s x o => m_89a N L c s x o b h g, fun c s x o => m_134a N L c s x o b g (fun k => h ((i_b3 b).mp k)), fun _ => rfl, gu_same _ _ _ _ _, nxt_00 hb r⟩
end O5
