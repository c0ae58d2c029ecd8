/-! what is only seen: class and model answer alike -/
theorem i_le {k : Nat} (hk : k < 65535) (v : Int32) : v ≤ nI k ↔ ¬ nI (k + 1) ≤ v := by
  rw [Int32.le_iff_toInt_le, Int32.le_iff_toInt_le, show (nI k).toInt = k from Int32.toInt_ofNat_of_lt (by omega), show (nI (k + 1)).toInt = ((k + 1 : Nat) : Int) from Int32.toInt_ofNat_of_lt (by omega)]
  omega
theorem i_lt {k : Nat} (hk : k < 65535) (v : Int32) : nI k < v ↔ nI (k + 1) ≤ v := by
  rw [Int32.lt_iff_toInt_lt, Int32.le_iff_toInt_le, show (nI k).toInt = k from Int32.toInt_ofNat_of_lt (by omega), show (nI (k + 1)).toInt = ((k + 1 : Nat) : Int) from Int32.toInt_ofNat_of_lt (by omega)]
  omega
theorem i_b3 (b : Int32) : (¬ b < 0 ∧ ¬ 2 < b) ↔ (¬ b < 0 ∧ ¬ 3 ≤ b) := by
  rw [show ((2 : Int32) < b) ↔ 3 ≤ b from i_lt (k := 2) (by decide) b]
section O1
variable {N w q a V n z M : Nat} {g : mG} (L : Nat)
theorem nxt_k {g' : mG} (hb : nb V n z M) (r : Rel N w q a V n z M g') (h0 : ∀ j, g' 0 0 j = g 0 0 j) : nxt N w q a V g g' := ⟨⟨V, n, z, M, by omega, hb.2.1, hb.2.2.1, hb.2.2.2, r⟩, h0⟩
theorem nxt_0 {v : Int32} (hb : nb V n z M) (r : Rel N w q a V n z M g) : nxt N w q a V g (gu g 65 0 0 v) := nxt_k hb (Rel_0 r) (fun j => gu_f _ _ _ _ _ _ _ _ (by decide))
theorem o_37 (hb : nb V n z M) (r : Rel N w q a V n z M g) (v : Int32) : opO N L 37 141 [.inl v] (nxt N w q a V g) g := by
  refine ⟨_, _, fun c s x o => m_37 N L c s x o v g, fun c s x o => ?_, nxt_0 (v := 0) hb r⟩
  obtain ⟨a1, ⟨b1, b2, b3, b4, b5, b6, b7⟩, a3, ⟨c1, c2, c3⟩, a5⟩ := r
  rw [m_141 N L c s x o v g, b1, b2, b3, b4, b5, b6, b7, c1, c2]
theorem o_48 (hb : nb V n z M) (r : Rel N w q a V n z M g) (v : Int32) : opO N L 48 146 [.inl v] (nxt N w q a V g) g := by
  by_cases h : ¬ v < 0 ∧ ¬ 4 ≤ v
  · obtain ⟨p, hp, rfl⟩ := inr_of (n := 4) (by decide) h
    refine ⟨_, _, fun c s x o => m_48 N L c s x o p hp g, fun c s x o => ?_, nxt_0 (v := 0) hb r⟩
    rw [m_146 N L c s x o p hp g, r.2.2.2.2.1 p hp]
  · exact ⟨_, _, fun c s x o => m_48o N L c s x o v h g, fun c s x o => m_146o N L c s x o v h g, nxt_0 (v := 0) hb r⟩
theorem o_47 (hb : nb V n z M) (r : Rel N w q a V n z M g) (m v : Int32) : opO N L 47 145 [.inl m, .inl v] (nxt N w q a V g) g := by
  have hS := r.2.2.2.1
  have hM := hb.2.2.2
  by_cases h : ¬ m < 1 ∧ m ≤ g 24 0 0
  · have h' := h
    rw [hS.1] at h'
    obtain ⟨t, ht, rfl⟩ := inr_of (p := m) (n := M + 1) (by omega) ⟨fun z => h'.1 (Int32.lt_trans z (by decide)), (i_le (by omega) m).mp h'.2⟩
    have h1 : 1 ≤ t := by
      have := h'.1
      rw [show (nI t < 1) = (t < 1) from iI_lt (b := 1) (by omega) (by omega)] at this
      omega
    refine ⟨_, _, fun c s x o => m_47 N L c s x o t M ⟨h1, by omega⟩ hM v g hS.1, fun c s x o => ?_, nxt_0 (v := 0) hb r⟩
    obtain ⟨e1, e2, e3, _⟩ := hS.2.2.1 t (by omega)
    rw [m_145 N L c s x o t M ⟨h1, by omega⟩ hM v g hS.2.1, e1, e2, e3]
  · refine ⟨_, _, fun c s x o => m_47o N L c s x o m v g h, fun c s x o => m_145o N L c s x o m v g ?_, nxt_0 (v := 0) hb r⟩
    rw [hS.1] at h
    rw [hS.2.1]
    exact h
theorem st_2 {st : Nat} (h : st ≤ 2) : (nI st = 2) = (st = 2) := iI_eq (b := 2) (by omega) (by omega)
theorem o_38 (hp : pr N w q a) (hb : nb V n z M) (r : Rel N w q a V n z M g) (l v : Int32) : opO N L 38 142 [.inl l, .inl v] (nxt N w q a V g) g := by
  have hn : n ≤ 10 := hb.2.1
  have hw : w ≤ 4 := hp.2.2.2.1
  have hM := r.2.1
  have hP := r.1
  have hL := r.2.2.1.1
  by_cases h : (¬ l < 0 ∧ ¬ g 23 0 2 ≤ l) ∧ (¬ v < 0 ∧ ¬ 10 ≤ v)
  · obtain ⟨h1, h2⟩ := h
    rw [hM.2.2.2.1] at h1
    obtain ⟨l', hl, rfl⟩ := inr_of (n := n) (by omega) h1
    obtain ⟨v', hv, rfl⟩ := inr_of (n := 10) (by decide) h2
    refine ⟨_, _, fun c s x o => m_38 N L c s x o n l' v' hn hl hv g hM.2.2.2.1, fun c s x o => ?_, nxt_0 (v := 0) hb r⟩
    rw [m_142 N L c s x o n w l' v' hn hl hv hw g hM.2.2.2.2.1 hP.2.2.2.2.1]
    obtain ⟨⟨m, st, s1, s2, s3, s4, s5, s6, s7, s8⟩, ⟨e1, e2, e3, e4⟩, _⟩ := hL l' hl
    have key : (if v' = 0 then g 37 0 l' else if v' = 1 then g 38 0 l' else if v' < 6 then (if v' - 2 < w then g 36 0 (4 * l' + (v' - 2)) else -1) else if g 37 0 l' = 2 then g 39 0 (4 * l' + (v' - 6)) else 0) = (if v' = 0 then g 20 l' 0 else if v' = 1 then g 20 l' 1 else if v' < 6 then g 11 l' (v' - 2) else g 13 l' (v' - 6)) := by
      rw [s3, s4, s5, s6]
      by_cases q0 : v' = 0
      · rw [if_pos q0, if_pos q0]
      rw [if_neg q0, if_neg q0]
      by_cases q1 : v' = 1
      · rw [if_pos q1, if_pos q1]
      rw [if_neg q1, if_neg q1]
      by_cases q2 : v' < 6
      · rw [if_pos q2, if_pos q2]
        by_cases q3 : v' - 2 < w
        · rw [if_pos q3]
          obtain ⟨k, _, k1, k2⟩ := e2 (v' - 2) q3
          rw [k1, k2]
        · rw [if_neg q3, e4 (v' - 2) (by omega) (by omega)]
      · rw [if_neg q2, if_neg q2, s8 (v' - 6) (by omega)]
        by_cases h2 : st = 2
        · rw [if_pos h2, if_pos (by rw [st_2 s2]; exact h2)]
        · rw [if_neg h2, if_neg (by rw [st_2 s2]; exact h2)]
    rw [key]
  · refine ⟨_, _, fun c s x o => m_38o N L c s x o l v g h, fun c s x o => m_142o N L c s x o l v g ?_, nxt_0 (v := 0) hb r⟩
    rw [hM.2.2.2.1] at h
    rw [hM.2.2.2.2.1]
    intro z
    exact h ⟨z.1, z.2.1, (i_le (k := 9) (by decide) v).mp z.2.2⟩
theorem o_40 (hp : pr N w q a) (hb : nb V n z M) (r : Rel N w q a V n z M g) (k t : Int32) : opO N L 40 143 [.inl k, .inl t] (nxt N w q a V g) g := by
  have hN : N ≤ 6 := hp.2.1
  have g1 := r.1.2.2.2.1
  by_cases h : (¬ k < 0 ∧ ¬ nI N ≤ k) ∧ (¬ t < 0 ∧ ¬ 80 ≤ t)
  · obtain ⟨h1, h2⟩ := h
    obtain ⟨k', hk, rfl⟩ := inr_of (n := N) (by omega) h1
    obtain ⟨t', ht, rfl⟩ := inr_of (n := 80) (by decide) h2
    refine ⟨_, _, fun c s x o => m_40 N L c s x o k' t' (by omega) hk ht g, fun c s x o => ?_, nxt_0 (v := 0) hb r⟩
    rw [m_143 N L c s x o k' t' hN hk ht g g1]
    obtain ⟨_, _, hE⟩ := (r.2.2.2.2.2.1 k' hk).2 (t' / 8) (by omega)
    obtain ⟨e1, e2, e3, e4⟩ := hE (t' % 8) (by omega)
    rw [show 80 * k' + 8 * (t' / 8) + t' % 8 = 80 * k' + t' by omega] at e1 e2
    rw [show 8 * (t' / 8) + t' % 8 = t' by omega] at e1 e4
    by_cases p1 : bt (g 1 k' (t' / 8)) (t' % 8)
    · rw [if_pos p1] at e1 ⊢
      have p3 := (e4 p1).2
      rw [e1, e2, if_neg p3]
      by_cases p2 : bt (g 2 k' (t' / 8)) (t' % 8)
      · rw [if_pos p2, bI_t _ p2, if_neg (by decide), Int32.add_zero]
      · rw [if_neg p2, bI_f _ p2, if_pos rfl]
    · rw [if_neg p1] at e1 ⊢
      rw [if_pos e1]
  · exact ⟨_, _, fun c s x o => m_40o N L c s x o k t g h, fun c s x o => m_143o N L c s x o k t g g1 h, nxt_0 (v := 0) hb r⟩
theorem o_50 (hp : pr N w q a) (hb : nb V n z M) (r : Rel N w q a V n z M g) (k l : Int32) : opO N L 50 148 [.inl k, .inl l] (nxt N w q a V g) g := by
  have hN : N ≤ 6 := hp.2.1
  have g1 := r.1.2.2.2.1
  by_cases h : (¬ k < 0 ∧ ¬ nI N ≤ k) ∧ (¬ l < 0 ∧ ¬ 10 ≤ l)
  · obtain ⟨h1, h2⟩ := h
    obtain ⟨k', hk, rfl⟩ := inr_of (n := N) (by omega) h1
    obtain ⟨l', hl, rfl⟩ := inr_of (n := 10) (by decide) h2
    refine ⟨_, _, fun c s x o => m_50 N L c s x o k' l' (by omega) hk hl g, fun c s x o => ?_, nxt_0 (v := 0) hb r⟩
    rw [m_148 N L c s x o k' l' hN hk hl g g1, bI_c ((r.2.2.2.2.2.1 k' hk).1.2.2.2 l' hl).symm]
  · exact ⟨_, _, fun c s x o => m_50o N L c s x o k l h g, fun c s x o => m_148o N L c s x o k l g g1 h, nxt_0 (v := 0) hb r⟩
theorem o_49 (hb : nb V n z M) (r : Rel N w q a V n z M g) (b t p : Int32) : opO N L 49 147 [.inl b, .inl t, .inl p] (nxt N w q a V g) g := by
  by_cases h1 : ¬ t < 0 ∧ ¬ 2 ≤ t
  · obtain ⟨t', ht, rfl⟩ := inr_of (n := 2) (by decide) h1
    by_cases h2 : b = -1
    · subst h2
      by_cases h3 : ¬ p < 0 ∧ ¬ 80 ≤ p
      · obtain ⟨u, hu, rfl⟩ := inr_of (n := 80) (by decide) h3
        have e := ((r.2.2.2.2.2.2.2.2.2 t' ht) (u / 8) (by omega)).2 (u % 8) (by omega)
        rw [show 80 * t' + 8 * (u / 8) + u % 8 = 80 * t' + u by omega] at e
        refine ⟨_, _, fun c s x o => m_49s N L c s x o t' u ht hu g, fun c s x o => ?_, nxt_0 (v := 0) hb r⟩
        rw [m_147s N L c s x o t' u ht hu g (by rw [e]; exact Eq.mpr (bI_ok _) trivial), e]
      · refine ⟨_, _, fun c s x o => m_49so N L c s x o t' ht p h3 g, fun c s x o => m_147o N L c s x o (-1) (nI t') p g (fun y => h3 y.2.2), nxt_0 (v := 0) hb r⟩
    · by_cases h4 : ¬ b < 0 ∧ ¬ 3 ≤ b
      · obtain ⟨b', hb', rfl⟩ := inr_of (n := 3) (by decide) h4
        by_cases h3 : ¬ p < 0 ∧ ¬ 80 ≤ p
        · obtain ⟨u, hu, rfl⟩ := inr_of (n := 80) (by decide) h3
          have e := ((r.2.2.2.2.2.2.2.2.1 (2 * b' + t') (by omega)).2.1 (u / 8) (by omega)).2 (u % 8) (by omega)
          rw [show 80 * (2 * b' + t') + 8 * (u / 8) + u % 8 = 80 * (2 * b' + t') + u by omega] at e
          refine ⟨_, _, fun c s x o => m_49 N L c s x o b' t' u hb' ht hu g, fun c s x o => ?_, nxt_0 (v := 0) hb r⟩
          rw [m_147 N L c s x o b' t' u hb' ht hu g (by rw [e]; exact Eq.mpr (bI_ok _) trivial), e]
        · exact ⟨_, _, fun c s x o => m_49p N L c s x o b' t' hb' ht p h3 g, fun c s x o => m_147o N L c s x o (nI b') (nI t') p g (fun y => h3 y.2.2), nxt_0 (v := 0) hb r⟩
      · refine ⟨_, _, fun c s x o => m_49b N L c s x o b t' ht p h2 h4 g, fun c s x o => m_147o N L c s x o b (nI t') p g (fun y => ?_), nxt_0 (v := 0) hb r⟩
        refine h4 ⟨fun z => ?_, fun z => y.1.2 ((i_lt (k := 2) (by decide) b).mpr z)⟩
        have e1 := y.1.1
        rw [Int32.lt_iff_toInt_lt, show (-1 : Int32).toInt = -1 from rfl] at e1
        rw [Int32.lt_iff_toInt_lt, show (0 : Int32).toInt = 0 from rfl] at z
        exact h2 (Int32.toInt_inj.mp (by rw [show (-1 : Int32).toInt = -1 from rfl]; omega))
  · exact ⟨_, _, fun c s x o => m_49t N L c s x o b t p h1 g, fun c s x o => m_147o N L c s x o b t p g (fun y => h1 y.2.1), nxt_0 (v := 0) hb r⟩
end O1
