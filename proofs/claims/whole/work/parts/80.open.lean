/-! a new ledger -/
section O13
variable {N w q a V n z M : Nat} {g : mG} (L : Nat)
theorem op_72 (hp : pr N w q a) (hb : nb V n z M) (r : Rel N w q a V n z M g) (b k : Int32) : opI N L 72 121 [.inl b, .inl k] (cd 155) (nxt N w q a V g) g := by
  have hpp := hp
  obtain ⟨p1, p2, p3, p4, p5, p6, p7, p8, p9⟩ := hpp
  have hM : M ≤ 60 := hb.2.2.2
  have hn : n ≤ 10 := hb.2.1
  have g1 := r.1.2.2.2.1
  have gw : g 65 0 2 = nI w := r.1.2.2.2.2.1
  by_cases h : ¬ b < 0 ∧ ¬ 3 ≤ b
  · obtain ⟨b', hb', rfl⟩ := inr_of (n := 3) (by decide) h
    by_cases hk : ¬ k < 0 ∧ ¬ nI N ≤ k
    · obtain ⟨k', hk', rfl⟩ := inr_of (n := N) (by omega) hk
      obtain ⟨ph, l0, ve, e, bs, wr, rr⟩ := r.2.2.2.2.2.2.1 b' hb'
      have bs' := bs
      obtain ⟨s1, s2, s3, s4, s5, s6, s7, s8, s9, s10, s11, s12, s13⟩ := bs
      by_cases h2 : ph = 2
      · have e2 : nI ph = 2 := by rw [h2]; rfl
        have t2 : g 28 b' 1 = 2 := s7.trans e2
        have nup : ¬ g 28 b' 0 = 0 := fun y => by have := s6 y; omega
        by_cases hv : g 23 0 0 ≤ g 28 b' 2
        · have hvm := (v_m hb' r).mpr hv
          have up46 : ∀ k, k < N → g 46 0 k = g 26 k 0 := fun k hk => (r.2.2.2.2.2.1 k hk).1.2.1
          have hup := up_n (g := g) (X := gu g 65 0 0 0) (fun k hk => by rw [gu_f _ _ _ _ _ _ _ _ (by decide)]; exact up46 k hk) N 0 0 (by omega)
          have hct := ct_le (p := fun k => ¬ g 26 k 0 = 0) N 0
          rw [Nat.zero_add] at hup
          by_cases hr : n = 10 ∨ ct (fun k => ¬ g 26 k 0 = 0) N 0 < w
          · refine Or.inr ⟨34, 0, g, _, by decide, fun c s x o => m_72i N L c s x o b' k' (by omega) hb' hk' g t2 hv (hr.imp (fun y => ?_) (fun y => ?_)), fun c s x o => (l_121m N L c s x o b' k' p2 hb' hk' g g1 (by rw [s5]; exact nup) (by rw [s8]; exact e2) hvm).trans (m_121i N L c s x o b' k' _ _ _ (hr.imp (fun y => ?_) (fun y => ?_))), fun _ => rfl, gu_same _ _ _ _ _, nxt_00 hb r⟩
            · rw [r.2.1.2.2.2.1, y]; decide
            · have := hup.1
              rw [show (0 : Int32) = nI 0 from rfl, this, r.1.1, iI_lt (by omega) (by omega)]; exact y
            · rw [gu_k _ _ _ _ _ _ (by decide), r.2.1.2.2.2.2.1, y]; rfl
            · have := hup.2
              rw [show F121a (gu g 65 0 0 0) N 0 0 = _ from this, gu_k _ _ _ _ _ _ (by decide), gw, iI_le (by omega) (by omega)]; omega
          · have hn10 : n < 10 := by
              have : ¬ n = 10 := fun y => hr (Or.inl y)
              omega
            have hcw : w ≤ ct (fun k => ¬ g 26 k 0 = 0) N 0 := by
              have : ¬ ct (fun k => ¬ g 26 k 0 = 0) N 0 < w := fun y => hr (Or.inr y)
              omega
            obtain ⟨x1, x2, x3, x4, x5, x6, x7⟩ := r.2.2.1.2.1 n (Nat.le_refl _) hn10
            have c0f : ∀ f i j, ¬ f = 23 → ¬ f = 28 → gu (gV b' g) 23 0 2 (nI (n + 1)) f i j = g f i j := fun f i j b1 b2 => by
              rw [gu_f _ _ _ _ _ _ _ _ b1]
              unfold gV
              rw [gu_f _ _ _ _ _ _ _ _ b2, gu_f _ _ _ _ _ _ _ _ b1]
            have c023 : ∀ j, gu (gV b' g) 23 0 2 (nI (n + 1)) 23 0 j = if j = 2 then nI (n + 1) else if j = 0 then g 23 0 0 + 1 else g 23 0 j := fun j => by
              by_cases y : j = 2
              · rw [if_pos y, y, gu_same]
              · rw [if_neg y, gu_k _ _ _ _ _ _ y]
                unfold gV
                rw [gu_f _ _ _ _ _ _ _ _ (by decide)]
                by_cases y0 : j = 0
                · rw [if_pos y0, y0, gu_same]
                · rw [if_neg y0, gu_k _ _ _ _ _ _ y0]
            have c028 : ∀ i j, gu (gV b' g) 23 0 2 (nI (n + 1)) 28 i j = if i = b' ∧ j = 2 then g 28 b' 2 + 1 else g 28 i j := fun i j => by
              rw [gu_f _ _ _ _ _ _ _ _ (by decide)]
              unfold gV
              by_cases y : i = b' ∧ j = 2
              · rw [if_pos y, y.1, y.2, gu_same]
              · rw [if_neg y, gu_ne _ _ _ _ _ _ _ _ (fun t => y ⟨t.2.1, t.2.2⟩), gu_f _ _ _ _ _ _ _ _ (by decide)]
            generalize hC0 : gu (gV b' g) 23 0 2 (nI (n + 1)) = C0 at c0f c023 c028
            -- the selection, for any model memory that agrees
            have hsel : ∀ Mo : mG, (∀ k, k < N → Mo 46 0 k = g 26 k 0) → _ := fun Mo hMo => sel_e N w n k' ⟨by omega, p2⟩ p4 N 0 0 C0 Mo (by omega) (by omega) (fun k hk => by rw [c0f 26 k 0 (by decide) (by decide), hMo k hk]) (by rw [c0f 20 n 2 (by decide) (by decide), x3]; rfl)
            have hrot : ct (fun x => ¬ C0 26 ((k' + x) % N) 0 = 0) N 0 = ct (fun k => ¬ g 26 k 0 = 0) N 0 := by
              rw [ct_rot (by omega) (fun k => ¬ C0 26 k 0 = 0)]
              exact ct_c N 0 (fun k _ _ => by rw [c0f 26 k 0 (by decide) (by decide)])
            obtain ⟨m0, q1, q2, q3, q4, q5, q6, q7, q8, q9⟩ := hsel g up46
            have hm0 : m0 = w := q3 (by rw [hrot]; omega)
            subst hm0
            have kf : ∀ f i j, ¬ (f = 11 ∧ i = n) → ¬ (f = 20 ∧ i = n ∧ j = 2) → F75 N m0 n k' N 0 0 C0 f i j = C0 f i j := q8
            have k72 := fun c s x o => m_72 N L c s x o b' k' n m0 q ⟨by omega, p2⟩ hb' hk' hn10 ⟨by omega, p4⟩ (by omega) g t2 hv r.2.1.2.2.2.1 (by
              have := hup.1
              rw [show (0 : Int32) = nI 0 from rfl, this, r.1.1, iI_lt (by omega) (by omega)]; omega) r.1.1 r.1.2.1 (by rw [x3]; rfl) (by rw [hC0]; exact q4) (by rw [hC0, kf 64 0 1 (by omega) (by omega), c0f 64 0 1 (by decide) (by decide)]; exact r.1.2.1)
            rw [hC0] at k72
            -- the chosen bookies
            have ex : ∀ j, ∃ kk, j < m0 → kk < N ∧ F75 N m0 n k' N 0 0 C0 11 n j = nI kk := fun j => by
              by_cases t : j < m0
              · obtain ⟨x, _, _, y3, _⟩ := q5 j (by omega) t
                exact ⟨(k' + x) % N, fun _ => ⟨Nat.mod_lt _ (by omega), y3⟩⟩
              · exact ⟨0, fun y => absurd y t⟩
            obtain ⟨f0, hf'⟩ : ∃ f0 : Nat → Nat, ∀ j, j < m0 → f0 j < N ∧ F75 N m0 n k' N 0 0 C0 11 n j = nI (f0 j) := ⟨fun j => Classical.choose (ex j), fun j => Classical.choose_spec (ex j)⟩
            obtain ⟨w1, w2⟩ := F25_b n m0 q (by omega) (F75 N m0 n k' N 0 0 C0) f0 (fun x hx => ⟨by have := (hf' x hx).1; omega, (hf' x hx).2⟩) 6 0 (F75 N m0 n k' N 0 0 C0) (fun _ => rfl) (fun e' _ he' => by rw [kf 12 n e' (by omega) (by omega), c0f 12 n e' (by decide) (by decide)]; exact x5 e' (by omega))
            have F25g : ∀ f i j, ¬ f = 12 → F25 n m0 q 6 0 (F75 N m0 n k' N 0 0 C0) f i j = F75 N m0 n k' N 0 0 C0 f i j := fun f i j hf1 => F25_f n m0 q f i j hf1 6 0 _
            -- the memory after the call of the first
            have d28 : ∀ i j, gu (gu (F25 n m0 q 6 0 (F75 N m0 n k' N 0 0 C0)) 28 b' 1 3) 28 b' 3 (nI n) 28 i j = if i = b' ∧ j = 1 then 3 else if i = b' ∧ j = 3 then nI n else if i = b' ∧ j = 2 then g 28 b' 2 + 1 else g 28 i j := fun i j => by
              by_cases y1 : i = b' ∧ j = 1
              · rw [if_pos y1, y1.1, y1.2, gu_k _ _ _ _ _ _ (by decide), gu_same]
              · rw [if_neg y1]
                by_cases y3 : i = b' ∧ j = 3
                · rw [if_pos y3, y3.1, y3.2, gu_same]
                · rw [if_neg y3, gu_ne _ _ _ _ _ _ _ _ (fun t => y3 ⟨t.2.1, t.2.2⟩), gu_ne _ _ _ _ _ _ _ _ (fun t => y1 ⟨t.2.1, t.2.2⟩), F25g 28 i j (by decide), kf 28 i j (by omega) (by omega), c028]
            have dF : ∀ f i j, ¬ f = 28 → gu (gu (F25 n m0 q 6 0 (F75 N m0 n k' N 0 0 C0)) 28 b' 1 3) 28 b' 3 (nI n) f i j = F25 n m0 q 6 0 (F75 N m0 n k' N 0 0 C0) f i j := fun f i j hf1 => by rw [gu_f _ _ _ _ _ _ _ _ hf1, gu_f _ _ _ _ _ _ _ _ hf1]
            have dG : ∀ f i j, ¬ f = 28 → ¬ f = 12 → ¬ f = 23 → ¬ (f = 11 ∧ i = n) → ¬ (f = 20 ∧ i = n ∧ j = 2) → gu (gu (F25 n m0 q 6 0 (F75 N m0 n k' N 0 0 C0)) 28 b' 1 3) 28 b' 3 (nI n) f i j = g f i j := fun f i j b1 b2 b3 b4 b5 => by rw [dF f i j b1, F25g f i j b2, kf f i j b4 b5, c0f f i j b3 b1]
            have d23 : ∀ j, gu (gu (F25 n m0 q 6 0 (F75 N m0 n k' N 0 0 C0)) 28 b' 1 3) 28 b' 3 (nI n) 23 0 j = if j = 2 then nI (n + 1) else if j = 0 then g 23 0 0 + 1 else g 23 0 j := fun j => by rw [dF 23 0 j (by decide), F25g 23 0 j (by decide), kf 23 0 j (by omega) (by omega), c023]
            have d12 : ∀ i e', gu (gu (F25 n m0 q 6 0 (F75 N m0 n k' N 0 0 C0)) 28 b' 1 3) 28 b' 3 (nI n) 12 i e' = F25 n m0 q 6 0 (F75 N m0 n k' N 0 0 C0) 12 i e' := fun i e' => dF 12 i e' (by decide)
            have d12o : ∀ i e', ¬ i = n → gu (gu (F25 n m0 q 6 0 (F75 N m0 n k' N 0 0 C0)) 28 b' 1 3) 28 b' 3 (nI n) 12 i e' = g 12 i e' := fun i e' hi => by rw [d12, w2 i e' (fun y => hi y.1), kf 12 i e' (by omega) (by omega), c0f 12 i e' (by decide) (by decide)]
            have d11 : ∀ j, gu (gu (F25 n m0 q 6 0 (F75 N m0 n k' N 0 0 C0)) 28 b' 1 3) 28 b' 3 (nI n) 11 n j = F75 N m0 n k' N 0 0 C0 11 n j := fun j => by rw [dF 11 n j (by decide), F25g 11 n j (by decide)]
            have d20 : gu (gu (F25 n m0 q 6 0 (F75 N m0 n k' N 0 0 C0)) 28 b' 1 3) 28 b' 3 (nI n) 20 n 2 = nI m0 := by rw [dF 20 n 2 (by decide), F25g 20 n 2 (by decide), q4]
            have d11z : ∀ j, m0 ≤ j → j < 4 → F75 N m0 n k' N 0 0 C0 11 n j = -1 := fun j h1 h2 => by rw [(q7 j (Or.inr h1)).1, c0f 11 n j (by decide) (by decide)]; exact x4 j h2
            have d12b : ∀ e', e' < 6 → m6 (gu (gu (F25 n m0 q 6 0 (F75 N m0 n k' N 0 0 C0)) 28 b' 1 3) 28 b' 3 (nI n) 12 n e') ∧ ∀ kk, kk < 6 → (bt (gu (gu (F25 n m0 q 6 0 (F75 N m0 n k' N 0 0 C0)) 28 b' 1 3) 28 b' 3 (nI n) 12 n e') kk ↔ ∃ j, j < q ∧ f0 ((e' + j) % m0) = kk) := fun e' he' => by rw [d12]; exact w1 e' (by omega) (by omega)
            -- the model's memory
            have X46 : ∀ X : mG, (∀ f i j, 35 < f ∧ f < 64 → X f i j = g f i j) → ∀ kk, kk < N → gW b' (gu X 65 0 0 0) 46 0 kk = g 26 kk 0 := fun X hX kk hkk => by rw [gW_f _ _ _ _ _ (by omega) (by decide), gu_f _ _ _ _ _ _ _ _ (by decide), hX 46 0 kk (by decide)]; exact up46 kk hkk
            generalize hC1 : gu (gu (F25 n m0 q 6 0 (F75 N m0 n k' N 0 0 C0)) 28 b' 1 3) 28 b' 3 (nI n) = C1 at k72 d28 dF dG d23 d12 d12o d11 d20 d12b
            have hX : ∀ f i j, 35 < f ∧ f < 64 → C1 f i j = g f i j := fun f i j hf1 => dG f i j (by omega) (by omega) (by omega) (by omega) (by omega)
            have hX5 : ∀ j, C1 65 0 j = g 65 0 j := fun j => dG 65 0 j (by decide) (by decide) (by decide) (by omega) (by omega)
            have hsM := hsel (gW b' (gu C1 65 0 0 0)) (X46 C1 hX)
            obtain ⟨m1, r1, r2, r3, r4, r5, r6, r7, r8, r9⟩ := hsM
            have hm1 : m1 = m0 := r3 (by rw [hrot]; omega)
            subst hm1
            have u65 : ∀ j, ¬ j = 0 → gu C1 65 0 0 0 65 0 j = g 65 0 j := fun j hj => by rw [gu_k _ _ _ _ _ _ hj, hX5]
            have um : ∀ f i j, 35 < f ∧ f < 64 → gu C1 65 0 0 0 f i j = g f i j := fun f i j hf1 => by rw [gu_f _ _ _ _ _ _ _ _ (by omega), hX f i j hf1]
            have hup1 := up_n (g := g) (X := gu C1 65 0 0 0) (fun k hk => by rw [um 46 0 k (by decide)]; exact up46 k hk) N 0 0 (by omega)
            rw [Nat.zero_add] at hup1
            have k121 := fun c s x o => (l_121m N L c s x o b' k' p2 hb' hk' C1 (by rw [hX5]; exact g1) (by rw [hX 50 0 b' (by decide), s5]; exact nup) (by rw [hX 51 0 b' (by decide), s8]; exact e2) (by rw [hX5, hX 52 0 b' (by decide)]; exact hvm)).trans (m_121 N L c s x o b' k' m1 n _ _ ⟨by omega, p2⟩ hb' hk' p4 hn10 (gu C1 65 0 0 0) (by rw [u65 1 (by decide)]; exact g1) (by rw [u65 2 (by decide)]; exact gw) (by rw [u65 7 (by decide)]; exact r.2.1.2.2.2.2.1) (by
              rw [u65 2 (by decide), gw, show F121a (gu C1 65 0 0 0) N 0 0 = _ from hup1.2, iI_le (by omega) (by omega)]; omega) (by rw [u65 5 (by decide), um 52 0 b' (by decide)]; exact hvm))
            have mz : ∀ f i j, ¬ f = 36 → ¬ f = 37 → ¬ f = 38 → ¬ (f = 65 ∧ j = 7) → ¬ f = 53 → ¬ f = 51 → ¬ f = 54 → F121z b' n (F121 N m1 n k' N 0 0 (gW b' (gu C1 65 0 0 0))) f i j = gW b' (gu C1 65 0 0 0) f i j := fun f i j b0 b1 b2 b3 b4 b5 b6 => by
              unfold F121z
              rw [gu_f _ _ _ _ _ _ _ _ b6, gu_f _ _ _ _ _ _ _ _ b5, gu_f _ _ _ _ _ _ _ _ b4, gu_ne _ _ _ _ _ _ _ _ (fun t => b3 ⟨t.1, t.2.2⟩), gu_f _ _ _ _ _ _ _ _ b2, gu_f _ _ _ _ _ _ _ _ b1, F121_f N m1 n k' f i j b0]
            have mW : ∀ f i j, 35 < f ∧ f < 64 → ¬ f = 52 → gW b' (gu C1 65 0 0 0) f i j = g f i j := fun f i j hf1 h52 => by rw [gW_f _ _ _ _ _ (by omega) h52, um f i j hf1]
            have mF : ∀ f j, 35 < f ∧ f < 64 → ¬ f = 52 → ¬ f = 36 → F121 N m1 n k' N 0 0 (gW b' (gu C1 65 0 0 0)) f 0 j = g f 0 j := fun f j hf1 h52 h36 => by rw [F121_f N m1 n k' f 0 j h36, mW f 0 j hf1 h52]
            have z36 : ∀ j, F121z b' n (F121 N m1 n k' N 0 0 (gW b' (gu C1 65 0 0 0))) 36 0 j = F121 N m1 n k' N 0 0 (gW b' (gu C1 65 0 0 0)) 36 0 j := fun j => by simp [F121z, gu]
            have z37 : ∀ j, F121z b' n (F121 N m1 n k' N 0 0 (gW b' (gu C1 65 0 0 0))) 37 0 j = if j = n then 0 else g 37 0 j := fun j => by
              rw [← mF 37 j (by decide) (by decide) (by decide)]
              simp [F121z, gu]
            have z38 : ∀ j, F121z b' n (F121 N m1 n k' N 0 0 (gW b' (gu C1 65 0 0 0))) 38 0 j = if j = n then -1 else g 38 0 j := fun j => by
              rw [← mF 38 j (by decide) (by decide) (by decide)]
              simp [F121z, gu]
            have z53 : ∀ j, F121z b' n (F121 N m1 n k' N 0 0 (gW b' (gu C1 65 0 0 0))) 53 0 j = if j = b' then nI n else g 53 0 j := fun j => by
              rw [← mF 53 j (by decide) (by decide) (by decide)]
              simp [F121z, gu]
            have z51 : ∀ j, F121z b' n (F121 N m1 n k' N 0 0 (gW b' (gu C1 65 0 0 0))) 51 0 j = if j = b' then 3 else g 51 0 j := fun j => by
              rw [← mF 51 j (by decide) (by decide) (by decide)]
              simp [F121z, gu]
            have z54 : ∀ j, F121z b' n (F121 N m1 n k' N 0 0 (gW b' (gu C1 65 0 0 0))) 54 0 j = if j = b' then 0 else g 54 0 j := fun j => by
              rw [← mF 54 j (by decide) (by decide) (by decide)]
              simp [F121z, gu]
            have z7 : F121z b' n (F121 N m1 n k' N 0 0 (gW b' (gu C1 65 0 0 0))) 65 0 7 = nI (n + 1) := by simp [F121z, gu]
            refine Or.inl ⟨nI n, C1, F121z b' n (F121 N m1 n k' N 0 0 (gW b' (gu C1 65 0 0 0))), k72, k121, fun j => dG 0 0 j (by decide) (by decide) (by decide) (by omega) (by omega), ?_, ?_⟩
            · rw [mz 65 0 0 (by decide) (by decide) (by decide) (by decide) (by decide) (by decide) (by decide), gW_f _ _ _ _ _ (by decide) (by decide), gu_same]
            · generalize F121z b' n (F121 N m1 n k' N 0 0 (gW b' (gu C1 65 0 0 0))) = G at mz z36 z37 z38 z53 z51 z54 z7
              have kC : ∀ f i j, f < 36 ∨ f = 64 → G f i j = C1 f i j := fun f i j hf1 => by rw [mz f i j (by omega) (by omega) (by omega) (by omega) (by omega) (by omega) (by omega), gW_f _ _ _ _ _ (by omega) (by omega), gu_f _ _ _ _ _ _ _ _ (by omega)]
              have kM : ∀ f i j, 35 < f ∧ f < 64 → ¬ f = 36 → ¬ f = 37 → ¬ f = 38 → ¬ f = 53 → ¬ f = 51 → ¬ f = 54 → ¬ f = 52 → G f i j = g f i j := fun f i j b0 b1 b2 b3 b4 b5 b6 b7 => by rw [mz f i j b1 b2 b3 (by omega) b4 b5 b6, mW f i j b0 b7]
              have e0 := r.2.1.1
              have e5 := r.2.1.2.1
              have ev := v_eq hb' hb r hv
              have ho : out [28, 12, 23, 11, 20, 36, 37, 38, 53, 51, 54, 52, 65] g G := fun f hf1 i j => by
                simp at hf1
                by_cases y : f < 36 ∨ f = 64
                · rw [kC f i j y, dG f i j (by omega) (by omega) (by omega) (by omega) (by omega)]
                · by_cases y2 : f < 64
                  · exact kM f i j (by omega) (by omega) (by omega) (by omega) (by omega) (by omega) (by omega) (by omega)
                  · rw [mz f i j (by omega) (by omega) (by omega) (by omega) (by omega) (by omega) (by omega), gW_f _ _ _ _ _ (by omega) (by omega), gu_f _ _ _ _ _ _ _ _ (by omega), dG f i j (by omega) (by omega) (by omega) (by omega) (by omega)]
              have g65 : ∀ j, ¬ j = 0 → ¬ j = 5 → ¬ j = 7 → G 65 0 j = g 65 0 j := fun j h1 h2 h3 => by rw [mz 65 0 j (by decide) (by decide) (by decide) (by omega) (by decide) (by decide) (by decide), gW_f _ _ _ _ _ (by omega) (by decide), u65 j h1]
              have k5 : ∀ js : List Nat, (∀ j, j ∈ js → ¬ j = 0 ∧ ¬ j = 5 ∧ ¬ j = 7) → ago js g G := fun js hs j hj => g65 j (hs j hj).1 (hs j hj).2.1 (hs j hj).2.2
              have g655 : G 65 0 5 = nI (V + 1) := by
                rw [mz 65 0 5 (by decide) (by decide) (by decide) (by decide) (by decide) (by decide) (by decide)]
                unfold gW
                rw [gu_f _ _ _ _ _ _ _ _ (by decide), gu_same, u65 5 (by decide), e5, iI_s]
              have g52 : ∀ j, G 52 0 j = if j = b' then nI (V + 1) else g 52 0 j := fun j => by
                rw [mz 52 0 j (by decide) (by decide) (by decide) (by omega) (by decide) (by decide) (by decide)]
                unfold gW
                by_cases y : j = b'
                · rw [if_pos y, y, gu_same, u65 5 (by decide), e5, iI_s]
                · rw [if_neg y, gu_k _ _ _ _ _ _ y, gu_f _ _ _ _ _ _ _ _ (by decide), um 52 0 j (by decide)]
              have G28 : ∀ i j, G 28 i j = if i = b' ∧ j = 1 then 3 else if i = b' ∧ j = 3 then nI n else if i = b' ∧ j = 2 then g 28 b' 2 + 1 else g 28 i j := fun i j => by rw [kC 28 i j (by decide), d28]
              have G28o : ∀ i j, ¬ (i = b' ∧ (j = 1 ∨ j = 2 ∨ j = 3)) → G 28 i j = g 28 i j := fun i j y => by rw [G28, if_neg (fun t => y ⟨t.1, by omega⟩), if_neg (fun t => y ⟨t.1, by omega⟩), if_neg (fun t => y ⟨t.1, by omega⟩)]
              have G23 : ∀ j, G 23 0 j = if j = 2 then nI (n + 1) else if j = 0 then g 23 0 0 + 1 else g 23 0 j := fun j => by rw [kC 23 0 j (by decide), d23]
              have G12 : ∀ i e', ¬ i = n → G 12 i e' = g 12 i e' := fun i e' hi => by rw [kC 12 i e' (by decide), d12o i e' hi]
              have G20 : ∀ i j, ¬ (i = n ∧ j = 2) → G 20 i j = g 20 i j := fun i j y => by rw [kC 20 i j (by decide), dG 20 i j (by decide) (by decide) (by decide) (by omega) (fun t => y t.2)]
              have G11 : ∀ i j, ¬ i = n → G 11 i j = g 11 i j := fun i j y => by rw [kC 11 i j (by decide), dG 11 i j (by decide) (by decide) (by decide) (fun t => y t.2) (by omega)]
              have G36 : ∀ j, ¬ (4 * n ≤ j ∧ j < 4 * n + 4) → G 36 0 j = g 36 0 j := fun j y => by rw [z36, r9 j y, mW 36 0 j (by decide) (by decide)]
              have G13 : ∀ i j, G 13 i j = g 13 i j := fun i j => ho 13 (by decide) i j
              have G17 : ∀ i j, G 17 i j = g 17 i j := fun i j => ho 17 (by decide) i j
              obtain ⟨a1, a2, a3, a4, a5, a6, a7, a8, a9, a10⟩ := id r
              have hcur : g 52 0 b' = g 65 0 5 := by rw [e5, ← ev, s9, s10]
              have hclosed : ∀ m', m' + 1 = n → g 37 0 m' = 2 := fun m' hm' => (a8.2 b' hb' hcur).1 (by rw [s8]; exact e2) m' (by omega) (by rw [a2.2.2.2.2.1, hm'])
              have inWc : ∀ l' e' kk, ¬ l' = n → (inW m1 q l' e' kk G ↔ inW m1 q l' e' kk g) := fun l' e' kk hl' => by
                unfold inW
                have hlt : ∀ i, (e' + i) % m1 < m1 := fun i => Nat.mod_lt _ (by omega)
                constructor
                · rintro ⟨i, h1, h2⟩
                  exact ⟨i, h1, by have := hlt i; rw [G36 _ (by omega)] at h2; exact h2⟩
                · rintro ⟨i, h1, h2⟩
                  exact ⟨i, h1, by have := hlt i; rw [G36 _ (by omega)]; exact h2⟩
              have old : ∀ l', l' < n → rL N m1 q l' G := fun l' hl' => by
                obtain ⟨⟨m', st', t1, t2, t3, t4, t5, t6, t7, t8⟩, ⟨tE1, tE2, tE3, tE4⟩, tW⟩ := a3.1 l' hl'
                refine ⟨⟨m', st', t1, t2, ?_, ?_, ?_, ?_, t7, fun p hp' => ?_⟩, ⟨?_, fun i hi => ?_, fun i j hi hj hij => ?_, fun i h1 h2 => ?_⟩, fun e' he' => ⟨?_, fun kk hkk => ?_⟩⟩
                · rw [G20 l' 0 (by omega)]; exact t3
                · rw [z37, if_neg (by omega)]; exact t4
                · rw [G20 l' 1 (by omega)]; exact t5
                · rw [z38, if_neg (by omega)]; exact t6
                · rw [G13, ho 39 (by decide)]; exact t8 p hp'
                · rw [G20 l' 2 (by omega)]; exact tE1
                · rw [G11 l' i (by omega), G36 _ (by omega)]; exact tE2 i hi
                · rw [G36 _ (by omega), G36 _ (by omega)] at hij; exact tE3 i j hi hj hij
                · rw [G11 l' i (by omega)]; exact tE4 i h1 h2
                · rw [G12 l' e' (by omega)]; exact (tW e' he').1
                · rw [G12 l' e' (by omega), inWc l' e' kk (by omega)]; exact (tW e' he').2 kk hkk
              have v36 : ∀ j, j < m1 → G 36 0 (4 * n + j) = nI (f0 j) := fun j hj => by
                obtain ⟨x, _, _, y3, y4⟩ := r5 j (by omega) hj
                rw [z36, y4, ← y3, (hf' j hj).2]
              have new : rL N m1 q n G := by
                refine ⟨⟨0, 0, by decide, by decide, ?_, ?_, ?_, ?_, fun _ => rfl, fun p hp' => ?_⟩, ⟨?_, fun i hi => ?_, fun i j hi hj hij => ?_, fun i h1 h2 => ?_⟩, fun e' he' => ⟨?_, fun kk hkk => ?_⟩⟩
                · rw [G20 n 0 (by omega)]; exact x1
                · rw [z37, if_pos rfl]; rfl
                · rw [G20 n 1 (by omega), x2]; rfl
                · rw [z38, if_pos rfl]; rfl
                · rw [G13, if_neg (by decide)]; exact x6 p hp'
                · rw [kC 20 n 2 (by decide), d20]
                · exact ⟨f0 i, (hf' i hi).1, by rw [kC 11 n i (by decide), d11, (hf' i hi).2], v36 i hi⟩
                · rw [z36, z36] at hij; exact r6 i j (by omega) hi (by omega) hj hij
                · rw [kC 11 n i (by decide), d11, d11z i h1 h2]
                · rw [kC 12 n e' (by decide)]; exact (d12b e' he').1
                · rw [kC 12 n e' (by decide), (d12b e' he').2 kk hkk]
                  unfold inW
                  have hlt : ∀ i, (e' + i) % m1 < m1 := fun i => Nat.mod_lt _ (by omega)
                  constructor
                  · rintro ⟨j, h1, h2⟩
                    exact ⟨j, h1, by rw [v36 _ (hlt j), h2]⟩
                  · rintro ⟨j, h1, h2⟩
                    refine ⟨j, h1, ?_⟩
                    rw [v36 _ (hlt j), iI_eq (by have := (hf' _ (hlt j)).1; omega) (by omega)] at h2
                    exact h2
              have nohas : ∀ kk, kk < N → ∀ x, x < 8 → ¬ bt (g 1 kk n) x := fun kk hkk x hx t => (((a6 kk hkk).2 n hn10).2.2 x hx).2.2.2 t |>.2 (x7 x hx)
              refine nxt_V (n' := n + 1) (z' := z) (M' := M) ⟨rP_c (ag_o ho (by decide)) (k5 _ (by decide)) a1, ⟨?_, g655, ?_, ?_, z7, ?_, ?_⟩, ⟨fun l' hl' => ?_, fun l' h1 h2 => ?_, fun l' hl' => ?_, fun l' hl' => ?_⟩, rS_c (ag_o ho (by decide)) (k5 _ (by decide)) a4, rH_c (ag_o ho (by decide)) a5, fun kk hkk => ⟨rKu_a (ag_o ho (by decide)) (a6 kk hkk).1, fun l' hl' => ?_⟩, fun b2 hb2 => ?_, ⟨fun x y hx hy hxy p1 p2 => ?_, rU_own (b := b') hb.1 g655 (fun b2 hb2 e2' => by rw [g52, if_neg e2']; exact v52 r hb2) ⟨fun y => absurd y (by rw [z51, if_pos rfl]; decide), fun _ => by rw [z7, z53, if_pos rfl, iI_s]⟩⟩, fun d hd => rD_a (ag_o ho (by decide)) (a9 d hd), fun t ht => rV_a (ag_o ho (by decide)) (a10 t ht)⟩ (by omega) (by have := hb.2.2.1; omega) hM (fun j => ho 0 (by decide) _ _)
              · rw [G23, if_neg (by decide), if_pos rfl, e0, iI_s]
              · rw [G23, if_neg (by decide), if_neg (by decide), g65 6 (by decide) (by decide) (by decide)]; exact a2.2.2.1
              · rw [G23, if_pos rfl]
              · rw [G23, if_neg (by decide), if_neg (by decide)]; exact a2.2.2.2.2.2.1
              · rw [g65 8 (by decide) (by decide) (by decide)]; exact a2.2.2.2.2.2.2
              · by_cases y : l' = n
                · rw [y]; exact new
                · exact old l' (by omega)
              · obtain ⟨y1, y2, y3, y4, y5, y6, y7⟩ := a3.2.1 l' (by omega) h2
                exact ⟨by rw [G20 l' 0 (by omega)]; exact y1, by rw [G20 l' 1 (by omega)]; exact y2, by rw [G20 l' 2 (by omega)]; exact y3, fun i hi => by rw [G11 l' i (by omega)]; exact y4 i hi, fun i hi => by rw [G12 l' i (by omega)]; exact y5 i hi, fun i hi => by rw [G13]; exact y6 i hi, fun i hi => by rw [G17]; exact y7 i hi⟩
              · rw [z37, if_neg (by omega)]
                by_cases y : l' + 1 < n
                · exact a3.2.2.1 l' y
                · exact hclosed l' (by omega)
              · have := hb.2.2.1
                rw [z37, if_neg (by omega)]; exact a3.2.2.2 l' hl'
              · obtain ⟨mm1, mm2, me⟩ := (a6 kk hkk).2 l' hl'
                refine ⟨by rw [ho 1 (by decide)]; exact mm1, by rw [ho 2 (by decide)]; exact mm2, fun x hx => ?_⟩
                obtain ⟨v1, v2, v3, v4⟩ := me x hx
                unfold rKe
                rw [ho 47 (by decide), ho 48 (by decide), ho 1 (by decide), ho 2 (by decide), G17]
                refine ⟨v1, v2, v3, fun t => ?_⟩
                by_cases y : l' = n
                · rw [y] at t; exact absurd t (nohas kk hkk x hx)
                · rw [G12 l' x y]; exact v4 t
              · obtain ⟨ph2, l2, ve2, ee2, y1, y2, y3⟩ := a7 b2 hb2
                by_cases y : b2 = b'
                · subst y
                  have he0 : e = 0 := wr.2.2.2.1 (by omega)
                  subst he0
                  obtain ⟨w1', w2', w3', w4', w5', w6', w7'⟩ := wr
                  refine ⟨3, n, V + 1, 0, ⟨by decide, hn10, Nat.le_refl _, ?_, ?_, fun t => absurd t ?_, ?_, ?_, ?_, ?_, ?_, fun _ => ⟨by omega, ?_⟩, fun t => by omega⟩, ⟨by decide, ?_, ?_, fun _ => rfl, ?_, fun i hi => ?_, fun _ i hi => ⟨fun t => by omega, fun _ => ?_⟩⟩, ⟨?_, ?_, fun _ => ?_, fun kk hkk => ?_⟩⟩
                  · rw [G28o b2 0 (by omega)]; exact s4
                  · rw [G28o b2 0 (by omega), ho 50 (by decide)]; exact s5
                  · rw [G28o b2 0 (by omega)]; exact nup
                  · rw [G28, if_pos ⟨rfl, rfl⟩]; rfl
                  · rw [z51, if_pos rfl]; rfl
                  · rw [G28, if_neg (by omega), if_neg (by omega), if_pos ⟨rfl, rfl⟩, ev, iI_s]
                  · rw [g52, if_pos rfl]
                  · rw [z53, if_pos rfl]
                  · rw [G28, if_neg (by omega), if_pos ⟨rfl, rfl⟩]
                  · rw [G28o b2 4 (by omega)]; exact w2'
                  · rw [z54, if_pos rfl]; rfl
                  · rw [G28o b2 5 (by omega)]; exact w5'
                  · rw [ho 3 (by decide), ho 55 (by decide)]; exact w6' i hi
                  · rw [G17]; exact x7 i (by omega)
                  · rw [G28o b2 6 (by omega), ho 56 (by decide)]; exact rr.1
                  · rw [G28o b2 6 (by omega)]; exact rr.2.1
                  · rw [G28o b2 6 (by omega)]; exact rr.2.2.1 (by omega)
                  · obtain ⟨t1, t2', t3, t4, t5, t6, t7⟩ := rr.2.2.2 kk hkk
                    rw [ho 4 (by decide), ho 5 (by decide), ho 57 (by decide), ho 58 (by decide), G28o b2 6 (by omega)]
                    refine ⟨t1, t2', t3, t4, t5, fun _ => t6 (by omega), fun i hi t => ?_⟩
                    rw [(t6 (by omega)).1] at t
                    exact absurd t (bt_0 (by omega))
                · obtain ⟨u1, u2, u3, u4, u5, u6, u7, u8, u9, u10, u11, u12, u13⟩ := y1
                  refine ⟨ph2, l2, ve2, ee2, ⟨u1, u2, by omega, ?_, ?_, ?_, ?_, ?_, ?_, ?_, ?_, fun t => ?_, ?_⟩, ?_, ?_⟩
                  · rw [G28o b2 0 (fun t => y t.1)]; exact u4
                  · rw [G28o b2 0 (fun t => y t.1), ho 50 (by decide)]; exact u5
                  · rw [G28o b2 0 (fun t => y t.1)]; exact u6
                  · rw [G28o b2 1 (fun t => y t.1)]; exact u7
                  · rw [z51, if_neg y]; exact u8
                  · rw [G28o b2 2 (fun t => y t.1)]; exact u9
                  · rw [g52, if_neg y]; exact u10
                  · rw [z53, if_neg y]; exact u11
                  · rw [G28o b2 3 (fun t => y t.1)]; exact ⟨by have := (u12 t).1; omega, (u12 t).2⟩
                  · rw [G28o b2 3 (fun t => y t.1)]; exact u13
                  · exact rBw_c (fun j => G28o b2 j (fun t => y t.1)) (by rw [z54, if_neg y]) (fun i _ => ho 3 (by decide) _ _) (fun i _ => ho 55 (by decide) _ _) (ag_o ho (by decide)) (g65 4 (by decide) (by decide) (by decide)) y2
                  · obtain ⟨t1, t2', t3, t4⟩ := y3
                    refine ⟨by rw [G28o b2 6 (fun t => y t.1), ho 56 (by decide)]; exact t1, by rw [G28o b2 6 (fun t => y t.1)]; exact t2', by rw [G28o b2 6 (fun t => y t.1)]; exact t3, fun kk hkk => ?_⟩
                    obtain ⟨t1', t2'', t3', t4', t5, t6, t7⟩ := t4 kk hkk
                    rw [ho 4 (by decide), ho 5 (by decide), ho 57 (by decide), ho 58 (by decide), G28o b2 6 (fun t => y t.1)]
                    refine ⟨t1', t2'', t3', t4', t5, t6, fun i hi t => ?_⟩
                    rw [G17]
                    have t8 := t7 i hi t
                    by_cases t9 : l2 = n
                    · rw [t9] at t8
                      exact absurd (x7 i (by omega)) t8.2
                    · rw [G12 l2 i t9]; exact t8
              · by_cases y1 : x = b'
                · by_cases y2 : y = b'
                  · exact absurd (y1.trans y2.symm) hxy
                  · rw [z53, z53, if_pos y1, if_neg y2]
                    rw [z51, if_neg y2] at p2
                    obtain ⟨ph2, l2, ve2, ee2, u, _, _⟩ := a7 y hy
                    have hph2 : ph2 = 3 := by
                      rw [u.2.2.2.2.2.2.2.1] at p2
                      exact (iI_eq (b := 3) (by have := u.1; omega) (by decide)).mp p2
                    have := (u.2.2.2.2.2.2.2.2.2.2.2.1 (Or.inr hph2)).1
                    rw [u.2.2.2.2.2.2.2.2.2.2.1, iI_eq (by omega) (by omega)]
                    omega
                · by_cases y2 : y = b'
                  · rw [z53, z53, if_neg y1, if_pos y2]
                    rw [z51, if_neg y1] at p1
                    obtain ⟨ph2, l2, ve2, ee2, u, _, _⟩ := a7 x hx
                    have hph2 : ph2 = 3 := by
                      rw [u.2.2.2.2.2.2.2.1] at p1
                      exact (iI_eq (b := 3) (by have := u.1; omega) (by decide)).mp p1
                    have := (u.2.2.2.2.2.2.2.2.2.2.2.1 (Or.inr hph2)).1
                    rw [u.2.2.2.2.2.2.2.2.2.2.1, iI_eq (by omega) (by omega)]
                    omega
                  · rw [z51, if_neg y1] at p1
                    rw [z51, if_neg y2] at p2
                    rw [z53, z53, if_neg y1, if_neg y2]
                    exact a8.1 x y hx hy hxy p1 p2
        · have f9 : ∀ f i j, ¬ f ∈ [28, 3, 4, 5, 7, 22, 10] → F8 b' g f i j = g f i j := fun f i j hf => F8_9 b' f i j g hf
          refine Or.inr ⟨33, 0, F8 b' g, _, by decide, fun c s x o => m_72u N L c s x o b' k' (by omega) hb' hk' g t2 hv, fun c s x o => m_121u N L c s x o b' k' p2 hb' hk' _ ?_ ?_ ?_ ?_, fun j => f9 0 0 j (by decide), gu_same _ _ _ _ _, nxt_lv hb' hb r⟩
          · rw [f9 65 0 1 (by decide)]; exact g1
          · rw [f9 50 0 b' (by decide), s5]; exact nup
          · rw [f9 51 0 b' (by decide), s8]; exact e2
          · rw [f9 65 0 5 (by decide), f9 52 0 b' (by decide)]; exact fun y => hv ((v_m hb' r).mp y)
      · have n2 : ¬ nI ph = 2 := fun y => h2 ((ph_i s1 (k := 2) (by decide)).mp y)
        exact Or.inr ⟨31, 0, g, _, by decide, fun c s x o => m_72s N L c s x o b' k' (by omega) hb' hk' g (by rw [s7]; exact n2), fun c s x o => m_121s N L c s x o b' k' p2 hb' hk' g g1 (Or.inr (by rw [s8]; exact n2)), fun _ => rfl, gu_same _ _ _ _ _, nxt_00 hb r⟩
    · exact Or.inr ⟨30, 0, g, _, by decide, fun c s x o => m_72k N L c s x o b' hb' k hk g, fun c s x o => m_121a N L c s x o (nI b') k g g1 (fun y => hk y.2), fun _ => rfl, gu_same _ _ _ _ _, nxt_00 hb r⟩
  · exact Or.inr ⟨30, 0, g, _, by decide, fun c s x o => m_72a N L c s x o b k h g, fun c s x o => m_121a N L c s x o b k g g1 (fun y => h ((i_b3 b).mp y.1)), fun _ => rfl, gu_same _ _ _ _ _, nxt_00 hb r⟩
end O13
