/-! reads and writes -/
theorem av_live_wr (μ : av_M) (f i k : Nat) (v : av_V) : av_live (av_wr μ f i k v) = av_live μ := rfl
theorem av_val_wr (μ : av_M) (f i k : Nat) (v : av_V) (f' i' k' : Nat) : av_val (av_wr μ f i k v) f' i' k' = if f' = f ∧ i' = i ∧ k' = k then v else av_val μ f' i' k' := rfl
theorem av_fit_ok {ad : Nat → Nat → Nat} {ty : FieldType} {v : av_V} (h : av_fit ty v = true) : narrow ty (av_vm ad v) = av_vm ad v ∧ fits ty (av_vm ad v) = true := by
  unfold av_fit at h
  split at h
  · exact ⟨rfl, rfl⟩
  · rename_i x
    have h2 : x = 0 ∨ x = 1 := by simpa using h
    rcases h2 with rfl | rfl <;> exact ⟨rfl, rfl⟩
  · rename_i x; rcases x with _ | x <;> exact ⟨rfl, rfl⟩
  · rename_i x; rcases x with _ | x <;> exact ⟨rfl, rfl⟩
  · cases h
theorem av_outD_iff {j : Int32} {n : Nat} : av_outD j n = false ↔ ¬ (j < 0 ∨ n ≤ j.toNatClampNeg) := by
  unfold av_outD
  simp
theorem av_W.put {D : va_G} {tA : Nat → ClassId} {B0 : Nat} {ad : Nat → Nat → Nat} {μ : av_M} {H H' : Heap} (h : av_W D tA B0 ad μ H) {f i k : Nat} {v : av_V} (hi : i < av_cnt μ f) (hv : av_live μ v) (hB : B0 ≤ ad f i)
    {cell cell' : Cell} (hc : H[ad f i]? = some cell) (hc' : H'[ad f i]? = some cell') (hvm : cell'.vm.isStatics = false) (hz : H'.size = H.size) (oq : ∀ q, q ≠ ad f i → H'[q]? = H[q]?)
    (hnew : av_cell D tA ad (av_wr μ f i k v) f i H') : av_W D tA B0 ad (av_wr μ f i k v) H' := by
  obtain ⟨h1, h2, h3, h4, h5, h6, h7⟩ := h
  refine ⟨fun f' i' hi' => ?_, h2, fun f' i' hi' => ⟨by rw [hz]; exact (h3 f' i' hi').1, (h3 f' i' hi').2⟩, fun f' i' k' hi' => ?_, fun q cl hq hcl => ?_, by rw [hz]; exact h6, h7⟩
  · by_cases he : f' = f ∧ i' = i
    · obtain ⟨rfl, rfl⟩ := he
      exact hnew
    · have hne : ad f' i' ≠ ad f i := fun q => he (h2 f' i' f i hi' hi q)
      have hval : ∀ k', av_val (av_wr μ f i k v) f' i' k' = av_val μ f' i' k' := fun k' => by
        rw [av_val_wr, if_neg (fun q => he ⟨q.1, q.2.1⟩)]
      obtain ⟨g1, g2, g3⟩ := h1 f' i' hi'
      refine ⟨fun q => ?_, fun q1 q2 => ?_, fun q1 q2 => ?_⟩
      · obtain ⟨cl, a1, a2, a3, a4⟩ := g1 q
        exact ⟨cl, by rw [oq _ hne]; exact a1, a2, a3, fun k' hk' => by rw [a4 k' hk']; dsimp only; rw [hval]⟩
      · obtain ⟨cl, a1, a2⟩ := g2 q1 q2
        exact ⟨cl, by rw [oq _ hne]; exact a1, a2⟩
      · obtain ⟨cl, a1, a2, a3, a4, a5, a6⟩ := g3 q1 q2
        exact ⟨cl, by rw [oq _ hne]; exact a1, a2, a3, a4, a5, fun k' hk' => by rw [a6 k' hk']; dsimp only; rw [hval]⟩
  · show av_live μ _
    rw [av_val_wr]
    split
    · exact hv
    · exact h4 f' i' k' hi'
  · by_cases he : q = ad f i
    · subst he
      rw [hc'] at hcl
      cases hcl
      exact hvm
    · rw [oq q he] at hcl
      exact h5 q cl hq hcl
theorem av_arr_isA {D : va_G} {tA : Nat → ClassId} {s : State} (hK : av_K D tA s) {kd : Nat} (hk : kd ∈ [19, 20, 21, 22, 30, 31, 32, 33, 36]) {cell : Cell} (hc : cell.cls = tA kd) (hv : cell.vm.isStatics = false) : s.isArrayOf cell (av_kty kd) := by
  obtain ⟨k, comp, h1, h2, -⟩ := hK.2.2 kd hk
  exact ⟨fun q hq => (by rw [hq] at hv; cases hv), k, (by rw [hc]; exact h1), comp, h2⟩
theorem av_setSlot_arr {cell : Cell} {n : Nat} {f : Nat → Value} {j : Nat} {v : Value} (hs : cell.slots.size = n) (hf : ∀ k, k < n → cell.slots[k]? = some (f k)) (hj : j < n) : (cell.setSlot j v).slots.size = n ∧ ∀ k, k < n → (cell.setSlot j v).slots[k]? = some (if k = j then v else f k) := by
  refine ⟨by simp [Cell.setSlot, hs], fun k hk => ?_⟩
  by_cases e : k = j
  · subst e
    rw [Cell.slots_setSlot_self _ (by rw [hs]; exact hj), if_pos rfl]
  · rw [slot_ne _ _ (Ne.symm e), hf k hk, if_neg e]
theorem av_kd_in : ∀ f, 19 ≤ av_kd f → av_kd f < 39 → av_kd f ∈ [19, 20, 21, 22, 30, 31, 32, 33, 36] := by
  have h0 : ∀ k ∈ 99 :: tl_kds, 19 ≤ k → k < 39 → k ∈ [19, 20, 21, 22, 30, 31, 32, 33, 36] := by decide +kernel
  intro f
  refine h0 (av_kd f) ?_
  unfold av_kd
  rw [List.getD_eq_getElem?_getD]
  cases h : tl_kds[f]? with
  | none => exact List.mem_cons_self
  | some k => exact List.mem_cons_of_mem _ (List.mem_of_getElem? h)
theorem av_kty_ref : ∀ kd, 30 ≤ kd → (av_kty kd).isReference = true := by
  intro kd h
  unfold av_kty
  split <;> first | omega | rfl
section Steps9
variable {D : va_G} {tA : Nat → ClassId} {B0 : Nat} {n0 : Nat → Nat} {ad0 : Nat → Nat → Nat} {c0 s0 y : Nat} {p : Program} {l : Launch} {e : Env} {R : Room} {s : State} {m : MethodId} {args : Array Value} {below : List Frame} {meth : Method} {c : Code} {Q : State → Prop} {pc : Nat} {ls : List (Option av_V)} {r : List av_V} {μ : av_M}
theorem st_get (X : av_X D tA p R s m args meth c y) {idx ci k : Nat} (h : tl_ins y pc = some (.getfield idx)) (hf : tl_fldq (tl_own y) idx = some (ci, k)) (hc : ci < 9) (hk : k < tl_NF.getD ci 0) {q : Nat × Nat} (hq : av_kd q.1 = ci) (K : av_KK D tA B0 n0 ad0 c0 s0 y p l e R s m args below meth c Q (pc + 3) ls (av_val μ q.1 q.2 k :: r) μ) : av_KK D tA B0 n0 ad0 c0 s0 y p l e R s m args below meth c Q pc ls (.inr (.inr (some q)) :: r) μ := by
  intro ad H locs cells slots Lc I
  obtain ⟨hx, hb, hml, hown, hts, hlk, hrt, hex, hnm, hfr, hlo, hK⟩ := X
  subst hq
  have hlive : q.2 < av_cnt μ q.1 := (av_ml I.2.2.1).1
  obtain ⟨hS, hfc, kC, hkC, hkind⟩ := hK.1.1 _ _ (tl_cl_at _ hc)
  obtain ⟨cf, kf, fi, f, hi, hsl⟩ := hS k hk
  obtain ⟨cell, q1, q2, q3, q4⟩ := (I.1.1 q.1 q.2 hlive).1 hc
  have hi' := hi
  rw [show (tl_TF (av_kd q.1) k).1 = _ from tl_dc _ hc k] at hi'
  refine W.getf hx hb hown (hts _ (tl_fldq_ok hf)) hi' (u_facts hfc hkC (u_lays hts (tl_lay _ hc) hk) hi).1 q1 (by rw [q3]; exact fun h => by cases h) (v := av_vm ad (av_val μ q.1 q.2 k)) ?_ rfl rfl (tl_dec h rfl) ?_
  · rw [hsl]; exact q4 k hk
  · exact K ad H locs cells slots Lc (I.st (av_mc (I.1.2.2.2.1 _ _ _ hlive) (av_ml I.2.2.1).2))
theorem av_I.wr {ad : Nat → Nat → Nat} {H H' : Heap} {locs : List Loc} {cells slots : Nat} {Lc : Array Slot} {st : List av_V} (I : av_I D tA B0 n0 ad0 c0 s0 y ad ls st μ H locs cells slots Lc) {f i k a j : Nat} {v : av_V} (hW : av_W D tA B0 ad (av_wr μ f i k v) H') (hr : ∀ x ∈ r, av_live μ x) (ha : B0 ≤ a) : av_I D tA B0 n0 ad0 c0 s0 y ad ls r (av_wr μ f i k v) H' (locs ++ [⟨a, j⟩]) cells slots Lc := by
  obtain ⟨-, h2, -, h4, h5, h6, h7, h8⟩ := I
  refine ⟨hW, h2, hr, fun q hq => ?_, h5, h6, h7, h8⟩
  rcases List.mem_append.mp hq with hq | hq
  · exact h4 q hq
  · rw [List.mem_singleton.mp hq]; exact ha
theorem st_put (X : av_X D tA p R s m args meth c y) {idx ci k : Nat} (h : tl_ins y pc = some (.putfield idx)) (hf : tl_fldq (tl_own y) idx = some (ci, k)) (hc : ci < 9) (hk : k < tl_NF.getD ci 0) {q : Nat × Nat} (hq : av_kd q.1 = ci) {v : av_V} (hfit : av_fit (tl_ty ci k) v = true) (hw : av_fin ci k = false ∨ (av_isInit y = true ∧ tl_own y = ci)) (K : av_KK D tA B0 n0 ad0 c0 s0 y p l e R s m args below meth c Q (pc + 3) ls r (av_wr μ q.1 q.2 k v)) : av_KK D tA B0 n0 ad0 c0 s0 y p l e R s m args below meth c Q pc ls (v :: .inr (.inr (some q)) :: r) μ := by
  intro ad H locs cells slots Lc I
  obtain ⟨hx, hb, hml, hown, hts, hlk, hrt, hex, hnm, hfr, hlo, hK⟩ := X
  subst hq
  have hlv := (av_ml I.2.2.1).1
  have hlive : q.2 < av_cnt μ q.1 := (av_ml (av_ml I.2.2.1).2).1
  obtain ⟨hS, hfc, kC, hkC, hkind⟩ := hK.1.1 _ _ (tl_cl_at _ hc)
  obtain ⟨cf, kf, fi, f, hi, hsl⟩ := hS k hk
  obtain ⟨cell, q1, q2, q3, q4⟩ := (I.1.1 q.1 q.2 hlive).1 hc
  have hi' := hi
  rw [show (tl_TF (av_kd q.1) k).1 = _ from tl_dc _ hc k] at hi'
  have hap := va_apart (own := tl_cn.getD (tl_own y) "") hts (tl_lay _ hc) (tl_ty (av_kd q.1)) (tl_pty _ hc) (tl_nm _ hc) hK.1 (tl_cl_at _ hc)
  have hB : B0 ≤ ad q.1 q.2 := (I.1.2.2.1 q.1 q.2 hlive).2 (by omega)
  obtain ⟨fn, ff⟩ := av_fit_ok (ad := ad) hfit
  have hst := (u_facts hfc hkC (u_lays hts (tl_lay _ hc) hk) hi).1
  have hdone : ∀ H' : Heap, H'[ad q.1 q.2]? = some (cell.setSlot f.slot (av_vm ad v)) → H'.size = H.size → (∀ x, x ≠ ad q.1 q.2 → H'[x]? = H[x]?) → W p l e R s m args below meth c H' (locs ++ [⟨ad q.1 q.2, f.slot⟩]) cells slots Q (F0 m (pc + 3) Lc (r.map (av_vm ad))) := by
    intro H' e1 e2 e3
    refine K ad H' _ cells slots Lc (I.wr ?_ (av_ml (av_ml I.2.2.1).2).2 hB)
    refine I.1.put hlive hlv hB q1 e1 (by show (cell.setSlot _ _).vm.isStatics = false; rw [show (cell.setSlot f.slot (av_vm ad v)).vm = cell.vm from rfl, q3]; rfl) e2 e3 ⟨fun _ => ?_, fun z => by omega, fun z => by omega⟩
    refine ⟨_, e1, q2, q3, fun k' hk' => ?_⟩
    rw [hsl, t_set q4 hap hk (av_vm ad v) k' hk']
    dsimp only
    rw [av_val_wr]
    unfold updV
    by_cases e9 : k' = k
    · rw [if_pos e9, if_pos ⟨rfl, rfl, e9⟩]
    · rw [if_neg e9, if_neg (fun z => e9 z.2.2)]
  have hlt : f.slot < cell.slots.size := by rw [hsl]; exact k2_hasslot (q4 k hk)
  have hlay := hts _ (tl_lay _ hc _ (u_in_lay hk))
  unfold u_lay at hlay
  have hfe : av_fin (av_kd q.1) k = (tl_TF (av_kd q.1) k).2.2.2 := by
    unfold av_fin
    rw [tl_cl_at _ hc]
  by_cases hfin : (tl_TF (av_kd q.1) k).2.2.2 = true
  · rw [if_pos hfin] at hlay
    obtain ⟨hin, hoe⟩ := hw.resolve_left (by rw [hfe, hfin]; decide)
    have hin2 : meth.name = "<init>" := by rw [hnm]; simpa [av_isInit] using hin
    have hcf : m.cls = cf := by
      obtain ⟨_, _, c', _, _, _, -, -, hf', -, -, -, hown2, -⟩ := Cond.laysFinal_spec hlay
      have e1 : c' = cf := by have := hi.symm.trans hf'; simp at this; exact this.1.symm
      rw [tl_dc _ hc k, ← hoe] at hown2
      rw [← e1]; exact Option.some.inj (hown.symm.trans hown2)
    have h6 := u_fits hfc hkC hkind (Or.inr hlay) hi (tl_pty _ hc k hk) fn ff
    exact W.putFinK hx hb hown (hts _ (tl_fldq_ok hf)) hi' hst hcf hin2 (by rw [q2]; exact h6) q1 q3 hlt rfl rfl (tl_dec h rfl) hdone
  · rw [if_neg hfin] at hlay
    have h6 := u_store hfc hkC hkind hlay hi (tl_pty _ hc k hk) fn ff
    exact W.putK hx hb (f := f) ⟨hown, hts _ (tl_fldq_ok hf), ⟨_, _, _, hi'⟩, hst⟩ (by rw [q2]; exact h6) q1 q3 hlt rfl rfl (tl_dec h rfl) hdone
theorem st_aldi (X : av_X D tA p R s m args meth c y) (h : tl_ins y pc = some .iaload) {j : Int32} {q : Nat × Nat} (hk : av_kd q.1 = 20 ∨ av_kd q.1 = 19) (ho : av_outD j (av_len μ q.1 q.2) = false) (K : av_KK D tA B0 n0 ad0 c0 s0 y p l e R s m args below meth c Q (pc + 1) ls (av_val μ q.1 q.2 j.toNatClampNeg :: r) μ) : av_KK D tA B0 n0 ad0 c0 s0 y p l e R s m args below meth c Q pc ls (.inl j :: .inr (.inr (some q)) :: r) μ := by
  intro ad H locs cells slots Lc I
  have hlive : q.2 < av_cnt μ q.1 := (av_ml (av_ml I.2.2.1).2).1
  have hkr : 19 ≤ av_kd q.1 ∧ av_kd q.1 < 39 := by omega
  obtain ⟨cell, a1, a2, a3, a4, a5, a6⟩ := (I.1.1 q.1 q.2 hlive).2.2 hkr.1 hkr.2
  have hA := av_arr_isA X.2.2.2.2.2.2.2.2.2.2.2 (av_kd_in _ hkr.1 hkr.2) a2 a4
  have hty : av_kty (av_kd q.1) = .int := by rcases hk with e | e <;> rw [e] <;> rfl
  rw [hty] at hA
  have ho' := av_outD_iff.mp ho
  refine W.iald X.1 X.2.1 a1 hA a3 (by rw [a5]; exact ho') (a6 _ (Nat.not_le.mp fun z => ho' (Or.inr z))) rfl rfl (tl_dec h rfl) (K ad H locs cells slots Lc (I.st (av_mc (I.1.2.2.2.1 _ _ _ hlive) (av_ml (av_ml I.2.2.1).2).2)))
theorem st_aldz (X : av_X D tA p R s m args meth c y) (h : tl_ins y pc = some .baload) {j : Int32} {q : Nat × Nat} (hk : av_kd q.1 = 21) (ho : av_outD j (av_len μ q.1 q.2) = false) (K : av_KK D tA B0 n0 ad0 c0 s0 y p l e R s m args below meth c Q (pc + 1) ls (av_val μ q.1 q.2 j.toNatClampNeg :: r) μ) : av_KK D tA B0 n0 ad0 c0 s0 y p l e R s m args below meth c Q pc ls (.inl j :: .inr (.inr (some q)) :: r) μ := by
  intro ad H locs cells slots Lc I
  have hlive : q.2 < av_cnt μ q.1 := (av_ml (av_ml I.2.2.1).2).1
  have hkr : 19 ≤ av_kd q.1 ∧ av_kd q.1 < 39 := by omega
  obtain ⟨cell, a1, a2, a3, a4, a5, a6⟩ := (I.1.1 q.1 q.2 hlive).2.2 hkr.1 hkr.2
  have hA := av_arr_isA X.2.2.2.2.2.2.2.2.2.2.2 (av_kd_in _ hkr.1 hkr.2) a2 a4
  rw [show av_kty (av_kd q.1) = .boolean by rw [hk]; rfl] at hA
  have ho' := av_outD_iff.mp ho
  refine W.zald X.1 X.2.1 a1 hA a3 (by rw [a5]; exact ho') (a6 _ (Nat.not_le.mp fun z => ho' (Or.inr z))) rfl rfl (tl_dec h rfl) (K ad H locs cells slots Lc (I.st (av_mc (I.1.2.2.2.1 _ _ _ hlive) (av_ml (av_ml I.2.2.1).2).2)))
theorem st_aldl (X : av_X D tA p R s m args meth c y) (h : tl_ins y pc = some .laload) {j : Int32} {q : Nat × Nat} (hk : av_kd q.1 = 22) (ho : av_outD j (av_len μ q.1 q.2) = false) (K : av_KK D tA B0 n0 ad0 c0 s0 y p l e R s m args below meth c Q (pc + 1) ls (av_val μ q.1 q.2 j.toNatClampNeg :: r) μ) : av_KK D tA B0 n0 ad0 c0 s0 y p l e R s m args below meth c Q pc ls (.inl j :: .inr (.inr (some q)) :: r) μ := by
  intro ad H locs cells slots Lc I
  have hlive : q.2 < av_cnt μ q.1 := (av_ml (av_ml I.2.2.1).2).1
  have hkr : 19 ≤ av_kd q.1 ∧ av_kd q.1 < 39 := by omega
  obtain ⟨cell, a1, a2, a3, a4, a5, a6⟩ := (I.1.1 q.1 q.2 hlive).2.2 hkr.1 hkr.2
  have hA := av_arr_isA X.2.2.2.2.2.2.2.2.2.2.2 (av_kd_in _ hkr.1 hkr.2) a2 a4
  rw [show av_kty (av_kd q.1) = .long by rw [hk]; rfl] at hA
  have ho' := av_outD_iff.mp ho
  refine W.lald X.1 X.2.1 a1 hA a3 (by rw [a5]; exact ho') (a6 _ (Nat.not_le.mp fun z => ho' (Or.inr z))) rfl rfl (tl_dec h rfl) (K ad H locs cells slots Lc (I.st (av_mc (I.1.2.2.2.1 _ _ _ hlive) (av_ml (av_ml I.2.2.1).2).2)))
theorem st_alda (X : av_X D tA p R s m args meth c y) (h : tl_ins y pc = some .aaload) {j : Int32} {q : Nat × Nat} (hk : 30 ≤ av_kd q.1 ∧ av_kd q.1 < 39) (ho : av_outD j (av_len μ q.1 q.2) = false) (K : av_KK D tA B0 n0 ad0 c0 s0 y p l e R s m args below meth c Q (pc + 1) ls (av_val μ q.1 q.2 j.toNatClampNeg :: r) μ) : av_KK D tA B0 n0 ad0 c0 s0 y p l e R s m args below meth c Q pc ls (.inl j :: .inr (.inr (some q)) :: r) μ := by
  intro ad H locs cells slots Lc I
  have hlive : q.2 < av_cnt μ q.1 := (av_ml (av_ml I.2.2.1).2).1
  have hkr : 19 ≤ av_kd q.1 ∧ av_kd q.1 < 39 := by omega
  obtain ⟨cell, a1, a2, a3, a4, a5, a6⟩ := (I.1.1 q.1 q.2 hlive).2.2 hkr.1 hkr.2
  have hA := av_arr_isA X.2.2.2.2.2.2.2.2.2.2.2 (av_kd_in _ hkr.1 hkr.2) a2 a4
  have ho' := av_outD_iff.mp ho
  refine W.aald X.1 X.2.1 a1 hA (av_kty_ref _ hk.1) a3 (by rw [a5]; exact ho') (a6 _ (Nat.not_le.mp fun z => ho' (Or.inr z))) rfl rfl (tl_dec h rfl) (K ad H locs cells slots Lc (I.st (av_mc (I.1.2.2.2.1 _ _ _ hlive) (av_ml (av_ml I.2.2.1).2).2)))
theorem st_alen (X : av_X D tA p R s m args meth c y) (h : tl_ins y pc = some .arraylength) {q : Nat × Nat} (hk : 19 ≤ av_kd q.1 ∧ av_kd q.1 < 39) (K : av_KK D tA B0 n0 ad0 c0 s0 y p l e R s m args below meth c Q (pc + 1) ls (.inl (nI (av_len μ q.1 q.2)) :: r) μ) : av_KK D tA B0 n0 ad0 c0 s0 y p l e R s m args below meth c Q pc ls (.inr (.inr (some q)) :: r) μ := by
  intro ad H locs cells slots Lc I
  have hlive : q.2 < av_cnt μ q.1 := (av_ml I.2.2.1).1
  obtain ⟨cell, a1, a2, a3, a4, a5, a6⟩ := (I.1.1 q.1 q.2 hlive).2.2 hk.1 hk.2
  have hA := av_arr_isA X.2.2.2.2.2.2.2.2.2.2.2 (av_kd_in _ hk.1 hk.2) a2 a4
  refine W.alen (n := nI (av_len μ q.1 q.2)) X.1 X.2.1 a1 hA (by rw [a5]; rfl) rfl rfl (tl_dec h rfl) (K ad H locs cells slots Lc (I.st (av_mc trivial (av_ml I.2.2.1).2)))
theorem av_W.arr {ad : Nat → Nat → Nat} {H H' : Heap} (hW : av_W D tA B0 ad μ H) {q : Nat × Nat} {j : Nat} {v : av_V} (hlive : q.2 < av_cnt μ q.1) (hv : av_live μ v) (hk : 20 ≤ av_kd q.1 ∧ av_kd q.1 < 39) (hj : j < av_len μ q.1 q.2) {cell : Cell} (a1 : H[ad q.1 q.2]? = some cell) (a2 : cell.cls = tA (av_kd q.1)) (a3 : cell.vm ≠ .unknown) (a4 : cell.vm.isStatics = false) (a5 : cell.slots.size = av_len μ q.1 q.2) (a6 : ∀ k, k < av_len μ q.1 q.2 → cell.slots[k]? = some (av_vm ad (av_val μ q.1 q.2 k)))
    (e1 : H'[ad q.1 q.2]? = some (cell.setSlot j (av_vm ad v))) (e2 : H'.size = H.size) (e3 : ∀ x, x ≠ ad q.1 q.2 → H'[x]? = H[x]?) : av_W D tA B0 ad (av_wr μ q.1 q.2 j v) H' ∧ B0 ≤ ad q.1 q.2 := by
  have hB : B0 ≤ ad q.1 q.2 := (hW.2.2.1 q.1 q.2 hlive).2 (by omega)
  refine ⟨hW.put hlive hv hB a1 e1 a4 e2 e3 ⟨fun z => by omega, fun z1 z2 => by omega, fun _ _ => ?_⟩, hB⟩
  obtain ⟨g1, g2⟩ := av_setSlot_arr (v := av_vm ad v) a5 a6 hj
  refine ⟨_, e1, a2, a3, a4, g1, fun k hk => ?_⟩
  rw [g2 k hk]
  dsimp only
  rw [av_val_wr]
  by_cases e9 : k = j
  · rw [if_pos e9, if_pos ⟨rfl, rfl, e9⟩]
  · rw [if_neg e9, if_neg (fun z => e9 z.2.2)]
theorem st_asti (X : av_X D tA p R s m args meth c y) (h : tl_ins y pc = some .iastore) {v j : Int32} {q : Nat × Nat} (hk : av_kd q.1 = 20) (ho : av_outD j (av_len μ q.1 q.2) = false) (K : av_KK D tA B0 n0 ad0 c0 s0 y p l e R s m args below meth c Q (pc + 1) ls r (av_wr μ q.1 q.2 j.toNatClampNeg (.inl v))) : av_KK D tA B0 n0 ad0 c0 s0 y p l e R s m args below meth c Q pc ls (.inl v :: .inl j :: .inr (.inr (some q)) :: r) μ := by
  intro ad H locs cells slots Lc I
  have hst := av_ml (av_ml (av_ml I.2.2.1).2).2
  have hlive : q.2 < av_cnt μ q.1 := hst.1
  obtain ⟨cell, a1, a2, a3, a4, a5, a6⟩ := (I.1.1 q.1 q.2 hlive).2.2 (by omega) (by omega)
  have hA := av_arr_isA X.2.2.2.2.2.2.2.2.2.2.2 (av_kd_in q.1 (by omega) (by omega)) a2 a4
  rw [show av_kty (av_kd q.1) = .int by rw [hk]; rfl] at hA
  have ho' := av_outD_iff.mp ho
  have hj : j.toNatClampNeg < av_len μ q.1 q.2 := Nat.not_le.mp fun z => ho' (Or.inr z)
  refine W.iast X.1 X.2.1 a1 hA a3 (by rw [a5]; exact ho') rfl rfl (tl_dec h rfl) (fun H' e1 e2 e3 => ?_)
  obtain ⟨g1, g2⟩ := I.1.arr (v := .inl v) hlive trivial (by omega) hj a1 a2 a3 a4 a5 a6 e1 e2 e3
  exact K ad H' _ cells slots Lc (I.wr g1 hst.2 g2)
theorem st_astz (X : av_X D tA p R s m args meth c y) (h : tl_ins y pc = some .bastore) {v j : Int32} {q : Nat × Nat} (hk : av_kd q.1 = 21) (hz : v = 0 ∨ v = 1) (ho : av_outD j (av_len μ q.1 q.2) = false) (K : av_KK D tA B0 n0 ad0 c0 s0 y p l e R s m args below meth c Q (pc + 1) ls r (av_wr μ q.1 q.2 j.toNatClampNeg (.inl v))) : av_KK D tA B0 n0 ad0 c0 s0 y p l e R s m args below meth c Q pc ls (.inl v :: .inl j :: .inr (.inr (some q)) :: r) μ := by
  intro ad H locs cells slots Lc I
  have hst := av_ml (av_ml (av_ml I.2.2.1).2).2
  have hlive : q.2 < av_cnt μ q.1 := hst.1
  obtain ⟨cell, a1, a2, a3, a4, a5, a6⟩ := (I.1.1 q.1 q.2 hlive).2.2 (by omega) (by omega)
  have hA := av_arr_isA X.2.2.2.2.2.2.2.2.2.2.2 (av_kd_in q.1 (by omega) (by omega)) a2 a4
  rw [show av_kty (av_kd q.1) = .boolean by rw [hk]; rfl] at hA
  have ho' := av_outD_iff.mp ho
  have hj : j.toNatClampNeg < av_len μ q.1 q.2 := Nat.not_le.mp fun z => ho' (Or.inr z)
  refine W.zast X.1 X.2.1 a1 hA a3 (by rw [a5]; exact ho') rfl rfl (tl_dec h rfl) (fun H' e1 e2 e3 => ?_)
  have hn : narrow .boolean (.int v) = av_vm ad (.inl v) := by rcases hz with rfl | rfl <;> rfl
  rw [hn] at e1
  obtain ⟨g1, g2⟩ := I.1.arr (v := .inl v) hlive trivial (by omega) hj a1 a2 a3 a4 a5 a6 e1 e2 e3
  exact K ad H' _ cells slots Lc (I.wr g1 hst.2 g2)
theorem st_astl (X : av_X D tA p R s m args meth c y) (h : tl_ins y pc = some .lastore) {v : Int64} {j : Int32} {q : Nat × Nat} (hk : av_kd q.1 = 22) (ho : av_outD j (av_len μ q.1 q.2) = false) (K : av_KK D tA B0 n0 ad0 c0 s0 y p l e R s m args below meth c Q (pc + 1) ls r (av_wr μ q.1 q.2 j.toNatClampNeg (.inr (.inl v)))) : av_KK D tA B0 n0 ad0 c0 s0 y p l e R s m args below meth c Q pc ls (.inr (.inl v) :: .inl j :: .inr (.inr (some q)) :: r) μ := by
  intro ad H locs cells slots Lc I
  have hst := av_ml (av_ml (av_ml I.2.2.1).2).2
  have hlive : q.2 < av_cnt μ q.1 := hst.1
  obtain ⟨cell, a1, a2, a3, a4, a5, a6⟩ := (I.1.1 q.1 q.2 hlive).2.2 (by omega) (by omega)
  have hA := av_arr_isA X.2.2.2.2.2.2.2.2.2.2.2 (av_kd_in q.1 (by omega) (by omega)) a2 a4
  rw [show av_kty (av_kd q.1) = .long by rw [hk]; rfl] at hA
  have ho' := av_outD_iff.mp ho
  have hj : j.toNatClampNeg < av_len μ q.1 q.2 := Nat.not_le.mp fun z => ho' (Or.inr z)
  refine W.last X.1 X.2.1 a1 hA a3 (by rw [a5]; exact ho') rfl rfl (tl_dec h rfl) (fun H' e1 e2 e3 => ?_)
  obtain ⟨g1, g2⟩ := I.1.arr (v := .inr (.inl v)) hlive trivial (by omega) hj a1 a2 a3 a4 a5 a6 e1 e2 e3
  exact K ad H' _ cells slots Lc (I.wr g1 hst.2 g2)
theorem st_asta (X : av_X D tA p R s m args meth c y) (h : tl_ins y pc = some .aastore) {w q : Nat × Nat} {j : Int32} (hk : av_kd q.1 = 30 + av_kd w.1) (hw : av_kd w.1 < 9) (ho : av_outD j (av_len μ q.1 q.2) = false) (K : av_KK D tA B0 n0 ad0 c0 s0 y p l e R s m args below meth c Q (pc + 1) ls r (av_wr μ q.1 q.2 j.toNatClampNeg (.inr (.inr (some w))))) : av_KK D tA B0 n0 ad0 c0 s0 y p l e R s m args below meth c Q pc ls (.inr (.inr (some w)) :: .inl j :: .inr (.inr (some q)) :: r) μ := by
  intro ad H locs cells slots Lc I
  have hwl : w.2 < av_cnt μ w.1 := (av_ml I.2.2.1).1
  have hst := av_ml (av_ml (av_ml I.2.2.1).2).2
  have hlive : q.2 < av_cnt μ q.1 := hst.1
  obtain ⟨cell, a1, a2, a3, a4, a5, a6⟩ := (I.1.1 q.1 q.2 hlive).2.2 (by omega) (by omega)
  have hK := X.2.2.2.2.2.2.2.2.2.2.2
  obtain ⟨kA, comp, k1, k2, -, k4⟩ := hK.2.2 _ (av_kd_in q.1 (by omega) (by omega))
  have hcomp := k4 (by omega)
  rw [hk, Nat.add_sub_cancel_left] at hcomp
  obtain ⟨cv, b1, b2, b3, b4⟩ := (I.1.1 w.1 w.2 hwl).1 hw
  obtain ⟨hS, hfc, kC, hkC, hkind⟩ := hK.1.1 _ _ (tl_cl_at _ hw)
  have ho' := av_outD_iff.mp ho
  have hj : j.toNatClampNeg < av_len μ q.1 q.2 := Nat.not_le.mp fun z => ho' (Or.inr z)
  have hsub : s.vm.assignable cv.cls comp = true := by
    rw [b2, hcomp]
    exact va_assign ⟨hfc, kC, hkC, hkind⟩
  refine W.aast X.1 X.2.1 a1 (fun x hx => by rw [hx] at a4; cases a4) a3 (by rw [a2]; exact k1) k2 (av_kty_ref _ (by omega)) (by rw [hcomp]; exact hkC) ⟨fun z => ho' (Or.inl z), by rw [a5]; exact hj⟩ b1 (fun x hx => by rw [b3] at hx; cases hx) (by rw [b2]; exact hkC) hsub rfl rfl (tl_dec h rfl) (fun H' e1 e2 e3 => ?_)
  obtain ⟨g1, g2⟩ := I.1.arr (v := .inr (.inr (some w))) hlive hwl (by omega) hj a1 a2 a3 a4 a5 a6 e1 e2 e3
  exact K ad H' _ cells slots Lc (I.wr g1 hst.2 g2)
end Steps9
