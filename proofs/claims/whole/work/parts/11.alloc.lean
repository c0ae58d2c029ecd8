/-! new objects and arrays; the ends of a method -/
def av_up2 (ad : Nat → Nat → Nat) (f i a : Nat) : Nat → Nat → Nat := fun f' i' => if f' = f ∧ i' = i then a else ad f' i'
theorem av_cnt_mk (μ : av_M) (f n sl : Nat) (d : Nat → av_V) (f' : Nat) : av_cnt (av_mk μ f n sl d) f' = if f' = f then av_cnt μ f + 1 else av_cnt μ f' := rfl
theorem av_len_mk (μ : av_M) (f n sl : Nat) (d : Nat → av_V) (f' i' : Nat) : av_len (av_mk μ f n sl d) f' i' = if f' = f ∧ i' = av_cnt μ f then n else av_len μ f' i' := rfl
theorem av_val_mk (μ : av_M) (f n sl : Nat) (d : Nat → av_V) (f' i' k' : Nat) : av_val (av_mk μ f n sl d) f' i' k' = if f' = f ∧ i' = av_cnt μ f then d k' else av_val μ f' i' k' := rfl
theorem av_cnt_le (μ : av_M) (f n sl : Nat) (d : Nat → av_V) (f' : Nat) : av_cnt μ f' ≤ av_cnt (av_mk μ f n sl d) f' := by
  rw [av_cnt_mk]; split
  · rename_i h; rw [h]; omega
  · omega
theorem av_live_mk {μ : av_M} {f n sl : Nat} {d : Nat → av_V} {v : av_V} (h : av_live μ v) : av_live (av_mk μ f n sl d) v := by
  rcases v with x | x | x
  · trivial
  · trivial
  · cases x with
    | none => trivial
    | some q => exact Nat.lt_of_lt_of_le (h : q.2 < av_cnt μ q.1) (av_cnt_le μ f n sl d q.1)
theorem av_vm_up {μ : av_M} {ad : Nat → Nat → Nat} {f a : Nat} {v : av_V} (h : av_live μ v) : av_vm (av_up2 ad f (av_cnt μ f) a) v = av_vm ad v := by
  rcases v with x | x | x
  · rfl
  · rfl
  · cases x with
    | none => rfl
    | some q =>
      have hq : q.2 < av_cnt μ q.1 := h
      show Value.ref (if q.1 = f ∧ q.2 = av_cnt μ f then a else ad q.1 q.2) = Value.ref (ad q.1 q.2)
      rw [if_neg (fun z => by have h1 := z.1; have h2 := z.2; rw [h2, h1] at hq; exact Nat.lt_irrefl _ hq)]
theorem av_map_up {μ : av_M} {ad : Nat → Nat → Nat} {f a : Nat} {r : List av_V} (h : ∀ x ∈ r, av_live μ x) : r.map (av_vm (av_up2 ad f (av_cnt μ f) a)) = r.map (av_vm ad) :=
  List.map_congr_left (fun x hx => av_vm_up (h x hx))
theorem av_W.mk {D : va_G} {tA : Nat → ClassId} {B0 : Nat} {ad : Nat → Nat → Nat} {μ : av_M} {H : Heap} (h : av_W D tA B0 ad μ H) {f n sl : Nat} {d : Nat → av_V} {cell : Cell} (hvm : cell.vm = .none) (hd : ∀ k q, d k ≠ .inr (.inr (some q))) (hn : n < 65536)
    (hnew : av_cell D tA (av_up2 ad f (av_cnt μ f) H.size) (av_mk μ f n sl d) f (av_cnt μ f) (H.push cell)) : av_W D tA B0 (av_up2 ad f (av_cnt μ f) H.size) (av_mk μ f n sl d) (H.push cell) := by
  obtain ⟨h1, h2, h3, h4, h5, h6, h7⟩ := h
  have hold : ∀ f' i', i' < av_cnt (av_mk μ f n sl d) f' → (f' = f ∧ i' = av_cnt μ f) ∨ (¬ (f' = f ∧ i' = av_cnt μ f) ∧ i' < av_cnt μ f') := by
    intro f' i' hi'
    rw [av_cnt_mk] at hi'
    by_cases e : f' = f
    · rw [if_pos e] at hi'
      by_cases e2 : i' = av_cnt μ f
      · exact Or.inl ⟨e, e2⟩
      · exact Or.inr ⟨fun z => e2 z.2, by rw [e]; omega⟩
    · rw [if_neg e] at hi'
      exact Or.inr ⟨fun z => e z.1, hi'⟩
  have hado : ∀ f' i', ¬ (f' = f ∧ i' = av_cnt μ f) → av_up2 ad f (av_cnt μ f) H.size f' i' = ad f' i' := fun f' i' hne => if_neg hne
  have hadn : av_up2 ad f (av_cnt μ f) H.size f (av_cnt μ f) = H.size := if_pos ⟨rfl, rfl⟩
  have hpush : ∀ q : Nat, q < H.size → (H.push cell)[q]? = H[q]? := fun q hq => by
    rw [Array.getElem?_push, if_neg (by omega)]
  have hlast : (H.push cell)[H.size]? = some cell := by rw [Array.getElem?_push, if_pos rfl]
  refine ⟨fun f' i' hi' => ?_, fun f' i' f'' i'' hi' hi'' he => ?_, fun f' i' hi' => ?_, fun f' i' k hi' => ?_, fun q cl hq hcl => ?_, by rw [Array.size_push]; omega, fun f' i' hi' => ?_⟩
  · rcases hold f' i' hi' with ⟨rfl, rfl⟩ | ⟨hne, hlt⟩
    · exact hnew
    · have hlt2 := (h3 f' i' hlt).1
      have hval : ∀ k', av_val (av_mk μ f n sl d) f' i' k' = av_val μ f' i' k' := fun k' => by rw [av_val_mk, if_neg hne]
      have hvm2 : ∀ k', av_vm (av_up2 ad f (av_cnt μ f) H.size) (av_val μ f' i' k') = av_vm ad (av_val μ f' i' k') := fun k' => av_vm_up (h4 f' i' k' hlt)
      have hlen : av_len (av_mk μ f n sl d) f' i' = av_len μ f' i' := by rw [av_len_mk, if_neg hne]
      obtain ⟨g1, g2, g3⟩ := h1 f' i' hlt
      unfold av_cell
      rw [hado f' i' hne, hlen]
      refine ⟨fun q => ?_, fun q1 q2 => ?_, fun q1 q2 => ?_⟩
      · obtain ⟨cl, a1, a2, a3, a4⟩ := g1 q
        exact ⟨cl, by rw [hpush _ hlt2]; exact a1, a2, a3, fun k' hk' => by rw [a4 k' hk']; dsimp only; rw [hval, hvm2]⟩
      · obtain ⟨cl, a1, a2⟩ := g2 q1 q2
        exact ⟨cl, by rw [hpush _ hlt2]; exact a1, a2⟩
      · obtain ⟨cl, a1, a2, a3, a4, a5, a6⟩ := g3 q1 q2
        exact ⟨cl, by rw [hpush _ hlt2]; exact a1, a2, a3, a4, a5, fun k' hk' => by rw [a6 k' hk']; dsimp only; rw [hval, hvm2]⟩
  · rcases hold f' i' hi' with ⟨rfl, rfl⟩ | ⟨hne, hlt⟩
    · rcases hold f'' i'' hi'' with ⟨rfl, rfl⟩ | ⟨hne2, hlt2⟩
      · exact ⟨rfl, rfl⟩
      · rw [hadn, hado _ _ hne2] at he
        have := (h3 f'' i'' hlt2).1
        omega
    · rcases hold f'' i'' hi'' with ⟨rfl, rfl⟩ | ⟨hne2, hlt2⟩
      · rw [hadn, hado _ _ hne] at he
        have := (h3 f' i' hlt).1
        omega
      · rw [hado _ _ hne, hado _ _ hne2] at he
        exact h2 f' i' f'' i'' hlt hlt2 he
  · rw [Array.size_push]
    rcases hold f' i' hi' with ⟨rfl, rfl⟩ | ⟨hne, hlt⟩
    · rw [hadn]; exact ⟨by omega, fun _ => h6⟩
    · rw [hado _ _ hne]
      exact ⟨by have := (h3 f' i' hlt).1; omega, (h3 f' i' hlt).2⟩
  · rw [av_val_mk]
    split
    · have hk := hd k
      generalize d k = w at hk
      rcases w with x | x | x
      · trivial
      · trivial
      · cases x with
        | none => trivial
        | some q => exact (hk q rfl).elim
    · rename_i hne
      rcases hold f' i' hi' with hh | ⟨-, hlt⟩
      · exact (hne hh).elim
      · exact av_live_mk (h4 f' i' k hlt)
  · by_cases e : q < H.size
    · rw [hpush q e] at hcl
      exact h5 q cl hq hcl
    · have hlt : q < (H.push cell).size := (Array.getElem?_eq_some_iff.mp hcl).1
      rw [Array.size_push] at hlt
      have : q = H.size := by omega
      subst this
      rw [hlast] at hcl
      cases hcl
      rw [hvm]; rfl
  · rw [av_len_mk]
    split
    · exact hn
    · rename_i hne
      rcases hold f' i' hi' with hh | ⟨-, hlt⟩
      · exact (hne hh).elim
      · exact h7 f' i' hlt
section Steps11
variable {D : va_G} {tA : Nat → ClassId} {B0 : Nat} {n0 : Nat → Nat} {ad0 : Nat → Nat → Nat} {c0 s0 y : Nat} {p : Program} {l : Launch} {e : Env} {R : Room} {s : State} {m : MethodId} {args : Array Value} {below : List Frame} {meth : Method} {c : Code} {Q : State → Prop} {pc : Nat} {ls : List (Option av_V)} {r : List av_V} {μ : av_M}
theorem av_I.mk {ad : Nat → Nat → Nat} {H : Heap} {locs : List Loc} {cells slots : Nat} {Lc : Array Slot} {st : List av_V} (I : av_I D tA B0 n0 ad0 c0 s0 y ad ls st μ H locs cells slots Lc) {f n sl : Nat} {d : Nat → av_V} {cell : Cell} (hW : av_W D tA B0 (av_up2 ad f (av_cnt μ f) H.size) (av_mk μ f n sl d) (H.push cell)) (hr : ∀ x ∈ r, av_live μ x) :
    av_I D tA B0 n0 ad0 c0 s0 y (av_up2 ad f (av_cnt μ f) H.size) ls (.inr (.inr (some (f, av_cnt μ f))) :: r) (av_mk μ f n sl d) (H.push cell) locs (cells + 1) (slots + sl) Lc := by
  obtain ⟨-, h2, -, h4, h5, h6, h7, h8⟩ := I
  refine ⟨hW, ⟨h2.1, h2.2.1, h2.2.2.1, fun i v hv => ?_⟩, av_mc ?_ (fun x hx => av_live_mk (hr x hx)), h4, ?_, ?_, fun f' => Nat.le_trans (h7 f') (av_cnt_le μ f n sl d f'), fun f' i hi => ?_⟩
  · obtain ⟨g1, g2, g3⟩ := h2.2.2.2 i v hv
    exact ⟨by rw [g1, av_vm_up g2], av_live_mk g2, g3⟩
  · show av_cnt μ f < av_cnt (av_mk μ f n sl d) f
    rw [av_cnt_mk, if_pos rfl]; omega
  · show c0 + (cells + 1) = μ.1.1 + 1
    omega
  · show s0 + (slots + sl) = μ.1.2 + sl
    omega
  · rw [← h8 f' i hi]
    refine if_neg (fun z => ?_)
    have h9 := h7 f'
    rw [z.1] at h9 hi
    rw [z.2] at hi
    omega
theorem st_new (X : av_X D tA p R s m args meth c y) {idx ci f : Nat} (h : tl_ins y pc = some (.new idx)) (hn : tl_newq (tl_own y) idx = some ci) (hc : ci < 9) (hf : av_kd f = ci) (hRc : μ.1.1 + 1 ≤ c0 + R.cells) (hRs : μ.1.2 + tl_NF.getD ci 0 ≤ s0 + R.slots)
    (K : av_KK D tA B0 n0 ad0 c0 s0 y p l e R s m args below meth c Q (pc + 3) ls (.inr (.inr (some (f, av_cnt μ f))) :: r) (av_mk μ f 0 (tl_NF.getD ci 0) (fun k => av_dv (tl_ty ci k)))) : av_KK D tA B0 n0 ad0 c0 s0 y p l e R s m args below meth c Q pc ls r μ := by
  intro ad H locs cells slots Lc I
  obtain ⟨hx, hb, hml, hown, hts, hlk, hrt, hex, hnm, hfr, hlo, hK⟩ := X
  subst hf
  have hlive := I.2.2.1
  have hcs : c0 + cells = μ.1.1 := I.2.2.2.2.1
  have hss : s0 + slots = μ.1.2 := I.2.2.2.2.2.1
  refine W.newc hx hb hown (hts _ (tl_newq_ok hn)) (hts _ (tl_at (tl_ins_ok _ hc))) (hts _ (tl_at (tl_ini_ok _ (by omega)))) rfl (tl_dec h rfl) (by omega) (by omega) (fun cC kC g1 g2 g3 g4 => ?_)
  obtain ⟨hS, hfc, -⟩ := id (hK.1.1 _ _ (tl_cl_at _ hc))
  have hcC : cC = D.1 (av_kd f) := Option.some.inj (g1.symm.trans hfc)
  subst hcC
  have hlast : (H.push (blank (D.1 (av_kd f)) kC))[H.size]? = some (blank (D.1 (av_kd f)) kC) := by rw [Array.getElem?_push, if_pos rfl]
  have hborn := u_born (tl_ty (av_kd f)) hts (tl_lay _ hc) (hK.1.1 _ _ (tl_cl_at _ hc)) g2 hlast (tl_pty _ hc)
  have hW : av_W D tA B0 (av_up2 ad f (av_cnt μ f) H.size) (av_mk μ f 0 (tl_NF.getD (av_kd f) 0) (fun k => av_dv (tl_ty (av_kd f) k))) (H.push (blank (D.1 (av_kd f)) kC)) := by
    refine I.1.mk rfl (fun k => ?_) (by omega) ⟨fun _ => ?_, fun z => by omega, fun z => by omega⟩
    · generalize tl_ty (av_kd f) k = ty
      intro q
      cases ty <;> simp [av_dv]
    · rw [show av_up2 ad f (av_cnt μ f) H.size f (av_cnt μ f) = H.size from if_pos ⟨rfl, rfl⟩]
      refine t_OB.to hborn (fun k hk => ?_)
      rw [av_val_mk, if_pos ⟨rfl, rfl⟩, tl_dv _ hc]
  have hgo := K _ _ locs (cells + 1) (slots + tl_NF.getD (av_kd f) 0) Lc (I.mk hW hlive)
  rw [List.map_cons, av_map_up hlive] at hgo
  rw [show av_vm (av_up2 ad f (av_cnt μ f) H.size) (.inr (.inr (some (f, av_cnt μ f)))) = .ref H.size from congrArg Value.ref (if_pos ⟨rfl, rfl⟩)] at hgo
  exact hgo
theorem av_newarr {ad : Nat → Nat → Nat} {H : Heap} (hW : av_W D tA B0 ad μ H) {f n sl : Nat} {v : av_V} (hk : 19 ≤ av_kd f ∧ av_kd f < 39) (hav : ∀ ad' : Nat → Nat → Nat, av_vm ad' v = av_vm ad v) (hnr : ∀ q, v ≠ .inr (.inr (some q))) (hn : n < 65536) {cell : Cell} (e1 : cell.cls = tA (av_kd f)) (e2 : cell.vm = .none) (e3 : cell.slots = Array.replicate n (av_vm ad v)) : av_W D tA B0 (av_up2 ad f (av_cnt μ f) H.size) (av_mk μ f n sl (fun _ => v)) (H.push cell) := by
  refine hW.mk e2 (fun k q => hnr q) hn ⟨fun z => by omega, fun z1 z2 => by omega, fun _ _ => ?_⟩
  rw [show av_up2 ad f (av_cnt μ f) H.size f (av_cnt μ f) = H.size from if_pos ⟨rfl, rfl⟩, av_len_mk, if_pos ⟨rfl, rfl⟩]
  refine ⟨cell, (by rw [Array.getElem?_push, if_pos rfl]), e1, (by rw [e2]; exact fun z => by cases z), (by rw [e2]; rfl), (by rw [e3]; simp), fun j hj => ?_⟩
  dsimp only
  rw [av_val_mk, if_pos ⟨rfl, rfl⟩, hav, e3]
  simp [hj]
theorem av_small {n : Int32} (h : av_outD n 1000 = false) : ¬ n < 0 ∧ n.toNatClampNeg < 1000 := by
  have h' := av_outD_iff.mp h
  exact ⟨fun z => h' (Or.inl z), Nat.not_le.mp fun z => h' (Or.inr z)⟩
theorem st_newaI (X : av_X D tA p R s m args meth c y) {f : Nat} (h : tl_ins y pc = some (.newarray .int)) {n : Int32} (hn : av_outD n 1000 = false) (hf : av_kd f = 20) (hRc : μ.1.1 + 1 ≤ c0 + R.cells) (hRs : μ.1.2 + n.toNatClampNeg ≤ s0 + R.slots)
    (K : av_KK D tA B0 n0 ad0 c0 s0 y p l e R s m args below meth c Q (pc + 2) ls (.inr (.inr (some (f, av_cnt μ f))) :: r) (av_mk μ f n.toNatClampNeg n.toNatClampNeg (fun _ => .inl 0))) : av_KK D tA B0 n0 ad0 c0 s0 y p l e R s m args below meth c Q pc ls (.inl n :: r) μ := by
  intro ad H locs cells slots Lc I
  obtain ⟨hx, hb, hml, hown, hts, hlk, hrt, hex, hnm, hfr, hlo, hK⟩ := X
  have hlive := (av_ml I.2.2.1).2
  have hcs : c0 + cells = μ.1.1 := I.2.2.2.2.1
  have hss : s0 + slots = μ.1.2 := I.2.2.2.2.2.1
  obtain ⟨hn1, hn2⟩ := av_small hn
  refine W.newa (atype := .int) hx hb (hts _ tl_arr_int) rfl (tl_dec h rfl) rfl hn1 (by show n.toNatClampNeg * 4 ≤ _; omega) (by omega) (by omega) (fun cA kA comp g1 g2 g3 => ?_)
  obtain ⟨k, cp, k1, k2, k3, k4⟩ := hK.2.2 20 (by decide)
  have hcA : cA = tA 20 := Option.some.inj (g1.symm.trans (k3 (by decide)))
  have hW := av_newarr (sl := n.toNatClampNeg) I.1 (f := f) (n := n.toNatClampNeg) (v := .inl 0) (by omega) (fun _ => rfl) (fun q z => by cases z) (by omega) (cell := { cls := cA, slots := Array.replicate n.toNatClampNeg (defaultValue .int), vm := .none }) (by rw [hf]; exact hcA) rfl rfl
  have hgo := K _ _ locs (cells + 1) (slots + n.toNatClampNeg) Lc (I.mk hW hlive)
  rw [List.map_cons, av_map_up hlive] at hgo
  rw [show av_vm (av_up2 ad f (av_cnt μ f) H.size) (.inr (.inr (some (f, av_cnt μ f)))) = .ref H.size from congrArg Value.ref (if_pos ⟨rfl, rfl⟩)] at hgo
  exact hgo
theorem st_newaZ (X : av_X D tA p R s m args meth c y) {f : Nat} (h : tl_ins y pc = some (.newarray .boolean)) {n : Int32} (hn : av_outD n 1000 = false) (hf : av_kd f = 21) (hRc : μ.1.1 + 1 ≤ c0 + R.cells) (hRs : μ.1.2 + n.toNatClampNeg ≤ s0 + R.slots)
    (K : av_KK D tA B0 n0 ad0 c0 s0 y p l e R s m args below meth c Q (pc + 2) ls (.inr (.inr (some (f, av_cnt μ f))) :: r) (av_mk μ f n.toNatClampNeg n.toNatClampNeg (fun _ => .inl 0))) : av_KK D tA B0 n0 ad0 c0 s0 y p l e R s m args below meth c Q pc ls (.inl n :: r) μ := by
  intro ad H locs cells slots Lc I
  obtain ⟨hx, hb, hml, hown, hts, hlk, hrt, hex, hnm, hfr, hlo, hK⟩ := X
  have hlive := (av_ml I.2.2.1).2
  have hcs : c0 + cells = μ.1.1 := I.2.2.2.2.1
  have hss : s0 + slots = μ.1.2 := I.2.2.2.2.2.1
  obtain ⟨hn1, hn2⟩ := av_small hn
  refine W.newa (atype := .boolean) hx hb (hts _ tl_arr_boolean) rfl (tl_dec h rfl) rfl hn1 (by show n.toNatClampNeg * 1 ≤ _; omega) (by omega) (by omega) (fun cA kA comp g1 g2 g3 => ?_)
  obtain ⟨k, cp, k1, k2, k3, k4⟩ := hK.2.2 21 (by decide)
  have hcA : cA = tA 21 := Option.some.inj (g1.symm.trans (k3 (by decide)))
  have hW := av_newarr (sl := n.toNatClampNeg) I.1 (f := f) (n := n.toNatClampNeg) (v := .inl 0) (by omega) (fun _ => rfl) (fun q z => by cases z) (by omega) (cell := { cls := cA, slots := Array.replicate n.toNatClampNeg (defaultValue .boolean), vm := .none }) (by rw [hf]; exact hcA) rfl rfl
  have hgo := K _ _ locs (cells + 1) (slots + n.toNatClampNeg) Lc (I.mk hW hlive)
  rw [List.map_cons, av_map_up hlive] at hgo
  rw [show av_vm (av_up2 ad f (av_cnt μ f) H.size) (.inr (.inr (some (f, av_cnt μ f)))) = .ref H.size from congrArg Value.ref (if_pos ⟨rfl, rfl⟩)] at hgo
  exact hgo
theorem st_newaL (X : av_X D tA p R s m args meth c y) {f : Nat} (h : tl_ins y pc = some (.newarray .long)) {n : Int32} (hn : av_outD n 1000 = false) (hf : av_kd f = 22) (hRc : μ.1.1 + 1 ≤ c0 + R.cells) (hRs : μ.1.2 + n.toNatClampNeg ≤ s0 + R.slots)
    (K : av_KK D tA B0 n0 ad0 c0 s0 y p l e R s m args below meth c Q (pc + 2) ls (.inr (.inr (some (f, av_cnt μ f))) :: r) (av_mk μ f n.toNatClampNeg n.toNatClampNeg (fun _ => .inr (.inl 0)))) : av_KK D tA B0 n0 ad0 c0 s0 y p l e R s m args below meth c Q pc ls (.inl n :: r) μ := by
  intro ad H locs cells slots Lc I
  obtain ⟨hx, hb, hml, hown, hts, hlk, hrt, hex, hnm, hfr, hlo, hK⟩ := X
  have hlive := (av_ml I.2.2.1).2
  have hcs : c0 + cells = μ.1.1 := I.2.2.2.2.1
  have hss : s0 + slots = μ.1.2 := I.2.2.2.2.2.1
  obtain ⟨hn1, hn2⟩ := av_small hn
  refine W.newa (atype := .long) hx hb (hts _ tl_arr_long) rfl (tl_dec h rfl) rfl hn1 (by show n.toNatClampNeg * 8 ≤ _; omega) (by omega) (by omega) (fun cA kA comp g1 g2 g3 => ?_)
  obtain ⟨k, cp, k1, k2, k3, k4⟩ := hK.2.2 22 (by decide)
  have hcA : cA = tA 22 := Option.some.inj (g1.symm.trans (k3 (by decide)))
  have hW := av_newarr (sl := n.toNatClampNeg) I.1 (f := f) (n := n.toNatClampNeg) (v := .inr (.inl 0)) (by omega) (fun _ => rfl) (fun q z => by cases z) (by omega) (cell := { cls := cA, slots := Array.replicate n.toNatClampNeg (defaultValue .long), vm := .none }) (by rw [hf]; exact hcA) rfl rfl
  have hgo := K _ _ locs (cells + 1) (slots + n.toNatClampNeg) Lc (I.mk hW hlive)
  rw [List.map_cons, av_map_up hlive] at hgo
  rw [show av_vm (av_up2 ad f (av_cnt μ f) H.size) (.inr (.inr (some (f, av_cnt μ f)))) = .ref H.size from congrArg Value.ref (if_pos ⟨rfl, rfl⟩)] at hgo
  exact hgo
theorem st_anew (X : av_X D tA p R s m args meth c y) {idx ci f : Nat} (h : tl_ins y pc = some (.anewarray idx)) (hq : tl_newq (tl_own y) idx = some ci) {n : Int32} (hn : av_outD n 1000 = false) (hf : av_kd f = 30 + ci) (hc : ci < 9) (hRc : μ.1.1 + 1 ≤ c0 + R.cells) (hRs : μ.1.2 + n.toNatClampNeg ≤ s0 + R.slots)
    (K : av_KK D tA B0 n0 ad0 c0 s0 y p l e R s m args below meth c Q (pc + 3) ls (.inr (.inr (some (f, av_cnt μ f))) :: r) (av_mk μ f n.toNatClampNeg n.toNatClampNeg (fun _ => .inr (.inr none)))) : av_KK D tA B0 n0 ad0 c0 s0 y p l e R s m args below meth c Q pc ls (.inl n :: r) μ := by
  intro ad H locs cells slots Lc I
  obtain ⟨hx, hb, hml, hown, hts, hlk, hrt, hex, hnm, hfr, hlo, hK⟩ := X
  have hlive := (av_ml I.2.2.1).2
  have hcs : c0 + cells = μ.1.1 := I.2.2.2.2.1
  have hss : s0 + slots = μ.1.2 := I.2.2.2.2.2.1
  obtain ⟨hn1, hn2⟩ := av_small hn
  have hin : 30 + ci ∈ [19, 20, 21, 22, 30, 31, 32, 33, 36] := by rw [← hf]; exact av_kd_in f (by omega) (by omega)
  obtain ⟨ho1, ho2⟩ := tl_over ci hin
  refine W.anew hx hb hown (hts _ (tl_newq_ok hq)) (hts _ ho1) rfl (tl_dec h rfl) rfl hn1 (by omega) (by omega) (by omega) (fun cA kA comp g1 g2 g3 g4 => ?_)
  obtain ⟨k, cp, k1, k2, k3, k4⟩ := hK.2.2 (30 + ci) hin
  have k5 := k3 (by omega)
  rw [ho2] at k5
  have hcA : cA = tA (30 + ci) := Option.some.inj (g1.symm.trans k5)
  have hW := av_newarr (sl := n.toNatClampNeg) I.1 (f := f) (n := n.toNatClampNeg) (v := .inr (.inr none)) (by omega) (fun _ => rfl) (fun q z => by cases z) (by omega) (cell := { cls := cA, slots := Array.replicate n.toNatClampNeg .null, vm := .none }) (by rw [hf]; exact hcA) rfl rfl
  have hgo := K _ _ locs (cells + 1) (slots + n.toNatClampNeg) Lc (I.mk hW hlive)
  rw [List.map_cons, av_map_up hlive] at hgo
  rw [show av_vm (av_up2 ad f (av_cnt μ f) H.size) (.inr (.inr (some (f, av_cnt μ f)))) = .ref H.size from congrArg Value.ref (if_pos ⟨rfl, rfl⟩)] at hgo
  exact hgo
theorem W.mono {H : Heap} {locs : List Loc} {cells slots : Nat} {Q1 Q2 : State → Prop} {g : JFrame} (h : W p l e R s m args below meth c H locs cells slots Q1 g) (hq : ∀ t, Q1 t → Q2 t) : W p l e R s m args below meth c H locs cells slots Q2 g := by
  intro T hT X
  obtain ⟨t, a, b⟩ := h T hT X
  exact ⟨t, a, hq t b⟩
theorem av_MQ {ad : Nat → Nat → Nat} {H : Heap} {cells slots : Nat} {o : av_O} {oc : Outcome} (hW : av_W D tA B0 ad μ H) (hn : ∀ f, n0 f ≤ av_cnt μ f) (ha : ∀ f i, i < n0 f → ad f i = ad0 f i) (ho : av_orel ad μ o oc) (hc : c0 + cells = μ.1.1) (hs : s0 + slots = μ.1.2) : ∀ t, MQ below (fun _ _ oc' t => oc' = oc ∧ t.heap = H) args s cells slots (fun q => B0 ≤ q) t → av_Q D tA B0 n0 ad0 c0 s0 o μ below s t := by
  rintro t ⟨oc', h1, h2, ⟨rfl, h4⟩, L, ⟨h5, h6, h7⟩, h8⟩
  refine ⟨oc', h1, h2, ⟨ad, by rw [h4]; exact hW, ho, hn, ha⟩, h6, L, ?_, h8⟩
  rw [show μ.1.1 - c0 = cells by omega, show μ.1.2 - s0 = slots by omega]
  exact h7
theorem st_iret (X : av_X D tA p R s m args meth c y) (h : tl_ins y pc = some .ireturn) {v : Int32} (hr : tl_ret y = some .int ∨ (tl_ret y = some .boolean ∧ (v == 0 || v == 1) = true)) : av_KK D tA B0 n0 ad0 c0 s0 y p l e R s m args below meth c (av_Q D tA B0 n0 ad0 c0 s0 (.inl (some (.inl v))) μ below s) pc ls [.inl v] μ := by
  intro ad H locs cells slots Lc I
  obtain ⟨hx, hb, hml, hown, hts, hlk, hrt, hex, hnm, hfr, hlo, hK⟩ := X
  obtain ⟨ty, ht, hnr⟩ : ∃ ty, tl_ret y = some ty ∧ narrow ty (.int v) = .int v := by
    rcases hr with hr | ⟨hr, hz⟩
    · exact ⟨_, hr, rfl⟩
    · refine ⟨_, hr, ?_⟩
      have h2 : v = 0 ∨ v = 1 := by simpa using hz
      rcases h2 with rfl | rfl <;> rfl
  refine W.mono (W.zret (Qc := fun _ _ oc' t => oc' = .returned (some (.int v)) ∧ t.heap = H) (free := fun q => B0 ≤ q) hx hb (by rw [hrt]; exact ht) hnr (fun t ht2 _ => ⟨rfl, ht2⟩) I.2.2.2.1 (tl_dec h rfl) hlk) (av_MQ (args := args) I.1 I.2.2.2.2.2.2.1 I.2.2.2.2.2.2.2 ⟨rfl, trivial⟩ I.2.2.2.2.1 I.2.2.2.2.2.1)
theorem st_aret (X : av_X D tA p R s m args meth c y) (h : tl_ins y pc = some .areturn) {q : Nat × Nat} {nm : String} (hr : tl_ret y = some (.object nm)) : av_KK D tA B0 n0 ad0 c0 s0 y p l e R s m args below meth c (av_Q D tA B0 n0 ad0 c0 s0 (.inl (some (.inr (.inr (some q))))) μ below s) pc ls [.inr (.inr (some q))] μ := by
  intro ad H locs cells slots Lc I
  obtain ⟨hx, hb, hml, hown, hts, hlk, hrt, hex, hnm, hfr, hlo, hK⟩ := X
  refine W.mono (W.aret (Qc := fun _ _ oc' t => oc' = .returned (some (.ref (ad q.1 q.2))) ∧ t.heap = H) (free := fun q => B0 ≤ q) (v := .ref (ad q.1 q.2)) hx hb (by rw [hrt]; exact hr) (Or.inl ⟨_, rfl⟩) (Or.inr ⟨_, rfl⟩) (fun t ht2 _ => ⟨rfl, ht2⟩) I.2.2.2.1 (tl_dec h rfl) hlk) (av_MQ (args := args) I.1 I.2.2.2.2.2.2.1 I.2.2.2.2.2.2.2 ⟨rfl, (av_ml I.2.2.1).1⟩ I.2.2.2.2.1 I.2.2.2.2.2.1)
theorem st_vret (X : av_X D tA p R s m args meth c y) (h : tl_ins y pc = some .return_) (hr : tl_ret y = none) : av_KK D tA B0 n0 ad0 c0 s0 y p l e R s m args below meth c (av_Q D tA B0 n0 ad0 c0 s0 (.inl none) μ below s) pc ls [] μ := by
  intro ad H locs cells slots Lc I
  obtain ⟨hx, hb, hml, hown, hts, hlk, hrt, hex, hnm, hfr, hlo, hK⟩ := X
  refine W.mono (W.vret (Qc := fun _ _ oc' t => oc' = .returned none ∧ t.heap = H) (free := fun q => B0 ≤ q) hx hb (by rw [hrt]; exact hr) (fun t ht2 _ => ⟨rfl, ht2⟩) I.2.2.2.1 (tl_dec h rfl) hlk) (av_MQ (args := args) I.1 I.2.2.2.2.2.2.1 I.2.2.2.2.2.2.2 rfl I.2.2.2.2.1 I.2.2.2.2.2.1)
end Steps11
