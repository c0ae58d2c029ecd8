/-! the first ints, the heap of the end, and the larger constructors -/
def g0 (N w q a : Nat) (xs : Nat → Int32) : mG := fun f _ k => match f with
  | 0 => xs k
  | 7 => if k = 1 then 3 else 0
  | 10 => if k < 80 then -1 else 0
  | 11 => if k < 4 then -1 else 0
  | 20 => if k = 1 then -1 else 0
  | 23 => if k = 1 then -1 else 0
  | 26 => if k = 0 then 1 else 0
  | 28 => if k = 0 then 1 else if k = 3 then -1 else 0
  | 46 => if k < N then 1 else 0
  | 50 => if k < 3 then 1 else 0
  | 64 => if k = 0 then nI w else if k = 1 then nI q else if k = 2 then nI a else 0
  | 65 => if k = 1 then nI N else if k = 2 then nI w else if k = 3 then nI q else if k = 4 then nI a else if k = 6 then -1 else 0
  | _ => 0
def hH (N w q a : Nat) (xs : Nat → Int32) : mH := fun f i k => if mi f k = true then .inl (g0 N w q a xs f i k) else mr N 0 f i k
def pa (F b j : Nat) : Nat → av_V := fun k => if k < j then .inr (.inr (some (F, b + k))) else .inr (.inr none)
theorem pa_0 (F b : Nat) : pa F b 0 = fun _ => .inr (.inr none) := funext (fun k => if_neg (Nat.not_lt_zero k))
theorem pa_s (F b j : Nat) : du (pa F b j) j (.inr (.inr (some (F, b + j)))) = pa F b (j + 1) := by
  funext k
  unfold du pa
  by_cases y : k = j
  · rw [if_pos y, if_pos (by omega), y]
  · rw [if_neg y]
    by_cases z : k < j
    · rw [if_pos z, if_pos (by omega)]
    · rw [if_neg z, if_neg (by omega)]
theorem tu_e (t : Nat → Nat) (f f' : Nat) : tu t f f' = t f' + (if f' = f then 1 else 0) := by
  unfold tu
  by_cases y : f' = f
  · rw [if_pos y, if_pos y, y]
  · rw [if_neg y, if_neg y]; rfl
section M31
variable (N w q a : Nat) (xs : Nat → Int32)
theorem H_1 (i k : Nat) : hH N w q a xs 1 i k = .inl 0 := rfl
theorem H_2 (i k : Nat) : hH N w q a xs 2 i k = .inl 0 := rfl
theorem H_3 (i k : Nat) : hH N w q a xs 3 i k = .inl 0 := rfl
theorem H_4 (i k : Nat) : hH N w q a xs 4 i k = .inl 0 := rfl
theorem H_5 (i k : Nat) : hH N w q a xs 5 i k = .inl 0 := rfl
theorem H_9 (i k : Nat) : hH N w q a xs 9 i k = .inl 0 := rfl
theorem H_12 (i k : Nat) : hH N w q a xs 12 i k = .inl 0 := rfl
theorem H_13 (i k : Nat) : hH N w q a xs 13 i k = .inl 0 := rfl
theorem H_14 (i k : Nat) : hH N w q a xs 14 i k = .inl 0 := rfl
theorem H_15 (i k : Nat) : hH N w q a xs 15 i k = .inl 0 := rfl
theorem H_16 (i k : Nat) : hH N w q a xs 16 i k = .inl 0 := rfl
theorem H_17 (i k : Nat) : hH N w q a xs 17 i k = .inl 0 := rfl
theorem H_22 (i k : Nat) : hH N w q a xs 22 i k = .inl 0 := rfl
theorem H_29 (i k : Nat) : hH N w q a xs 29 i k = .inl 0 := rfl
theorem H_36 (i k : Nat) : hH N w q a xs 36 i k = .inl 0 := rfl
theorem H_37 (i k : Nat) : hH N w q a xs 37 i k = .inl 0 := rfl
theorem H_38 (i k : Nat) : hH N w q a xs 38 i k = .inl 0 := rfl
theorem H_39 (i k : Nat) : hH N w q a xs 39 i k = .inl 0 := rfl
theorem H_40 (i k : Nat) : hH N w q a xs 40 i k = .inl 0 := rfl
theorem H_41 (i k : Nat) : hH N w q a xs 41 i k = .inl 0 := rfl
theorem H_42 (i k : Nat) : hH N w q a xs 42 i k = .inl 0 := rfl
theorem H_43 (i k : Nat) : hH N w q a xs 43 i k = .inl 0 := rfl
theorem H_44 (i k : Nat) : hH N w q a xs 44 i k = .inl 0 := rfl
theorem H_45 (i k : Nat) : hH N w q a xs 45 i k = .inl 0 := rfl
theorem H_47 (i k : Nat) : hH N w q a xs 47 i k = .inl 0 := rfl
theorem H_48 (i k : Nat) : hH N w q a xs 48 i k = .inl 0 := rfl
theorem H_49 (i k : Nat) : hH N w q a xs 49 i k = .inl 0 := rfl
theorem H_51 (i k : Nat) : hH N w q a xs 51 i k = .inl 0 := rfl
theorem H_52 (i k : Nat) : hH N w q a xs 52 i k = .inl 0 := rfl
theorem H_53 (i k : Nat) : hH N w q a xs 53 i k = .inl 0 := rfl
theorem H_54 (i k : Nat) : hH N w q a xs 54 i k = .inl 0 := rfl
theorem H_55 (i k : Nat) : hH N w q a xs 55 i k = .inl 0 := rfl
theorem H_56 (i k : Nat) : hH N w q a xs 56 i k = .inl 0 := rfl
theorem H_57 (i k : Nat) : hH N w q a xs 57 i k = .inl 0 := rfl
theorem H_58 (i k : Nat) : hH N w q a xs 58 i k = .inl 0 := rfl
theorem H_59 (i k : Nat) : hH N w q a xs 59 i k = .inl 0 := rfl
theorem H_60 (i k : Nat) : hH N w q a xs 60 i k = .inl 0 := rfl
theorem H_61 (i k : Nat) : hH N w q a xs 61 i k = .inl 0 := rfl
theorem H_62 (i k : Nat) : hH N w q a xs 62 i k = .inl 0 := rfl
theorem H_63 (i k : Nat) : hH N w q a xs 63 i k = .inl 0 := rfl
theorem H_10 (i k : Nat) : hH N w q a xs 10 i k = if k < 80 then .inl (-1) else .inl 0 := by
  show (.inl (if k < 80 then (-1) else 0) : av_V) = _
  split <;> rfl
theorem H_11 (i k : Nat) : hH N w q a xs 11 i k = if k < 4 then .inl (-1) else .inl 0 := by
  show (.inl (if k < 4 then (-1) else 0) : av_V) = _
  split <;> rfl
theorem H_46 (i k : Nat) : hH N w q a xs 46 i k = if k < N then .inl 1 else .inl 0 := by
  show (.inl (if k < N then 1 else 0) : av_V) = _
  split <;> rfl
theorem H_50 (i k : Nat) : hH N w q a xs 50 i k = if k < 3 then .inl 1 else .inl 0 := by
  show (.inl (if k < 3 then 1 else 0) : av_V) = _
  split <;> rfl
theorem H_18 (k : Nat) : hH N w q a xs 18 0 k = pa 20 0 10 k := by
  show (if k < 10 then .inr (.inr (some (20, k))) else .inr (.inr none) : av_V) = if k < 10 then .inr (.inr (some (20, 0 + k))) else .inr (.inr none)
  rw [Nat.zero_add]
theorem H_19 (k : Nat) : hH N w q a xs 19 0 k = pa 21 0 2 k := by
  show (if k < 2 then .inr (.inr (some (21, k))) else .inr (.inr none) : av_V) = if k < 2 then .inr (.inr (some (21, 0 + k))) else .inr (.inr none)
  rw [Nat.zero_add]
theorem H_25 (k : Nat) : hH N w q a xs 25 0 k = pa 26 0 N k := by
  show (if k < N then .inr (.inr (some (26, k))) else .inr (.inr none) : av_V) = if k < N then .inr (.inr (some (26, 0 + k))) else .inr (.inr none)
  rw [Nat.zero_add]
theorem H_27 (k : Nat) : hH N w q a xs 27 0 k = pa 28 0 3 k := by
  show (if k < 3 then .inr (.inr (some (28, k))) else .inr (.inr none) : av_V) = if k < 3 then .inr (.inr (some (28, 0 + k))) else .inr (.inr none)
  rw [Nat.zero_add]
theorem H_6 (i k : Nat) : hH N w q a xs 6 i k = pa 7 (2 * i) 2 k := rfl
theorem H_8 (i : Nat) (k : Nat) : hH N w q a xs 8 i k = (du (fun k => av_dv (tl_ty 6 k)) 0 (.inr (.inr (some (22, 2 + i))))) k := by
  match k with
  | 0 => rfl
  | _ + 1 => rfl
theorem H_21 (i : Nat) (k : Nat) : hH N w q a xs 21 i k = (du (fun k => av_dv (tl_ty 6 k)) 0 (.inr (.inr (some (22, i))))) k := by
  match k with
  | 0 => rfl
  | _ + 1 => rfl
theorem H_26 (i : Nat) (k : Nat) : hH N w q a xs 26 i k = (du (du (du (fun k => av_dv (tl_ty 0 k)) 0 (.inl 1)) 2 (.inr (.inr (some (1, i))))) 3 (.inr (.inr (some (2, i))))) k := by
  match k with
  | 0 => rfl
  | 1 => rfl
  | 2 => rfl
  | 3 => rfl
  | _ + 4 => rfl
theorem H_24 (i : Nat) (k : Nat) : hH N w q a xs 24 i k = (du (du (du (du (fun k => av_dv (tl_ty 4 k)) 1 (.inr (.inr (some (14, 0))))) 2 (.inr (.inr (some (15, 0))))) 3 (.inr (.inr (some (16, 0))))) 4 (.inr (.inr (some (17, 0))))) k := by
  match k with
  | 0 => rfl
  | 1 => rfl
  | 2 => rfl
  | 3 => rfl
  | 4 => rfl
  | _ + 5 => rfl
theorem H_20 (i : Nat) (k : Nat) : hH N w q a xs 20 i k = (du (du (du (du (du (fun k => av_dv (tl_ty 3 k)) 0 (.inl 0)) 1 (.inl (-1))) 3 (.inr (.inr (some (11, i))))) 4 (.inr (.inr (some (12, i))))) 5 (.inr (.inr (some (13, i))))) k := by
  match k with
  | 0 => rfl
  | 1 => rfl
  | 2 => rfl
  | 3 => rfl
  | 4 => rfl
  | 5 => rfl
  | _ + 6 => rfl
theorem H_7 (i : Nat) (k : Nat) : hH N w q a xs 7 i k = (du (du (du (du (fun k => av_dv (tl_ty 2 k)) 1 (.inl 3)) 2 (.inr (.inr (some (8, i))))) 3 (.inr (.inr (some (9, i))))) 4 (.inr (.inr (some (10, i))))) k := by
  match k with
  | 0 => rfl
  | 1 => rfl
  | 2 => rfl
  | 3 => rfl
  | 4 => rfl
  | _ + 5 => rfl
theorem H_23 (i : Nat) (k : Nat) : hH N w q a xs 23 i k = (du (du (du (fun k => av_dv (tl_ty 5 k)) 1 (.inl (-1))) 4 (.inr (.inr (some (18, 0))))) 5 (.inr (.inr (some (19, 0))))) k := by
  match k with
  | 0 => rfl
  | 1 => rfl
  | 2 => rfl
  | 3 => rfl
  | 4 => rfl
  | 5 => rfl
  | _ + 6 => rfl
theorem H_28 (i : Nat) (k : Nat) : hH N w q a xs 28 i k = (du (du (du (du (du (du (du (fun k => av_dv (tl_ty 1 k)) 0 (.inl 1)) 1 (.inl 0)) 3 (.inl (-1))) 7 (.inr (.inr (some (3, i))))) 8 (.inr (.inr (some (4, i))))) 9 (.inr (.inr (some (5, i))))) 10 (.inr (.inr (some (6, i))))) k := by
  match k with
  | 0 => rfl
  | 1 => rfl
  | 2 => rfl
  | 3 => rfl
  | 4 => rfl
  | 5 => rfl
  | 6 => rfl
  | 7 => rfl
  | 8 => rfl
  | 9 => rfl
  | 10 => rfl
  | _ + 11 => rfl
theorem H_64 (i : Nat) (k : Nat) : hH N w q a xs 64 i k = (du (du (du (du (du (du (du (du (fun k => av_dv (tl_ty 7 k)) 0 (.inl (nI w))) 1 (.inl (nI q))) 2 (.inl (nI a))) 3 (.inr (.inr (some (23, 0))))) 4 (.inr (.inr (some (24, 0))))) 5 (.inr (.inr (some (25, 0))))) 6 (.inr (.inr (some (27, 0))))) 7 (.inr (.inr (some (29, 0))))) k := by
  match k with
  | 0 => rfl
  | 1 => rfl
  | 2 => rfl
  | 3 => rfl
  | 4 => rfl
  | 5 => rfl
  | 6 => rfl
  | 7 => rfl
  | _ + 8 => rfl
end M31
section M32
variable (N L w q a : Nat) (xs : Nat → Int32)
theorem kl_28a (h : mH) (hh : ∀ f i k, ¬ f = 64 → ¬ f = 27 → h f i k = hH N w q a xs f i k) (D u : Nat → av_V) (hD : D 4 = .inr (.inr (some (18, 0)))) : ∀ (r j c s : Nat) (t : Nat → Nat), j + r = 10 → t 20 = j → t 11 = j → t 12 = j → t 13 = j → ∃ c' s' t', c' ≤ c + 4 * r ∧ s' ≤ s + 20 * r ∧ (∀ f, t' f = t f + (if f = 20 ∨ f = 11 ∨ f = 12 ∨ f = 13 then r else 0)) ∧ av_run 28 28 [some (.inr (.inr (some (23, 0)))), some (.inl (nI j))] [] (cm N L c s t (hn (hn (hn h 23 0 D) 18 0 (pa 20 0 j)) 19 0 u)) = av_run 28 53 [some (.inr (.inr (some (23, 0)))), some (.inl (nI 10))] [] (cm N L c' s' t' (hn (hn (hn h 23 0 D) 18 0 (pa 20 0 10)) 19 0 u)) := by
  intro r
  induction r with
  | zero =>
    intro j c s t hj t20 t11 t12 t13
    have h1 : ((10 : Int32) ≤ nI j) = True := (iI_le (a := 10) (by omega) (by omega)).trans (eq_true (by omega))
    refine ⟨c, s, t, by omega, by omega, fun f => by split <;> rfl, ?_⟩
    rw [s_28_28]
    simp only [s_28_29, s_28_31, h1, ↓reduceIte]
    rw [show j = 10 by omega]
  | succ r ih =>
    intro j c s t hj t20 t11 t12 t13
    have h1 : ((10 : Int32) ≤ nI j) = False := (iI_le (a := 10) (by omega) (by omega)).trans (eq_false (by omega))
    have h2 : av_outD (nI j) 10 = false := ix (by omega) (by omega)
    have h3 : (nI j).toNatClampNeg = j := tn (by omega)
    have k23 := kc_23 N L (c + 1) (s + 6) (tu t 20) (hn (hn (hn h 23 0 D) 18 0 (pa 20 0 j)) 19 0 u) (t 20) (fun k => by simp only [hn_o, tu_o, Nat.reduceEqDiff, not_false_eq_true, t11]; rw [hh _ _ _ (by decide) (by decide)]; exact H_11 N w q a xs j k) (fun k => by simp only [hn_o, tu_o, Nat.reduceEqDiff, not_false_eq_true, t12]; rw [hh _ _ _ (by decide) (by decide)]; exact H_12 N w q a xs j k) (fun k => by simp only [hn_o, tu_o, Nat.reduceEqDiff, not_false_eq_true, t13]; rw [hh _ _ _ (by decide) (by decide)]; exact H_13 N w q a xs j k) (fun k => by simp only [hn_o, tu_o, Nat.reduceEqDiff, not_false_eq_true, t11, t12, t13, t20]; rw [hh _ _ _ (by decide) (by decide)]; exact H_20 N w q a xs j k)
    rw [t20] at k23
    obtain ⟨c2, s2, t2, e1, e2, e3, e4⟩ := ih (j + 1) (c + 1 + 1 + 1 + 1) (s + 6 + 4 + 6 + 4) (tu (tu (tu (tu t 20) 11) 12) 13) (by omega) (by simp only [tu_o, tu_s, Nat.reduceEqDiff, not_false_eq_true, t20]) (by simp only [tu_o, tu_s, Nat.reduceEqDiff, not_false_eq_true, t11]) (by simp only [tu_o, tu_s, Nat.reduceEqDiff, not_false_eq_true, t12]) (by simp only [tu_o, tu_s, Nat.reduceEqDiff, not_false_eq_true, t13])
    refine ⟨c2, s2, t2, by omega, by omega, ?_, Eq.trans ?_ e4⟩
    · intro f
      rw [e3 f]
      simp only [tu_e]
      repeat' split
      all_goals omega
    · have e0 : pa 20 0 (j + 1) = du (pa 20 0 j) j (.inr (.inr (some (20, j)))) := by rw [← pa_s 20 0 j, Nat.zero_add]
      rw [s_28_28]
      simp only [s_28_0, s_28_1, s_28_4, s_28_5, s_28_6, s_28_9, s_28_10, s_28_12, s_28_15, s_28_18, s_28_19, s_28_20, s_28_23, s_28_26, s_28_27, s_28_29, s_28_31, s_28_34, s_28_35, s_28_38, s_28_39, s_28_42, s_28_43, s_28_46, s_28_47, s_28_50, s_28_54, s_28_56, s_28_57, s_28_60, s_28_61, s_28_64, s_28_65, s_28_68, s_28_69, s_28_72, s_28_73, s_28_76, ctc_28, kd_0, kd_1, kd_2, kd_3, kd_4, kd_5, kd_6, kd_7, kd_8, kd_9, kd_10, kd_11, kd_12, kd_13, kd_14, kd_15, kd_16, kd_17, kd_18, kd_19, kd_20, kd_21, kd_22, kd_23, kd_24, kd_25, kd_26, kd_27, kd_28, kd_29, kd_30, kd_31, kd_32, kd_33, kd_34, kd_35, kd_36, kd_37, kd_38, kd_39, kd_40, kd_41, kd_42, kd_43, kd_44, kd_45, kd_46, kd_47, kd_48, kd_49, kd_50, kd_51, kd_52, kd_53, kd_54, kd_55, kd_56, kd_57, kd_58, kd_59, kd_60, kd_61, kd_62, kd_63, kd_64, kd_65, kd_66, v_0, v_1, v_2, v_3, v_4, v_5, v_7_0, v_7_1, v_9, v_10, v_11, v_12, v_13, v_14, v_15, v_16, v_17, v_20_0, v_20_1, v_20_2, v_22, v_23_0, v_23_1, v_23_2, v_23_3, v_24_0, v_26_0, v_26_1, v_28_0, v_28_1, v_28_2, v_28_3, v_28_4, v_28_5, v_28_6, v_29, v_36, v_37, v_38, v_39, v_40, v_41, v_42, v_43, v_44, v_45, v_46, v_47, v_48, v_49, v_50, v_51, v_52, v_53, v_54, v_55, v_56, v_57, v_58, v_59, v_60, v_61, v_62, v_63, v_64_0, v_64_1, v_64_2, v_65_0, v_65_1, v_65_2, v_65_3, v_65_4, v_65_5, v_65_6, v_65_7, v_65_8, v_65_14, v_65_37, v_26_2, v_26_3, v_28_7, v_28_8, v_28_9, v_28_10, v_7_2, v_7_3, v_7_4, v_20_3, v_20_4, v_20_5, v_24_1, v_24_2, v_24_3, v_24_4, v_23_4, v_23_5, v_8_0, v_21_0, v_64_3, v_64_4, v_64_5, v_64_6, v_64_7, v_65_9, v_65_10, v_65_11, v_65_12, v_65_13, v_65_15, v_65_16, v_65_17, v_65_18, v_65_19, v_65_20, v_65_21, v_65_22, v_65_23, v_65_24, v_65_25, v_65_26, v_65_27, v_65_28, v_65_29, v_65_30, v_65_31, v_65_32, v_65_33, v_65_34, v_65_35, v_65_36, v_65_38, v_6, v_18, v_19, v_25, v_27, v_66, n_0, n_25, n_1, n_2, n_3, n_4, n_5, n_6, n_9, n_10, n_11, n_12, n_13, n_14, n_15, n_16, n_17, n_18, n_19, n_22, n_27, n_29, n_66, n_36, n_37, n_38, n_39, n_40, n_41, n_42, n_43, n_44, n_45, n_46, n_47, n_48, n_49, n_50, n_51, n_52, n_53, n_54, n_55, n_56, n_57, n_58, n_59, n_60, n_61, n_62, n_63, mi_0, mi_1, mi_2, mi_3, mi_4, mi_5, mi_7_0, mi_7_1, mi_9, mi_10, mi_11, mi_12, mi_13, mi_14, mi_15, mi_16, mi_17, mi_20_0, mi_20_1, mi_20_2, mi_22, mi_23_0, mi_23_1, mi_23_2, mi_23_3, mi_24_0, mi_26_0, mi_26_1, mi_28_0, mi_28_1, mi_28_2, mi_28_3, mi_28_4, mi_28_5, mi_28_6, mi_29, mi_36, mi_37, mi_38, mi_39, mi_40, mi_41, mi_42, mi_43, mi_44, mi_45, mi_46, mi_47, mi_48, mi_49, mi_50, mi_51, mi_52, mi_53, mi_54, mi_55, mi_56, mi_57, mi_58, mi_59, mi_60, mi_61, mi_62, mi_63, mi_64_0, mi_64_1, mi_64_2, mi_65_0, mi_65_1, mi_65_2, mi_65_3, mi_65_4, mi_65_5, mi_65_6, mi_65_7, mi_65_8, mi_65_14, mi_65_37, mm_out, wt_0, wt_1, wt_2, wt_3, isI_1, isL_1, isZ_1, av_bind_ret, av_bind_thr, Option.toList_some, Option.toList_none, List.cons_append, List.nil_append, ↓reduceIte, Nat.reduceAdd, Nat.reduceLeDiff, Nat.reduceLT, Nat.reduceEqDiff, and_self, true_and, and_true, or_true, true_or, or_false, false_or, eq_self, not_true_eq_false, not_false_eq_true, w_0, w_1, w_2, w_3, w_4, w_5, w_7_0, w_7_1, w_9, w_10, w_11, w_12, w_13, w_14, w_15, w_16, w_17, w_20_0, w_20_1, w_20_2, w_22, w_23_0, w_23_1, w_23_2, w_23_3, w_24_0, w_26_0, w_26_1, w_28_0, w_28_1, w_28_2, w_28_3, w_28_4, w_28_5, w_28_6, w_29, w_36, w_37, w_38, w_39, w_40, w_41, w_42, w_43, w_44, w_45, w_46, w_47, w_48, w_49, w_50, w_51, w_52, w_53, w_54, w_55, w_56, w_57, w_58, w_59, w_60, w_61, w_62, w_63, w_64_0, w_64_1, w_64_2, w_65_0, w_65_1, w_65_2, w_65_3, w_65_4, w_65_5, w_65_6, w_65_7, w_65_8, w_65_14, w_65_37, cx_cnt, cx_val, cx_len, cx_wr, mk_1, mk_2, mk_3, mk_4, mk_5, mk_6, mk_9, mk_10, mk_11, mk_12, mk_13, mk_14, mk_15, mk_16, mk_17, mk_18, mk_19, mk_22, mk_27, mk_29, mk_36, mk_37, mk_38, mk_39, mk_40, mk_41, mk_42, mk_43, mk_44, mk_45, mk_46, mk_47, mk_48, mk_49, mk_50, mk_51, mk_52, mk_53, mk_54, mk_55, mk_56, mk_57, mk_58, mk_59, mk_60, mk_61, mk_62, mk_63, mk_66, mk_7, mk_8, mk_20, mk_21, mk_23, mk_24, mk_26, mk_28, mk_64, mk_65, td_1, td_2, td_3, td_4, td_6, td_10, td_18, td_24, td_40, td_60, td_61, td_70, td_80, td_160, td_480, od_1, od_2, od_3, od_4, od_6, od_10, od_18, od_24, od_40, od_60, od_61, od_70, od_80, od_160, od_480, ln_1, ln_2, ln_3, ln_4, ln_5, ln_6, ln_9, ln_10, ln_11, ln_12, ln_13, ln_14, ln_15, ln_16, ln_17, ln_18, ln_19, ln_22, ln_27, ln_29, ln_36, ln_37, ln_38, ln_39, ln_40, ln_41, ln_42, ln_43, ln_44, ln_45, ln_46, ln_47, ln_48, ln_49, ln_50, ln_51, ln_52, ln_53, ln_54, ln_55, ln_56, ln_57, ln_58, ln_59, ln_60, ln_61, ln_62, ln_63, ln_66, hu_s, hu_o, hn_s, hn_o, du_s, du_o, tu_s, tu_o, h1, h2, h3, hD, k23, t20, iI_s, e0]
theorem kl_28b (h : mH) (hh : ∀ f i k, ¬ f = 64 → ¬ f = 27 → h f i k = hH N w q a xs f i k) (D u : Nat → av_V) (hD : D 5 = .inr (.inr (some (19, 0)))) : ∀ (r j c s : Nat) (t : Nat → Nat), j + r = 2 → t 21 = j → t 22 = j → ∃ c' s' t', c' ≤ c + 2 * r ∧ s' ≤ s + 11 * r ∧ (∀ f, t' f = t f + (if f = 21 ∨ f = 22 then r else 0)) ∧ av_run 28 55 [some (.inr (.inr (some (23, 0)))), some (.inl (nI j))] [] (cm N L c s t (hn (hn (hn h 23 0 D) 18 0 (u)) 19 0 (pa 21 0 j))) = some (.inl none, cm N L c' s' t' (hn (hn (hn h 23 0 D) 18 0 (u)) 19 0 (pa 21 0 2))) := by
  intro r
  induction r with
  | zero =>
    intro j c s t hj t21 t22
    have h1 : ((2 : Int32) ≤ nI j) = True := (iI_le (a := 2) (by omega) (by omega)).trans (eq_true (by omega))
    refine ⟨c, s, t, by omega, by omega, fun f => by split <;> rfl, ?_⟩
    rw [s_28_55]
    simp only [s_28_56, s_28_57, s_28_79, h1, ↓reduceIte]
    rw [show j = 2 by omega]
  | succ r ih =>
    intro j c s t hj t21 t22
    have h1 : ((2 : Int32) ≤ nI j) = False := (iI_le (a := 2) (by omega) (by omega)).trans (eq_false (by omega))
    have h2 : av_outD (nI j) 2 = false := ix (by omega) (by omega)
    have h3 : (nI j).toNatClampNeg = j := tn (by omega)
    have k30 := kc_30_21 N L (c + 1) (s + 1) (tu t 21) (hn (hn (hn h 23 0 D) 18 0 (u)) 19 0 (pa 21 0 j)) (t 21) (fun k => by simp only [hn_o, tu_o, Nat.reduceEqDiff, not_false_eq_true, t22]; rw [hh _ _ _ (by decide) (by decide)]; exact H_22 N w q a xs j k) (fun k => by simp only [hn_o, tu_o, Nat.reduceEqDiff, not_false_eq_true, t21, t22]; rw [hh _ _ _ (by decide) (by decide)]; exact H_21 N w q a xs j k)
    rw [t21] at k30
    obtain ⟨c2, s2, t2, e1, e2, e3, e4⟩ := ih (j + 1) (c + 1 + 1) (s + 1 + 10) (tu (tu t 21) 22) (by omega) (by simp only [tu_o, tu_s, Nat.reduceEqDiff, not_false_eq_true, t21]) (by simp only [tu_o, tu_s, Nat.reduceEqDiff, not_false_eq_true, t22])
    refine ⟨c2, s2, t2, by omega, by omega, ?_, Eq.trans ?_ e4⟩
    · intro f
      rw [e3 f]
      simp only [tu_e]
      repeat' split
      all_goals omega
    · have e0 : pa 21 0 (j + 1) = du (pa 21 0 j) j (.inr (.inr (some (21, j)))) := by rw [← pa_s 21 0 j, Nat.zero_add]
      rw [s_28_55]
      simp only [s_28_0, s_28_1, s_28_4, s_28_5, s_28_6, s_28_9, s_28_10, s_28_12, s_28_15, s_28_18, s_28_19, s_28_20, s_28_23, s_28_26, s_28_27, s_28_29, s_28_31, s_28_34, s_28_35, s_28_38, s_28_39, s_28_42, s_28_43, s_28_46, s_28_47, s_28_50, s_28_54, s_28_56, s_28_57, s_28_60, s_28_61, s_28_64, s_28_65, s_28_68, s_28_69, s_28_72, s_28_73, s_28_76, ctc_28, kd_0, kd_1, kd_2, kd_3, kd_4, kd_5, kd_6, kd_7, kd_8, kd_9, kd_10, kd_11, kd_12, kd_13, kd_14, kd_15, kd_16, kd_17, kd_18, kd_19, kd_20, kd_21, kd_22, kd_23, kd_24, kd_25, kd_26, kd_27, kd_28, kd_29, kd_30, kd_31, kd_32, kd_33, kd_34, kd_35, kd_36, kd_37, kd_38, kd_39, kd_40, kd_41, kd_42, kd_43, kd_44, kd_45, kd_46, kd_47, kd_48, kd_49, kd_50, kd_51, kd_52, kd_53, kd_54, kd_55, kd_56, kd_57, kd_58, kd_59, kd_60, kd_61, kd_62, kd_63, kd_64, kd_65, kd_66, v_0, v_1, v_2, v_3, v_4, v_5, v_7_0, v_7_1, v_9, v_10, v_11, v_12, v_13, v_14, v_15, v_16, v_17, v_20_0, v_20_1, v_20_2, v_22, v_23_0, v_23_1, v_23_2, v_23_3, v_24_0, v_26_0, v_26_1, v_28_0, v_28_1, v_28_2, v_28_3, v_28_4, v_28_5, v_28_6, v_29, v_36, v_37, v_38, v_39, v_40, v_41, v_42, v_43, v_44, v_45, v_46, v_47, v_48, v_49, v_50, v_51, v_52, v_53, v_54, v_55, v_56, v_57, v_58, v_59, v_60, v_61, v_62, v_63, v_64_0, v_64_1, v_64_2, v_65_0, v_65_1, v_65_2, v_65_3, v_65_4, v_65_5, v_65_6, v_65_7, v_65_8, v_65_14, v_65_37, v_26_2, v_26_3, v_28_7, v_28_8, v_28_9, v_28_10, v_7_2, v_7_3, v_7_4, v_20_3, v_20_4, v_20_5, v_24_1, v_24_2, v_24_3, v_24_4, v_23_4, v_23_5, v_8_0, v_21_0, v_64_3, v_64_4, v_64_5, v_64_6, v_64_7, v_65_9, v_65_10, v_65_11, v_65_12, v_65_13, v_65_15, v_65_16, v_65_17, v_65_18, v_65_19, v_65_20, v_65_21, v_65_22, v_65_23, v_65_24, v_65_25, v_65_26, v_65_27, v_65_28, v_65_29, v_65_30, v_65_31, v_65_32, v_65_33, v_65_34, v_65_35, v_65_36, v_65_38, v_6, v_18, v_19, v_25, v_27, v_66, n_0, n_25, n_1, n_2, n_3, n_4, n_5, n_6, n_9, n_10, n_11, n_12, n_13, n_14, n_15, n_16, n_17, n_18, n_19, n_22, n_27, n_29, n_66, n_36, n_37, n_38, n_39, n_40, n_41, n_42, n_43, n_44, n_45, n_46, n_47, n_48, n_49, n_50, n_51, n_52, n_53, n_54, n_55, n_56, n_57, n_58, n_59, n_60, n_61, n_62, n_63, mi_0, mi_1, mi_2, mi_3, mi_4, mi_5, mi_7_0, mi_7_1, mi_9, mi_10, mi_11, mi_12, mi_13, mi_14, mi_15, mi_16, mi_17, mi_20_0, mi_20_1, mi_20_2, mi_22, mi_23_0, mi_23_1, mi_23_2, mi_23_3, mi_24_0, mi_26_0, mi_26_1, mi_28_0, mi_28_1, mi_28_2, mi_28_3, mi_28_4, mi_28_5, mi_28_6, mi_29, mi_36, mi_37, mi_38, mi_39, mi_40, mi_41, mi_42, mi_43, mi_44, mi_45, mi_46, mi_47, mi_48, mi_49, mi_50, mi_51, mi_52, mi_53, mi_54, mi_55, mi_56, mi_57, mi_58, mi_59, mi_60, mi_61, mi_62, mi_63, mi_64_0, mi_64_1, mi_64_2, mi_65_0, mi_65_1, mi_65_2, mi_65_3, mi_65_4, mi_65_5, mi_65_6, mi_65_7, mi_65_8, mi_65_14, mi_65_37, mm_out, wt_0, wt_1, wt_2, wt_3, isI_1, isL_1, isZ_1, av_bind_ret, av_bind_thr, Option.toList_some, Option.toList_none, List.cons_append, List.nil_append, ↓reduceIte, Nat.reduceAdd, Nat.reduceLeDiff, Nat.reduceLT, Nat.reduceEqDiff, and_self, true_and, and_true, or_true, true_or, or_false, false_or, eq_self, not_true_eq_false, not_false_eq_true, w_0, w_1, w_2, w_3, w_4, w_5, w_7_0, w_7_1, w_9, w_10, w_11, w_12, w_13, w_14, w_15, w_16, w_17, w_20_0, w_20_1, w_20_2, w_22, w_23_0, w_23_1, w_23_2, w_23_3, w_24_0, w_26_0, w_26_1, w_28_0, w_28_1, w_28_2, w_28_3, w_28_4, w_28_5, w_28_6, w_29, w_36, w_37, w_38, w_39, w_40, w_41, w_42, w_43, w_44, w_45, w_46, w_47, w_48, w_49, w_50, w_51, w_52, w_53, w_54, w_55, w_56, w_57, w_58, w_59, w_60, w_61, w_62, w_63, w_64_0, w_64_1, w_64_2, w_65_0, w_65_1, w_65_2, w_65_3, w_65_4, w_65_5, w_65_6, w_65_7, w_65_8, w_65_14, w_65_37, cx_cnt, cx_val, cx_len, cx_wr, mk_1, mk_2, mk_3, mk_4, mk_5, mk_6, mk_9, mk_10, mk_11, mk_12, mk_13, mk_14, mk_15, mk_16, mk_17, mk_18, mk_19, mk_22, mk_27, mk_29, mk_36, mk_37, mk_38, mk_39, mk_40, mk_41, mk_42, mk_43, mk_44, mk_45, mk_46, mk_47, mk_48, mk_49, mk_50, mk_51, mk_52, mk_53, mk_54, mk_55, mk_56, mk_57, mk_58, mk_59, mk_60, mk_61, mk_62, mk_63, mk_66, mk_7, mk_8, mk_20, mk_21, mk_23, mk_24, mk_26, mk_28, mk_64, mk_65, td_1, td_2, td_3, td_4, td_6, td_10, td_18, td_24, td_40, td_60, td_61, td_70, td_80, td_160, td_480, od_1, od_2, od_3, od_4, od_6, od_10, od_18, od_24, od_40, od_60, od_61, od_70, od_80, od_160, od_480, ln_1, ln_2, ln_3, ln_4, ln_5, ln_6, ln_9, ln_10, ln_11, ln_12, ln_13, ln_14, ln_15, ln_16, ln_17, ln_18, ln_19, ln_22, ln_27, ln_29, ln_36, ln_37, ln_38, ln_39, ln_40, ln_41, ln_42, ln_43, ln_44, ln_45, ln_46, ln_47, ln_48, ln_49, ln_50, ln_51, ln_52, ln_53, ln_54, ln_55, ln_56, ln_57, ln_58, ln_59, ln_60, ln_61, ln_62, ln_63, ln_66, hu_s, hu_o, hn_s, hn_o, du_s, du_o, tu_s, tu_o, h1, h2, h3, hD, k30, t21, iI_s, e0]
theorem kc_28 (h : mH) (hh : ∀ f i k, ¬ f = 64 → ¬ f = 27 → h f i k = hH N w q a xs f i k) (c s : Nat) (t : Nat → Nat) (ht : ∀ f, f ∈ [18, 19, 20, 11, 12, 13, 21, 22] → t f = 0) : ∃ c' s' t', c' ≤ c + 60 ∧ s' ≤ s + 300 ∧ (∀ f, t' f = t f + (if f = 18 ∨ f = 19 then 1 else 0) + (if f = 20 ∨ f = 11 ∨ f = 12 ∨ f = 13 then 10 else 0) + (if f = 21 ∨ f = 22 then 2 else 0)) ∧ av_cal 28 [.inr (.inr (some (23, 0)))] (cm N L c s t (hn h 23 0 (fun k => av_dv (tl_ty 5 k)))) = some (.inl none, cm N L c' s' t' h) := by
  have t18 : t 18 = 0 := ht 18 (by decide)
  have t19 : t 19 = 0 := ht 19 (by decide)
  have t20 : t 20 = 0 := ht 20 (by decide)
  have t11 : t 11 = 0 := ht 11 (by decide)
  have t12 : t 12 = 0 := ht 12 (by decide)
  have t13 : t 13 = 0 := ht 13 (by decide)
  have t21 : t 21 = 0 := ht 21 (by decide)
  have t22 : t 22 = 0 := ht 22 (by decide)
  obtain ⟨c1, s1, t1, a1, a2, a3, a4⟩ := kl_28a N L w q a xs h hh (du (du (du (fun k => av_dv (tl_ty 5 k)) 1 (.inl (-1))) 4 (.inr (.inr (some (18, 0))))) 5 (.inr (.inr (some (19, 0))))) (pa 21 0 0) (by simp only [du_s, du_o, Nat.reduceEqDiff, not_false_eq_true]) 10 0 (c + 1 + 1) (s + 10 + 2) (tu (tu t 18) 19) (by omega) (by simp only [tu_o, tu_s, Nat.reduceEqDiff, not_false_eq_true, t20]) (by simp only [tu_o, tu_s, Nat.reduceEqDiff, not_false_eq_true, t11]) (by simp only [tu_o, tu_s, Nat.reduceEqDiff, not_false_eq_true, t12]) (by simp only [tu_o, tu_s, Nat.reduceEqDiff, not_false_eq_true, t13])
  obtain ⟨c2, s2, t2, b1, b2, b3, b4⟩ := kl_28b N L w q a xs h hh (du (du (du (fun k => av_dv (tl_ty 5 k)) 1 (.inl (-1))) 4 (.inr (.inr (some (18, 0))))) 5 (.inr (.inr (some (19, 0))))) (pa 20 0 10) (by simp only [du_s, du_o, Nat.reduceEqDiff, not_false_eq_true]) 2 0 c1 s1 t1 (by omega) (by rw [a3]; simp only [tu_o, tu_s, Nat.reduceEqDiff, not_false_eq_true, t21]; decide) (by rw [a3]; simp only [tu_o, tu_s, Nat.reduceEqDiff, not_false_eq_true, t22]; decide)
  refine ⟨c2, s2, t2, by omega, by omega, ?_, ?_⟩
  · intro f
    rw [b3 f, a3 f]
    simp only [tu_e]
    repeat' split
    all_goals omega
  · show av_run 28 0 [some (.inr (.inr (some (23, 0)))), none] [] _ = _
    have ez : hn (hn (hn h 23 0 (du (du (du (fun k => av_dv (tl_ty 5 k)) 1 (.inl (-1))) 4 (.inr (.inr (some (18, 0))))) 5 (.inr (.inr (some (19, 0)))))) 18 0 (pa 20 0 10)) 19 0 (pa 21 0 2) = h := by rw [hn_i3 (by decide) (by decide) (fun k => (hh _ _ _ (by decide) (by decide)).trans (H_19 N w q a xs k)), hn_i2 (by decide) (fun k => (hh _ _ _ (by decide) (by decide)).trans (H_18 N w q a xs k)), hn_id (fun k => (hh _ _ _ (by decide) (by decide)).trans (H_23 N w q a xs 0 k))]
    rw [ez] at b4
    rw [pa_0, pa_0] at a4
    simp only [s_28_0, s_28_1, s_28_4, s_28_5, s_28_6, s_28_9, s_28_10, s_28_12, s_28_15, s_28_18, s_28_19, s_28_20, s_28_23, s_28_26, s_28_27, ctc_28, kd_0, kd_1, kd_2, kd_3, kd_4, kd_5, kd_6, kd_7, kd_8, kd_9, kd_10, kd_11, kd_12, kd_13, kd_14, kd_15, kd_16, kd_17, kd_18, kd_19, kd_20, kd_21, kd_22, kd_23, kd_24, kd_25, kd_26, kd_27, kd_28, kd_29, kd_30, kd_31, kd_32, kd_33, kd_34, kd_35, kd_36, kd_37, kd_38, kd_39, kd_40, kd_41, kd_42, kd_43, kd_44, kd_45, kd_46, kd_47, kd_48, kd_49, kd_50, kd_51, kd_52, kd_53, kd_54, kd_55, kd_56, kd_57, kd_58, kd_59, kd_60, kd_61, kd_62, kd_63, kd_64, kd_65, kd_66, v_0, v_1, v_2, v_3, v_4, v_5, v_7_0, v_7_1, v_9, v_10, v_11, v_12, v_13, v_14, v_15, v_16, v_17, v_20_0, v_20_1, v_20_2, v_22, v_23_0, v_23_1, v_23_2, v_23_3, v_24_0, v_26_0, v_26_1, v_28_0, v_28_1, v_28_2, v_28_3, v_28_4, v_28_5, v_28_6, v_29, v_36, v_37, v_38, v_39, v_40, v_41, v_42, v_43, v_44, v_45, v_46, v_47, v_48, v_49, v_50, v_51, v_52, v_53, v_54, v_55, v_56, v_57, v_58, v_59, v_60, v_61, v_62, v_63, v_64_0, v_64_1, v_64_2, v_65_0, v_65_1, v_65_2, v_65_3, v_65_4, v_65_5, v_65_6, v_65_7, v_65_8, v_65_14, v_65_37, v_26_2, v_26_3, v_28_7, v_28_8, v_28_9, v_28_10, v_7_2, v_7_3, v_7_4, v_20_3, v_20_4, v_20_5, v_24_1, v_24_2, v_24_3, v_24_4, v_23_4, v_23_5, v_8_0, v_21_0, v_64_3, v_64_4, v_64_5, v_64_6, v_64_7, v_65_9, v_65_10, v_65_11, v_65_12, v_65_13, v_65_15, v_65_16, v_65_17, v_65_18, v_65_19, v_65_20, v_65_21, v_65_22, v_65_23, v_65_24, v_65_25, v_65_26, v_65_27, v_65_28, v_65_29, v_65_30, v_65_31, v_65_32, v_65_33, v_65_34, v_65_35, v_65_36, v_65_38, v_6, v_18, v_19, v_25, v_27, v_66, n_0, n_25, n_1, n_2, n_3, n_4, n_5, n_6, n_9, n_10, n_11, n_12, n_13, n_14, n_15, n_16, n_17, n_18, n_19, n_22, n_27, n_29, n_66, n_36, n_37, n_38, n_39, n_40, n_41, n_42, n_43, n_44, n_45, n_46, n_47, n_48, n_49, n_50, n_51, n_52, n_53, n_54, n_55, n_56, n_57, n_58, n_59, n_60, n_61, n_62, n_63, mi_0, mi_1, mi_2, mi_3, mi_4, mi_5, mi_7_0, mi_7_1, mi_9, mi_10, mi_11, mi_12, mi_13, mi_14, mi_15, mi_16, mi_17, mi_20_0, mi_20_1, mi_20_2, mi_22, mi_23_0, mi_23_1, mi_23_2, mi_23_3, mi_24_0, mi_26_0, mi_26_1, mi_28_0, mi_28_1, mi_28_2, mi_28_3, mi_28_4, mi_28_5, mi_28_6, mi_29, mi_36, mi_37, mi_38, mi_39, mi_40, mi_41, mi_42, mi_43, mi_44, mi_45, mi_46, mi_47, mi_48, mi_49, mi_50, mi_51, mi_52, mi_53, mi_54, mi_55, mi_56, mi_57, mi_58, mi_59, mi_60, mi_61, mi_62, mi_63, mi_64_0, mi_64_1, mi_64_2, mi_65_0, mi_65_1, mi_65_2, mi_65_3, mi_65_4, mi_65_5, mi_65_6, mi_65_7, mi_65_8, mi_65_14, mi_65_37, mm_out, wt_0, wt_1, wt_2, wt_3, isI_1, isL_1, isZ_1, av_bind_ret, av_bind_thr, Option.toList_some, Option.toList_none, List.cons_append, List.nil_append, ↓reduceIte, Nat.reduceAdd, Nat.reduceLeDiff, Nat.reduceLT, Nat.reduceEqDiff, and_self, true_and, and_true, or_true, true_or, or_false, false_or, eq_self, not_true_eq_false, not_false_eq_true, w_0, w_1, w_2, w_3, w_4, w_5, w_7_0, w_7_1, w_9, w_10, w_11, w_12, w_13, w_14, w_15, w_16, w_17, w_20_0, w_20_1, w_20_2, w_22, w_23_0, w_23_1, w_23_2, w_23_3, w_24_0, w_26_0, w_26_1, w_28_0, w_28_1, w_28_2, w_28_3, w_28_4, w_28_5, w_28_6, w_29, w_36, w_37, w_38, w_39, w_40, w_41, w_42, w_43, w_44, w_45, w_46, w_47, w_48, w_49, w_50, w_51, w_52, w_53, w_54, w_55, w_56, w_57, w_58, w_59, w_60, w_61, w_62, w_63, w_64_0, w_64_1, w_64_2, w_65_0, w_65_1, w_65_2, w_65_3, w_65_4, w_65_5, w_65_6, w_65_7, w_65_8, w_65_14, w_65_37, cx_cnt, cx_val, cx_len, cx_wr, mk_1, mk_2, mk_3, mk_4, mk_5, mk_6, mk_9, mk_10, mk_11, mk_12, mk_13, mk_14, mk_15, mk_16, mk_17, mk_18, mk_19, mk_22, mk_27, mk_29, mk_36, mk_37, mk_38, mk_39, mk_40, mk_41, mk_42, mk_43, mk_44, mk_45, mk_46, mk_47, mk_48, mk_49, mk_50, mk_51, mk_52, mk_53, mk_54, mk_55, mk_56, mk_57, mk_58, mk_59, mk_60, mk_61, mk_62, mk_63, mk_66, mk_7, mk_8, mk_20, mk_21, mk_23, mk_24, mk_26, mk_28, mk_64, mk_65, td_1, td_2, td_3, td_4, td_6, td_10, td_18, td_24, td_40, td_60, td_61, td_70, td_80, td_160, td_480, od_1, od_2, od_3, od_4, od_6, od_10, od_18, od_24, od_40, od_60, od_61, od_70, od_80, od_160, od_480, ln_1, ln_2, ln_3, ln_4, ln_5, ln_6, ln_9, ln_10, ln_11, ln_12, ln_13, ln_14, ln_15, ln_16, ln_17, ln_18, ln_19, ln_22, ln_27, ln_29, ln_36, ln_37, ln_38, ln_39, ln_40, ln_41, ln_42, ln_43, ln_44, ln_45, ln_46, ln_47, ln_48, ln_49, ln_50, ln_51, ln_52, ln_53, ln_54, ln_55, ln_56, ln_57, ln_58, ln_59, ln_60, ln_61, ln_62, ln_63, ln_66, hu_s, hu_o, hn_s, hn_o, du_s, du_o, tu_s, tu_o, t18, t19]
    refine a4.trans ?_
    simp only [s_28_53, s_28_54]
    rw [pa_0] at b4
    exact b4
theorem kl_6 (h : mH) (hh : ∀ f i k, ¬ f = 64 → ¬ f = 27 → h f i k = hH N w q a xs f i k) (i : Nat) (D : Nat → av_V) (hD : D 10 = .inr (.inr (some (6, i)))) : ∀ (r j c s : Nat) (t : Nat → Nat), j + r = 2 → t 7 = 2 * i + j → t 8 = 2 * i + j → t 9 = 2 * i + j → t 10 = 2 * i + j → t 22 = 2 + (2 * i + j) → ∃ c' s' t', c' ≤ c + 5 * r ∧ s' ≤ s + 100 * r ∧ (∀ f, t' f = t f + (if f = 7 ∨ f = 8 ∨ f = 9 ∨ f = 10 ∨ f = 22 then r else 0)) ∧ av_run 6 53 [some (.inr (.inr (some (28, i)))), some (.inl (nI j))] [] (cm N L c s t (hn (hn h 28 i D) 6 i (pa 7 (2 * i) j))) = some (.inl none, cm N L c' s' t' (hn (hn h 28 i D) 6 i (pa 7 (2 * i) 2))) := by
  intro r
  induction r with
  | zero =>
    intro j c s t hj t7 t8 t9 t10 t22
    have h1 : ((2 : Int32) ≤ nI j) = True := (iI_le (a := 2) (by omega) (by omega)).trans (eq_true (by omega))
    refine ⟨c, s, t, by omega, by omega, fun f => by split <;> rfl, ?_⟩
    rw [s_6_53]
    simp only [s_6_54, s_6_55, s_6_77, h1, ↓reduceIte]
    rw [show j = 2 by omega]
  | succ r ih =>
    intro j c s t hj t7 t8 t9 t10 t22
    have h1 : ((2 : Int32) ≤ nI j) = False := (iI_le (a := 2) (by omega) (by omega)).trans (eq_false (by omega))
    have h2 : av_outD (nI j) 2 = false := ix (by omega) (by omega)
    have h3 : (nI j).toNatClampNeg = j := tn (by omega)
    have k14 := kc_14 N L (c + 1) (s + 5) (tu t 7) (hn (hn h 28 i D) 6 i (pa 7 (2 * i) j)) (t 7) (fun k => by simp only [hn_o, tu_o, Nat.reduceEqDiff, not_false_eq_true]; rw [hh _ _ _ (by decide) (by decide)]; exact H_22 N w q a xs _ k) (fun k => by simp only [hn_o, tu_o, Nat.reduceEqDiff, not_false_eq_true, t8, t22]; rw [hh _ _ _ (by decide) (by decide)]; exact H_8 N w q a xs _ k) (fun k => by simp only [hn_o, tu_o, Nat.reduceEqDiff, not_false_eq_true]; rw [hh _ _ _ (by decide) (by decide)]; exact H_9 N w q a xs _ k) (fun k => by simp only [hn_o, tu_o, Nat.reduceEqDiff, not_false_eq_true]; rw [hh _ _ _ (by decide) (by decide)]; exact H_10 N w q a xs _ k) (fun k => by simp only [hn_o, tu_o, Nat.reduceEqDiff, not_false_eq_true, t7, t8, t9, t10]; rw [hh _ _ _ (by decide) (by decide)]; exact H_7 N w q a xs _ k)
    rw [t7] at k14
    obtain ⟨c2, s2, t2, e1, e2, e3, e4⟩ := ih (j + 1) (c + 1 + 1 + 1 + 1 + 1) (s + 5 + 1 + 10 + 4 + 80) (tu (tu (tu (tu (tu t 7) 8) 22) 9) 10) (by omega) (by simp only [tu_o, tu_s, Nat.reduceEqDiff, not_false_eq_true, t7]; omega) (by simp only [tu_o, tu_s, Nat.reduceEqDiff, not_false_eq_true, t8]; omega) (by simp only [tu_o, tu_s, Nat.reduceEqDiff, not_false_eq_true, t9]; omega) (by simp only [tu_o, tu_s, Nat.reduceEqDiff, not_false_eq_true, t10]; omega) (by simp only [tu_o, tu_s, Nat.reduceEqDiff, not_false_eq_true, t22]; omega)
    refine ⟨c2, s2, t2, by omega, by omega, ?_, Eq.trans ?_ e4⟩
    · intro f
      rw [e3 f]
      simp only [tu_e]
      repeat' split
      all_goals omega
    · rw [s_6_53, ← pa_s 7 (2 * i) j]
      simp only [s_6_0, s_6_1, s_6_4, s_6_5, s_6_6, s_6_9, s_6_10, s_6_11, s_6_14, s_6_15, s_6_16, s_6_19, s_6_20, s_6_22, s_6_24, s_6_27, s_6_28, s_6_30, s_6_32, s_6_35, s_6_36, s_6_38, s_6_40, s_6_43, s_6_44, s_6_45, s_6_48, s_6_51, s_6_52, s_6_54, s_6_55, s_6_58, s_6_59, s_6_62, s_6_63, s_6_66, s_6_67, s_6_70, s_6_71, s_6_74, ctc_6, kd_0, kd_1, kd_2, kd_3, kd_4, kd_5, kd_6, kd_7, kd_8, kd_9, kd_10, kd_11, kd_12, kd_13, kd_14, kd_15, kd_16, kd_17, kd_18, kd_19, kd_20, kd_21, kd_22, kd_23, kd_24, kd_25, kd_26, kd_27, kd_28, kd_29, kd_30, kd_31, kd_32, kd_33, kd_34, kd_35, kd_36, kd_37, kd_38, kd_39, kd_40, kd_41, kd_42, kd_43, kd_44, kd_45, kd_46, kd_47, kd_48, kd_49, kd_50, kd_51, kd_52, kd_53, kd_54, kd_55, kd_56, kd_57, kd_58, kd_59, kd_60, kd_61, kd_62, kd_63, kd_64, kd_65, kd_66, v_0, v_1, v_2, v_3, v_4, v_5, v_7_0, v_7_1, v_9, v_10, v_11, v_12, v_13, v_14, v_15, v_16, v_17, v_20_0, v_20_1, v_20_2, v_22, v_23_0, v_23_1, v_23_2, v_23_3, v_24_0, v_26_0, v_26_1, v_28_0, v_28_1, v_28_2, v_28_3, v_28_4, v_28_5, v_28_6, v_29, v_36, v_37, v_38, v_39, v_40, v_41, v_42, v_43, v_44, v_45, v_46, v_47, v_48, v_49, v_50, v_51, v_52, v_53, v_54, v_55, v_56, v_57, v_58, v_59, v_60, v_61, v_62, v_63, v_64_0, v_64_1, v_64_2, v_65_0, v_65_1, v_65_2, v_65_3, v_65_4, v_65_5, v_65_6, v_65_7, v_65_8, v_65_14, v_65_37, v_26_2, v_26_3, v_28_7, v_28_8, v_28_9, v_28_10, v_7_2, v_7_3, v_7_4, v_20_3, v_20_4, v_20_5, v_24_1, v_24_2, v_24_3, v_24_4, v_23_4, v_23_5, v_8_0, v_21_0, v_64_3, v_64_4, v_64_5, v_64_6, v_64_7, v_65_9, v_65_10, v_65_11, v_65_12, v_65_13, v_65_15, v_65_16, v_65_17, v_65_18, v_65_19, v_65_20, v_65_21, v_65_22, v_65_23, v_65_24, v_65_25, v_65_26, v_65_27, v_65_28, v_65_29, v_65_30, v_65_31, v_65_32, v_65_33, v_65_34, v_65_35, v_65_36, v_65_38, v_6, v_18, v_19, v_25, v_27, v_66, n_0, n_25, n_1, n_2, n_3, n_4, n_5, n_6, n_9, n_10, n_11, n_12, n_13, n_14, n_15, n_16, n_17, n_18, n_19, n_22, n_27, n_29, n_66, n_36, n_37, n_38, n_39, n_40, n_41, n_42, n_43, n_44, n_45, n_46, n_47, n_48, n_49, n_50, n_51, n_52, n_53, n_54, n_55, n_56, n_57, n_58, n_59, n_60, n_61, n_62, n_63, mi_0, mi_1, mi_2, mi_3, mi_4, mi_5, mi_7_0, mi_7_1, mi_9, mi_10, mi_11, mi_12, mi_13, mi_14, mi_15, mi_16, mi_17, mi_20_0, mi_20_1, mi_20_2, mi_22, mi_23_0, mi_23_1, mi_23_2, mi_23_3, mi_24_0, mi_26_0, mi_26_1, mi_28_0, mi_28_1, mi_28_2, mi_28_3, mi_28_4, mi_28_5, mi_28_6, mi_29, mi_36, mi_37, mi_38, mi_39, mi_40, mi_41, mi_42, mi_43, mi_44, mi_45, mi_46, mi_47, mi_48, mi_49, mi_50, mi_51, mi_52, mi_53, mi_54, mi_55, mi_56, mi_57, mi_58, mi_59, mi_60, mi_61, mi_62, mi_63, mi_64_0, mi_64_1, mi_64_2, mi_65_0, mi_65_1, mi_65_2, mi_65_3, mi_65_4, mi_65_5, mi_65_6, mi_65_7, mi_65_8, mi_65_14, mi_65_37, mm_out, wt_0, wt_1, wt_2, wt_3, isI_1, isL_1, isZ_1, av_bind_ret, av_bind_thr, Option.toList_some, Option.toList_none, List.cons_append, List.nil_append, ↓reduceIte, Nat.reduceAdd, Nat.reduceLeDiff, Nat.reduceLT, Nat.reduceEqDiff, and_self, true_and, and_true, or_true, true_or, or_false, false_or, eq_self, not_true_eq_false, not_false_eq_true, w_0, w_1, w_2, w_3, w_4, w_5, w_7_0, w_7_1, w_9, w_10, w_11, w_12, w_13, w_14, w_15, w_16, w_17, w_20_0, w_20_1, w_20_2, w_22, w_23_0, w_23_1, w_23_2, w_23_3, w_24_0, w_26_0, w_26_1, w_28_0, w_28_1, w_28_2, w_28_3, w_28_4, w_28_5, w_28_6, w_29, w_36, w_37, w_38, w_39, w_40, w_41, w_42, w_43, w_44, w_45, w_46, w_47, w_48, w_49, w_50, w_51, w_52, w_53, w_54, w_55, w_56, w_57, w_58, w_59, w_60, w_61, w_62, w_63, w_64_0, w_64_1, w_64_2, w_65_0, w_65_1, w_65_2, w_65_3, w_65_4, w_65_5, w_65_6, w_65_7, w_65_8, w_65_14, w_65_37, cx_cnt, cx_val, cx_len, cx_wr, mk_1, mk_2, mk_3, mk_4, mk_5, mk_6, mk_9, mk_10, mk_11, mk_12, mk_13, mk_14, mk_15, mk_16, mk_17, mk_18, mk_19, mk_22, mk_27, mk_29, mk_36, mk_37, mk_38, mk_39, mk_40, mk_41, mk_42, mk_43, mk_44, mk_45, mk_46, mk_47, mk_48, mk_49, mk_50, mk_51, mk_52, mk_53, mk_54, mk_55, mk_56, mk_57, mk_58, mk_59, mk_60, mk_61, mk_62, mk_63, mk_66, mk_7, mk_8, mk_20, mk_21, mk_23, mk_24, mk_26, mk_28, mk_64, mk_65, td_1, td_2, td_3, td_4, td_6, td_10, td_18, td_24, td_40, td_60, td_61, td_70, td_80, td_160, td_480, od_1, od_2, od_3, od_4, od_6, od_10, od_18, od_24, od_40, od_60, od_61, od_70, od_80, od_160, od_480, ln_1, ln_2, ln_3, ln_4, ln_5, ln_6, ln_9, ln_10, ln_11, ln_12, ln_13, ln_14, ln_15, ln_16, ln_17, ln_18, ln_19, ln_22, ln_27, ln_29, ln_36, ln_37, ln_38, ln_39, ln_40, ln_41, ln_42, ln_43, ln_44, ln_45, ln_46, ln_47, ln_48, ln_49, ln_50, ln_51, ln_52, ln_53, ln_54, ln_55, ln_56, ln_57, ln_58, ln_59, ln_60, ln_61, ln_62, ln_63, ln_66, hu_s, hu_o, hn_s, hn_o, du_s, du_o, tu_s, tu_o, h1, h2, h3, hD, k14, t7, iI_s]
theorem kc_6 (h : mH) (hh : ∀ f i k, ¬ f = 64 → ¬ f = 27 → h f i k = hH N w q a xs f i k) (i c s : Nat) (t : Nat → Nat) (t3 : t 3 = i) (t4 : t 4 = i) (t5 : t 5 = i) (t6 : t 6 = i) (t7 : t 7 = 2 * i) (t8 : t 8 = 2 * i) (t9 : t 9 = 2 * i) (t10 : t 10 = 2 * i) (t22 : t 22 = 2 + 2 * i) : ∃ c' s' t', c' ≤ c + 20 ∧ s' ≤ s + 300 ∧ (∀ f, t' f = t f + (if f = 3 ∨ f = 4 ∨ f = 5 ∨ f = 6 then 1 else 0) + (if f = 7 ∨ f = 8 ∨ f = 9 ∨ f = 10 ∨ f = 22 then 2 else 0)) ∧ av_cal 6 [.inr (.inr (some (28, i)))] (cm N L c s t (hn h 28 i (fun k => av_dv (tl_ty 1 k)))) = some (.inl none, cm N L c' s' t' h) := by
  obtain ⟨c1, s1, t1, a1, a2, a3, a4⟩ := kl_6 N L w q a xs h hh i (du (du (du (du (du (du (du (fun k => av_dv (tl_ty 1 k)) 0 (.inl 1)) 1 (.inl 0)) 3 (.inl (-1))) 7 (.inr (.inr (some (3, i))))) 8 (.inr (.inr (some (4, i))))) 9 (.inr (.inr (some (5, i))))) 10 (.inr (.inr (some (6, i))))) (by simp only [du_s, du_o, Nat.reduceEqDiff, not_false_eq_true]) 2 0 (c + 1 + 1 + 1 + 1) (s + 6 + 6 + 6 + 2) (tu (tu (tu (tu t 3) 4) 5) 6) (by omega) (by simp only [tu_o, tu_s, Nat.reduceEqDiff, not_false_eq_true, t7]; omega) (by simp only [tu_o, tu_s, Nat.reduceEqDiff, not_false_eq_true, t8]; omega) (by simp only [tu_o, tu_s, Nat.reduceEqDiff, not_false_eq_true, t9]; omega) (by simp only [tu_o, tu_s, Nat.reduceEqDiff, not_false_eq_true, t10]; omega) (by simp only [tu_o, tu_s, Nat.reduceEqDiff, not_false_eq_true, t22]; omega)
  refine ⟨c1, s1, t1, by omega, by omega, ?_, ?_⟩
  · intro f
    rw [a3 f]
    simp only [tu_e]
    repeat' split
    all_goals omega
  · show av_run 6 0 [some (.inr (.inr (some (28, i)))), none] [] _ = _
    have ez : hn (hn h 28 i (du (du (du (du (du (du (du (fun k => av_dv (tl_ty 1 k)) 0 (.inl 1)) 1 (.inl 0)) 3 (.inl (-1))) 7 (.inr (.inr (some (3, i))))) 8 (.inr (.inr (some (4, i))))) 9 (.inr (.inr (some (5, i))))) 10 (.inr (.inr (some (6, i)))))) 6 i (pa 7 (2 * i) 2) = h := by rw [hn_i2 (by decide) (fun k => (hh _ _ _ (by decide) (by decide)).trans (H_6 N w q a xs i k)), hn_id (fun k => (hh _ _ _ (by decide) (by decide)).trans (H_28 N w q a xs i k))]
    rw [ez, pa_0] at a4
    have z3 : ∀ D, hn (hn h 28 i D) 3 i (fun _ => .inl 0) = hn h 28 i D := fun D => hn_i2 (by decide) (fun k => (hh _ _ _ (by decide) (by decide)).trans (H_3 N w q a xs i k))
    have z4 : ∀ D, hn (hn h 28 i D) 4 i (fun _ => .inl 0) = hn h 28 i D := fun D => hn_i2 (by decide) (fun k => (hh _ _ _ (by decide) (by decide)).trans (H_4 N w q a xs i k))
    have z5 : ∀ D, hn (hn h 28 i D) 5 i (fun _ => .inl 0) = hn h 28 i D := fun D => hn_i2 (by decide) (fun k => (hh _ _ _ (by decide) (by decide)).trans (H_5 N w q a xs i k))
    simp only [s_6_0, s_6_1, s_6_4, s_6_5, s_6_6, s_6_9, s_6_10, s_6_11, s_6_14, s_6_15, s_6_16, s_6_19, s_6_20, s_6_22, s_6_24, s_6_27, s_6_28, s_6_30, s_6_32, s_6_35, s_6_36, s_6_38, s_6_40, s_6_43, s_6_44, s_6_45, s_6_48, s_6_51, s_6_52, ctc_6, kd_0, kd_1, kd_2, kd_3, kd_4, kd_5, kd_6, kd_7, kd_8, kd_9, kd_10, kd_11, kd_12, kd_13, kd_14, kd_15, kd_16, kd_17, kd_18, kd_19, kd_20, kd_21, kd_22, kd_23, kd_24, kd_25, kd_26, kd_27, kd_28, kd_29, kd_30, kd_31, kd_32, kd_33, kd_34, kd_35, kd_36, kd_37, kd_38, kd_39, kd_40, kd_41, kd_42, kd_43, kd_44, kd_45, kd_46, kd_47, kd_48, kd_49, kd_50, kd_51, kd_52, kd_53, kd_54, kd_55, kd_56, kd_57, kd_58, kd_59, kd_60, kd_61, kd_62, kd_63, kd_64, kd_65, kd_66, v_0, v_1, v_2, v_3, v_4, v_5, v_7_0, v_7_1, v_9, v_10, v_11, v_12, v_13, v_14, v_15, v_16, v_17, v_20_0, v_20_1, v_20_2, v_22, v_23_0, v_23_1, v_23_2, v_23_3, v_24_0, v_26_0, v_26_1, v_28_0, v_28_1, v_28_2, v_28_3, v_28_4, v_28_5, v_28_6, v_29, v_36, v_37, v_38, v_39, v_40, v_41, v_42, v_43, v_44, v_45, v_46, v_47, v_48, v_49, v_50, v_51, v_52, v_53, v_54, v_55, v_56, v_57, v_58, v_59, v_60, v_61, v_62, v_63, v_64_0, v_64_1, v_64_2, v_65_0, v_65_1, v_65_2, v_65_3, v_65_4, v_65_5, v_65_6, v_65_7, v_65_8, v_65_14, v_65_37, v_26_2, v_26_3, v_28_7, v_28_8, v_28_9, v_28_10, v_7_2, v_7_3, v_7_4, v_20_3, v_20_4, v_20_5, v_24_1, v_24_2, v_24_3, v_24_4, v_23_4, v_23_5, v_8_0, v_21_0, v_64_3, v_64_4, v_64_5, v_64_6, v_64_7, v_65_9, v_65_10, v_65_11, v_65_12, v_65_13, v_65_15, v_65_16, v_65_17, v_65_18, v_65_19, v_65_20, v_65_21, v_65_22, v_65_23, v_65_24, v_65_25, v_65_26, v_65_27, v_65_28, v_65_29, v_65_30, v_65_31, v_65_32, v_65_33, v_65_34, v_65_35, v_65_36, v_65_38, v_6, v_18, v_19, v_25, v_27, v_66, n_0, n_25, n_1, n_2, n_3, n_4, n_5, n_6, n_9, n_10, n_11, n_12, n_13, n_14, n_15, n_16, n_17, n_18, n_19, n_22, n_27, n_29, n_66, n_36, n_37, n_38, n_39, n_40, n_41, n_42, n_43, n_44, n_45, n_46, n_47, n_48, n_49, n_50, n_51, n_52, n_53, n_54, n_55, n_56, n_57, n_58, n_59, n_60, n_61, n_62, n_63, mi_0, mi_1, mi_2, mi_3, mi_4, mi_5, mi_7_0, mi_7_1, mi_9, mi_10, mi_11, mi_12, mi_13, mi_14, mi_15, mi_16, mi_17, mi_20_0, mi_20_1, mi_20_2, mi_22, mi_23_0, mi_23_1, mi_23_2, mi_23_3, mi_24_0, mi_26_0, mi_26_1, mi_28_0, mi_28_1, mi_28_2, mi_28_3, mi_28_4, mi_28_5, mi_28_6, mi_29, mi_36, mi_37, mi_38, mi_39, mi_40, mi_41, mi_42, mi_43, mi_44, mi_45, mi_46, mi_47, mi_48, mi_49, mi_50, mi_51, mi_52, mi_53, mi_54, mi_55, mi_56, mi_57, mi_58, mi_59, mi_60, mi_61, mi_62, mi_63, mi_64_0, mi_64_1, mi_64_2, mi_65_0, mi_65_1, mi_65_2, mi_65_3, mi_65_4, mi_65_5, mi_65_6, mi_65_7, mi_65_8, mi_65_14, mi_65_37, mm_out, wt_0, wt_1, wt_2, wt_3, isI_1, isL_1, isZ_1, av_bind_ret, av_bind_thr, Option.toList_some, Option.toList_none, List.cons_append, List.nil_append, ↓reduceIte, Nat.reduceAdd, Nat.reduceLeDiff, Nat.reduceLT, Nat.reduceEqDiff, and_self, true_and, and_true, or_true, true_or, or_false, false_or, eq_self, not_true_eq_false, not_false_eq_true, w_0, w_1, w_2, w_3, w_4, w_5, w_7_0, w_7_1, w_9, w_10, w_11, w_12, w_13, w_14, w_15, w_16, w_17, w_20_0, w_20_1, w_20_2, w_22, w_23_0, w_23_1, w_23_2, w_23_3, w_24_0, w_26_0, w_26_1, w_28_0, w_28_1, w_28_2, w_28_3, w_28_4, w_28_5, w_28_6, w_29, w_36, w_37, w_38, w_39, w_40, w_41, w_42, w_43, w_44, w_45, w_46, w_47, w_48, w_49, w_50, w_51, w_52, w_53, w_54, w_55, w_56, w_57, w_58, w_59, w_60, w_61, w_62, w_63, w_64_0, w_64_1, w_64_2, w_65_0, w_65_1, w_65_2, w_65_3, w_65_4, w_65_5, w_65_6, w_65_7, w_65_8, w_65_14, w_65_37, cx_cnt, cx_val, cx_len, cx_wr, mk_1, mk_2, mk_3, mk_4, mk_5, mk_6, mk_9, mk_10, mk_11, mk_12, mk_13, mk_14, mk_15, mk_16, mk_17, mk_18, mk_19, mk_22, mk_27, mk_29, mk_36, mk_37, mk_38, mk_39, mk_40, mk_41, mk_42, mk_43, mk_44, mk_45, mk_46, mk_47, mk_48, mk_49, mk_50, mk_51, mk_52, mk_53, mk_54, mk_55, mk_56, mk_57, mk_58, mk_59, mk_60, mk_61, mk_62, mk_63, mk_66, mk_7, mk_8, mk_20, mk_21, mk_23, mk_24, mk_26, mk_28, mk_64, mk_65, td_1, td_2, td_3, td_4, td_6, td_10, td_18, td_24, td_40, td_60, td_61, td_70, td_80, td_160, td_480, od_1, od_2, od_3, od_4, od_6, od_10, od_18, od_24, od_40, od_60, od_61, od_70, od_80, od_160, od_480, ln_1, ln_2, ln_3, ln_4, ln_5, ln_6, ln_9, ln_10, ln_11, ln_12, ln_13, ln_14, ln_15, ln_16, ln_17, ln_18, ln_19, ln_22, ln_27, ln_29, ln_36, ln_37, ln_38, ln_39, ln_40, ln_41, ln_42, ln_43, ln_44, ln_45, ln_46, ln_47, ln_48, ln_49, ln_50, ln_51, ln_52, ln_53, ln_54, ln_55, ln_56, ln_57, ln_58, ln_59, ln_60, ln_61, ln_62, ln_63, ln_66, hu_s, hu_o, hn_s, hn_o, du_s, du_o, tu_s, tu_o, t3, t4, t5, t6, z3, z4, z5]
    exact a4
end M32
