/-! the constructor of the model -/
def tr (t : Nat → Nat) (n : Nat) : Nat → Nat := fun f => t f + (if 36 ≤ f ∧ f < 36 + n then 1 else 0)
theorem tr_u (t : Nat → Nat) (n : Nat) : tu (tr t n) (36 + n) = tr t (n + 1) := by
  funext f
  rw [tu_e]
  unfold tr
  by_cases y : f = 36 + n
  · rw [if_pos y, if_neg (by omega), if_pos (by omega)]
  · rw [if_neg y]
    by_cases z : 36 ≤ f ∧ f < 36 + n
    · rw [if_pos z, if_pos (by omega)]
    · rw [if_neg z, if_neg (by omega)]
theorem tr_v (t : Nat → Nat) (n f : Nat) (h : 36 + n ≤ f) : tr t n f = t f := by
  unfold tr
  rw [if_neg (by omega)]
  rfl
theorem tr_0 (t : Nat → Nat) : tr t 0 = t := by
  funext f
  unfold tr
  rw [if_neg (by omega)]
  rfl
section M34
variable (N L w q a : Nat) (xs : Nat → Int32)
theorem H_65 (k : Nat) : hH N w q a xs 65 0 k = (du (du (du (du (du (du (du (du (du (du (du (du (du (du (du (du (du (du (du (du (du (du (du (du (du (du (du (du (du (du (du (du (du (fun k => av_dv (tl_ty 8 k)) 6 (.inl (-1))) 9 (.inr (.inr (some (36, 0))))) 10 (.inr (.inr (some (37, 0))))) 11 (.inr (.inr (some (38, 0))))) 12 (.inr (.inr (some (39, 0))))) 13 (.inr (.inr (some (40, 0))))) 15 (.inr (.inr (some (41, 0))))) 16 (.inr (.inr (some (42, 0))))) 17 (.inr (.inr (some (43, 0))))) 18 (.inr (.inr (some (44, 0))))) 19 (.inr (.inr (some (45, 0))))) 20 (.inr (.inr (some (46, 0))))) 21 (.inr (.inr (some (47, 0))))) 22 (.inr (.inr (some (48, 0))))) 23 (.inr (.inr (some (49, 0))))) 24 (.inr (.inr (some (50, 0))))) 25 (.inr (.inr (some (51, 0))))) 26 (.inr (.inr (some (52, 0))))) 27 (.inr (.inr (some (53, 0))))) 28 (.inr (.inr (some (54, 0))))) 29 (.inr (.inr (some (55, 0))))) 30 (.inr (.inr (some (56, 0))))) 31 (.inr (.inr (some (57, 0))))) 32 (.inr (.inr (some (58, 0))))) 33 (.inr (.inr (some (59, 0))))) 34 (.inr (.inr (some (60, 0))))) 35 (.inr (.inr (some (61, 0))))) 36 (.inr (.inr (some (62, 0))))) 38 (.inr (.inr (some (63, 0))))) 1 (.inl (nI N))) 2 (.inl (nI w))) 3 (.inl (nI q))) 4 (.inl (nI a))) k := by
  match k with
  | 0 => rfl
  | 1 => rfl
  | 2 => rfl
  | 3 => rfl
  | 4 => rfl
  | 5 => rfl
  | 6 => rfl
  | 7 => rfl
  | 8 => rfl
  | 9 => rfl
  | 10 => rfl
  | 11 => rfl
  | 12 => rfl
  | 13 => rfl
  | 14 => rfl
  | 15 => rfl
  | 16 => rfl
  | 17 => rfl
  | 18 => rfl
  | 19 => rfl
  | 20 => rfl
  | 21 => rfl
  | 22 => rfl
  | 23 => rfl
  | 24 => rfl
  | 25 => rfl
  | 26 => rfl
  | 27 => rfl
  | 28 => rfl
  | 29 => rfl
  | 30 => rfl
  | 31 => rfl
  | 32 => rfl
  | 33 => rfl
  | 34 => rfl
  | 35 => rfl
  | 36 => rfl
  | 37 => rfl
  | 38 => rfl
  | _ + 39 => rfl
theorem kl_95 (hN : N ≤ 6) (c s : Nat) (t : Nat → Nat) (l1 l2 l3 l4 : Option av_V) (D : Nat → av_V) (hD : D 1 = .inl (nI N)) (hD2 : D 20 = .inr (.inr (some (46, 0)))) : ∀ (r j : Nat), j + r = N → av_run 95 309 [some (.inr (.inr (some (65, 0)))), l1, l2, l3, l4, some (.inl (nI j))] [] (cm N L c s t (hn (hn (hH N w q a xs) 65 0 D) 46 0 (fun k => if k < j then .inl 1 else .inl 0))) = some (.inl none, cm N L c s t (hn (hn (hH N w q a xs) 65 0 D) 46 0 (fun k => if k < N then .inl 1 else .inl 0))) := by
  intro r
  induction r with
  | zero =>
    intro j hj
    have h1 : (nI N ≤ nI j) = True := (iI_le (by omega) (by omega)).trans (eq_true (by omega))
    rw [s_95_309]
    simp only [s_95_311, s_95_312, s_95_315, s_95_318, s_95_319, s_95_322, s_95_324, s_95_325, s_95_326, s_95_329, s_95_332, ctc_95, kd_0, kd_1, kd_2, kd_3, kd_4, kd_5, kd_6, kd_7, kd_8, kd_9, kd_10, kd_11, kd_12, kd_13, kd_14, kd_15, kd_16, kd_17, kd_18, kd_19, kd_20, kd_21, kd_22, kd_23, kd_24, kd_25, kd_26, kd_27, kd_28, kd_29, kd_30, kd_31, kd_32, kd_33, kd_34, kd_35, kd_36, kd_37, kd_38, kd_39, kd_40, kd_41, kd_42, kd_43, kd_44, kd_45, kd_46, kd_47, kd_48, kd_49, kd_50, kd_51, kd_52, kd_53, kd_54, kd_55, kd_56, kd_57, kd_58, kd_59, kd_60, kd_61, kd_62, kd_63, kd_64, kd_65, kd_66, v_0, v_1, v_2, v_3, v_4, v_5, v_7_0, v_7_1, v_9, v_10, v_11, v_12, v_13, v_14, v_15, v_16, v_17, v_20_0, v_20_1, v_20_2, v_22, v_23_0, v_23_1, v_23_2, v_23_3, v_24_0, v_26_0, v_26_1, v_28_0, v_28_1, v_28_2, v_28_3, v_28_4, v_28_5, v_28_6, v_29, v_36, v_37, v_38, v_39, v_40, v_41, v_42, v_43, v_44, v_45, v_46, v_47, v_48, v_49, v_50, v_51, v_52, v_53, v_54, v_55, v_56, v_57, v_58, v_59, v_60, v_61, v_62, v_63, v_64_0, v_64_1, v_64_2, v_65_0, v_65_1, v_65_2, v_65_3, v_65_4, v_65_5, v_65_6, v_65_7, v_65_8, v_65_14, v_65_37, v_26_2, v_26_3, v_28_7, v_28_8, v_28_9, v_28_10, v_7_2, v_7_3, v_7_4, v_20_3, v_20_4, v_20_5, v_24_1, v_24_2, v_24_3, v_24_4, v_23_4, v_23_5, v_8_0, v_21_0, v_64_3, v_64_4, v_64_5, v_64_6, v_64_7, v_65_9, v_65_10, v_65_11, v_65_12, v_65_13, v_65_15, v_65_16, v_65_17, v_65_18, v_65_19, v_65_20, v_65_21, v_65_22, v_65_23, v_65_24, v_65_25, v_65_26, v_65_27, v_65_28, v_65_29, v_65_30, v_65_31, v_65_32, v_65_33, v_65_34, v_65_35, v_65_36, v_65_38, v_6, v_18, v_19, v_25, v_27, v_66, n_0, n_25, n_1, n_2, n_3, n_4, n_5, n_6, n_9, n_10, n_11, n_12, n_13, n_14, n_15, n_16, n_17, n_18, n_19, n_22, n_27, n_29, n_66, n_36, n_37, n_38, n_39, n_40, n_41, n_42, n_43, n_44, n_45, n_46, n_47, n_48, n_49, n_50, n_51, n_52, n_53, n_54, n_55, n_56, n_57, n_58, n_59, n_60, n_61, n_62, n_63, mi_0, mi_1, mi_2, mi_3, mi_4, mi_5, mi_7_0, mi_7_1, mi_9, mi_10, mi_11, mi_12, mi_13, mi_14, mi_15, mi_16, mi_17, mi_20_0, mi_20_1, mi_20_2, mi_22, mi_23_0, mi_23_1, mi_23_2, mi_23_3, mi_24_0, mi_26_0, mi_26_1, mi_28_0, mi_28_1, mi_28_2, mi_28_3, mi_28_4, mi_28_5, mi_28_6, mi_29, mi_36, mi_37, mi_38, mi_39, mi_40, mi_41, mi_42, mi_43, mi_44, mi_45, mi_46, mi_47, mi_48, mi_49, mi_50, mi_51, mi_52, mi_53, mi_54, mi_55, mi_56, mi_57, mi_58, mi_59, mi_60, mi_61, mi_62, mi_63, mi_64_0, mi_64_1, mi_64_2, mi_65_0, mi_65_1, mi_65_2, mi_65_3, mi_65_4, mi_65_5, mi_65_6, mi_65_7, mi_65_8, mi_65_14, mi_65_37, mm_out, wt_0, wt_1, wt_2, wt_3, isI_1, isL_1, isZ_1, av_bind_ret, av_bind_thr, Option.toList_some, Option.toList_none, List.cons_append, List.nil_append, ↓reduceIte, Nat.reduceAdd, Nat.reduceLeDiff, Nat.reduceLT, Nat.reduceEqDiff, and_self, true_and, and_true, or_true, true_or, or_false, false_or, eq_self, not_true_eq_false, not_false_eq_true, w_0, w_1, w_2, w_3, w_4, w_5, w_7_0, w_7_1, w_9, w_10, w_11, w_12, w_13, w_14, w_15, w_16, w_17, w_20_0, w_20_1, w_20_2, w_22, w_23_0, w_23_1, w_23_2, w_23_3, w_24_0, w_26_0, w_26_1, w_28_0, w_28_1, w_28_2, w_28_3, w_28_4, w_28_5, w_28_6, w_29, w_36, w_37, w_38, w_39, w_40, w_41, w_42, w_43, w_44, w_45, w_46, w_47, w_48, w_49, w_50, w_51, w_52, w_53, w_54, w_55, w_56, w_57, w_58, w_59, w_60, w_61, w_62, w_63, w_64_0, w_64_1, w_64_2, w_65_0, w_65_1, w_65_2, w_65_3, w_65_4, w_65_5, w_65_6, w_65_7, w_65_8, w_65_14, w_65_37, cx_cnt, cx_val, cx_len, cx_wr, mk_1, mk_2, mk_3, mk_4, mk_5, mk_6, mk_9, mk_10, mk_11, mk_12, mk_13, mk_14, mk_15, mk_16, mk_17, mk_18, mk_19, mk_22, mk_27, mk_29, mk_36, mk_37, mk_38, mk_39, mk_40, mk_41, mk_42, mk_43, mk_44, mk_45, mk_46, mk_47, mk_48, mk_49, mk_50, mk_51, mk_52, mk_53, mk_54, mk_55, mk_56, mk_57, mk_58, mk_59, mk_60, mk_61, mk_62, mk_63, mk_66, mk_7, mk_8, mk_20, mk_21, mk_23, mk_24, mk_26, mk_28, mk_64, mk_65, td_1, td_2, td_3, td_4, td_6, td_10, td_18, td_24, td_40, td_60, td_61, td_70, td_80, td_160, td_480, od_1, od_2, od_3, od_4, od_6, od_10, od_18, od_24, od_40, od_60, od_61, od_70, od_80, od_160, od_480, ln_1, ln_2, ln_3, ln_4, ln_5, ln_6, ln_9, ln_10, ln_11, ln_12, ln_13, ln_14, ln_15, ln_16, ln_17, ln_18, ln_19, ln_22, ln_27, ln_29, ln_36, ln_37, ln_38, ln_39, ln_40, ln_41, ln_42, ln_43, ln_44, ln_45, ln_46, ln_47, ln_48, ln_49, ln_50, ln_51, ln_52, ln_53, ln_54, ln_55, ln_56, ln_57, ln_58, ln_59, ln_60, ln_61, ln_62, ln_63, ln_66, hu_s, hu_o, hn_s, hn_o, du_s, du_o, tu_s, tu_o, hD, h1]
    rw [show j = N by omega]
  | succ r ih =>
    intro j hj
    have h1 : (nI N ≤ nI j) = False := (iI_le (by omega) (by omega)).trans (eq_false (by omega))
    have h2 : av_outD (nI j) 6 = false := ix (by omega) (by omega)
    have h3 : (nI j).toNatClampNeg = j := tn (by omega)
    have h5 : du (fun k => if k < j then .inl 1 else .inl 0) j (.inl 1) = fun k => if k < j + 1 then .inl 1 else .inl 0 := by
      funext k
      unfold du
      by_cases y : k = j
      · rw [if_pos y, if_pos (by omega)]
      · rw [if_neg y]
        dsimp only
        by_cases z : k < j
        · rw [if_pos z, if_pos (by omega)]
        · rw [if_neg z, if_neg (by omega)]
    rw [s_95_309]
    simp only [s_95_311, s_95_312, s_95_315, s_95_318, s_95_319, s_95_322, s_95_324, s_95_325, s_95_326, s_95_329, s_95_332, ctc_95, kd_0, kd_1, kd_2, kd_3, kd_4, kd_5, kd_6, kd_7, kd_8, kd_9, kd_10, kd_11, kd_12, kd_13, kd_14, kd_15, kd_16, kd_17, kd_18, kd_19, kd_20, kd_21, kd_22, kd_23, kd_24, kd_25, kd_26, kd_27, kd_28, kd_29, kd_30, kd_31, kd_32, kd_33, kd_34, kd_35, kd_36, kd_37, kd_38, kd_39, kd_40, kd_41, kd_42, kd_43, kd_44, kd_45, kd_46, kd_47, kd_48, kd_49, kd_50, kd_51, kd_52, kd_53, kd_54, kd_55, kd_56, kd_57, kd_58, kd_59, kd_60, kd_61, kd_62, kd_63, kd_64, kd_65, kd_66, v_0, v_1, v_2, v_3, v_4, v_5, v_7_0, v_7_1, v_9, v_10, v_11, v_12, v_13, v_14, v_15, v_16, v_17, v_20_0, v_20_1, v_20_2, v_22, v_23_0, v_23_1, v_23_2, v_23_3, v_24_0, v_26_0, v_26_1, v_28_0, v_28_1, v_28_2, v_28_3, v_28_4, v_28_5, v_28_6, v_29, v_36, v_37, v_38, v_39, v_40, v_41, v_42, v_43, v_44, v_45, v_46, v_47, v_48, v_49, v_50, v_51, v_52, v_53, v_54, v_55, v_56, v_57, v_58, v_59, v_60, v_61, v_62, v_63, v_64_0, v_64_1, v_64_2, v_65_0, v_65_1, v_65_2, v_65_3, v_65_4, v_65_5, v_65_6, v_65_7, v_65_8, v_65_14, v_65_37, v_26_2, v_26_3, v_28_7, v_28_8, v_28_9, v_28_10, v_7_2, v_7_3, v_7_4, v_20_3, v_20_4, v_20_5, v_24_1, v_24_2, v_24_3, v_24_4, v_23_4, v_23_5, v_8_0, v_21_0, v_64_3, v_64_4, v_64_5, v_64_6, v_64_7, v_65_9, v_65_10, v_65_11, v_65_12, v_65_13, v_65_15, v_65_16, v_65_17, v_65_18, v_65_19, v_65_20, v_65_21, v_65_22, v_65_23, v_65_24, v_65_25, v_65_26, v_65_27, v_65_28, v_65_29, v_65_30, v_65_31, v_65_32, v_65_33, v_65_34, v_65_35, v_65_36, v_65_38, v_6, v_18, v_19, v_25, v_27, v_66, n_0, n_25, n_1, n_2, n_3, n_4, n_5, n_6, n_9, n_10, n_11, n_12, n_13, n_14, n_15, n_16, n_17, n_18, n_19, n_22, n_27, n_29, n_66, n_36, n_37, n_38, n_39, n_40, n_41, n_42, n_43, n_44, n_45, n_46, n_47, n_48, n_49, n_50, n_51, n_52, n_53, n_54, n_55, n_56, n_57, n_58, n_59, n_60, n_61, n_62, n_63, mi_0, mi_1, mi_2, mi_3, mi_4, mi_5, mi_7_0, mi_7_1, mi_9, mi_10, mi_11, mi_12, mi_13, mi_14, mi_15, mi_16, mi_17, mi_20_0, mi_20_1, mi_20_2, mi_22, mi_23_0, mi_23_1, mi_23_2, mi_23_3, mi_24_0, mi_26_0, mi_26_1, mi_28_0, mi_28_1, mi_28_2, mi_28_3, mi_28_4, mi_28_5, mi_28_6, mi_29, mi_36, mi_37, mi_38, mi_39, mi_40, mi_41, mi_42, mi_43, mi_44, mi_45, mi_46, mi_47, mi_48, mi_49, mi_50, mi_51, mi_52, mi_53, mi_54, mi_55, mi_56, mi_57, mi_58, mi_59, mi_60, mi_61, mi_62, mi_63, mi_64_0, mi_64_1, mi_64_2, mi_65_0, mi_65_1, mi_65_2, mi_65_3, mi_65_4, mi_65_5, mi_65_6, mi_65_7, mi_65_8, mi_65_14, mi_65_37, mm_out, wt_0, wt_1, wt_2, wt_3, isI_1, isL_1, isZ_1, av_bind_ret, av_bind_thr, Option.toList_some, Option.toList_none, List.cons_append, List.nil_append, ↓reduceIte, Nat.reduceAdd, Nat.reduceLeDiff, Nat.reduceLT, Nat.reduceEqDiff, and_self, true_and, and_true, or_true, true_or, or_false, false_or, eq_self, not_true_eq_false, not_false_eq_true, w_0, w_1, w_2, w_3, w_4, w_5, w_7_0, w_7_1, w_9, w_10, w_11, w_12, w_13, w_14, w_15, w_16, w_17, w_20_0, w_20_1, w_20_2, w_22, w_23_0, w_23_1, w_23_2, w_23_3, w_24_0, w_26_0, w_26_1, w_28_0, w_28_1, w_28_2, w_28_3, w_28_4, w_28_5, w_28_6, w_29, w_36, w_37, w_38, w_39, w_40, w_41, w_42, w_43, w_44, w_45, w_46, w_47, w_48, w_49, w_50, w_51, w_52, w_53, w_54, w_55, w_56, w_57, w_58, w_59, w_60, w_61, w_62, w_63, w_64_0, w_64_1, w_64_2, w_65_0, w_65_1, w_65_2, w_65_3, w_65_4, w_65_5, w_65_6, w_65_7, w_65_8, w_65_14, w_65_37, cx_cnt, cx_val, cx_len, cx_wr, mk_1, mk_2, mk_3, mk_4, mk_5, mk_6, mk_9, mk_10, mk_11, mk_12, mk_13, mk_14, mk_15, mk_16, mk_17, mk_18, mk_19, mk_22, mk_27, mk_29, mk_36, mk_37, mk_38, mk_39, mk_40, mk_41, mk_42, mk_43, mk_44, mk_45, mk_46, mk_47, mk_48, mk_49, mk_50, mk_51, mk_52, mk_53, mk_54, mk_55, mk_56, mk_57, mk_58, mk_59, mk_60, mk_61, mk_62, mk_63, mk_66, mk_7, mk_8, mk_20, mk_21, mk_23, mk_24, mk_26, mk_28, mk_64, mk_65, td_1, td_2, td_3, td_4, td_6, td_10, td_18, td_24, td_40, td_60, td_61, td_70, td_80, td_160, td_480, od_1, od_2, od_3, od_4, od_6, od_10, od_18, od_24, od_40, od_60, od_61, od_70, od_80, od_160, od_480, ln_1, ln_2, ln_3, ln_4, ln_5, ln_6, ln_9, ln_10, ln_11, ln_12, ln_13, ln_14, ln_15, ln_16, ln_17, ln_18, ln_19, ln_22, ln_27, ln_29, ln_36, ln_37, ln_38, ln_39, ln_40, ln_41, ln_42, ln_43, ln_44, ln_45, ln_46, ln_47, ln_48, ln_49, ln_50, ln_51, ln_52, ln_53, ln_54, ln_55, ln_56, ln_57, ln_58, ln_59, ln_60, ln_61, ln_62, ln_63, ln_66, hu_s, hu_o, hn_s, hn_o, du_s, du_o, tu_s, tu_o, hD, hD2, h1, h2, h3, h5, iI_s, BEq.rfl, Bool.or_true, Bool.true_or]
    exact ih (j + 1) (by omega)
theorem kc_95 (hN : N ≤ 6) (v0 v1 v2 v3 : Int32) (m4 : Nat) (b0 : ∀ μ, av_cal 96 [.inl v0, .inl 3, .inl 6] μ = some (.inl (some (.inl (nI N))), μ)) (e4 : (if (4 : Int32) ≤ nI N then 4 else nI N) = nI m4) (b1 : ∀ μ, av_cal 96 [.inl v1, .inl 1, .inl (nI m4)] μ = some (.inl (some (.inl (nI w))), μ)) (b2 : ∀ μ, av_cal 96 [.inl v2, .inl 1, .inl (nI w)] μ = some (.inl (some (.inl (nI q))), μ)) (b3 : ∀ μ, av_cal 96 [.inl v3, .inl 1, .inl (nI q)] μ = some (.inl (some (.inl (nI a))), μ)) (c s : Nat) (t : Nat → Nat) (ht : ∀ f, 36 ≤ f → f < 64 → t f = 0) : ∃ c' s', c' ≤ c + 28 ∧ s' ≤ s + 2685 ∧ av_cal 95 [.inr (.inr (some (65, 0))), .inl v0, .inl v1, .inl v2, .inl v3] (cm N L c s t (hn (hH N w q a xs) 65 0 (fun k => av_dv (tl_ty 8 k)))) = some (.inl none, cm N L c' s' (tr t 28) (hH N w q a xs)) := by
  refine ⟨c + 1 + 1 + 1 + 1 + 1 + 1 + 1 + 1 + 1 + 1 + 1 + 1 + 1 + 1 + 1 + 1 + 1 + 1 + 1 + 1 + 1 + 1 + 1 + 1 + 1 + 1 + 1 + 1, s + 40 + 10 + 10 + 40 + 160 + 61 + 61 + 61 + 80 + 4 + 6 + 480 + 480 + 60 + 3 + 3 + 3 + 3 + 3 + 18 + 3 + 18 + 18 + 480 + 480 + 24 + 6 + 70, by omega, by omega, ?_⟩
  show av_run 95 0 [some (.inr (.inr (some (65, 0)))), some (.inl v0), some (.inl v1), some (.inl v2), some (.inl v3), none] [] _ = _
  have y36 : tu (tr t 0) 36 = tr t 1 := tr_u t 0
  have x36 : tr t 0 36 = 0 := (tr_v t 0 36 (by omega)).trans (ht 36 (by omega) (by omega))
  have z36 : ∀ D, hn (hn (hH N w q a xs) 65 0 D) 36 0 (fun _ => .inl 0) = hn (hH N w q a xs) 65 0 D := fun D => hn_i2 (by decide) (H_36 N w q a xs 0)
  have y37 : tu (tr t 1) 37 = tr t 2 := tr_u t 1
  have x37 : tr t 1 37 = 0 := (tr_v t 1 37 (by omega)).trans (ht 37 (by omega) (by omega))
  have z37 : ∀ D, hn (hn (hH N w q a xs) 65 0 D) 37 0 (fun _ => .inl 0) = hn (hH N w q a xs) 65 0 D := fun D => hn_i2 (by decide) (H_37 N w q a xs 0)
  have y38 : tu (tr t 2) 38 = tr t 3 := tr_u t 2
  have x38 : tr t 2 38 = 0 := (tr_v t 2 38 (by omega)).trans (ht 38 (by omega) (by omega))
  have z38 : ∀ D, hn (hn (hH N w q a xs) 65 0 D) 38 0 (fun _ => .inl 0) = hn (hH N w q a xs) 65 0 D := fun D => hn_i2 (by decide) (H_38 N w q a xs 0)
  have y39 : tu (tr t 3) 39 = tr t 4 := tr_u t 3
  have x39 : tr t 3 39 = 0 := (tr_v t 3 39 (by omega)).trans (ht 39 (by omega) (by omega))
  have z39 : ∀ D, hn (hn (hH N w q a xs) 65 0 D) 39 0 (fun _ => .inl 0) = hn (hH N w q a xs) 65 0 D := fun D => hn_i2 (by decide) (H_39 N w q a xs 0)
  have y40 : tu (tr t 4) 40 = tr t 5 := tr_u t 4
  have x40 : tr t 4 40 = 0 := (tr_v t 4 40 (by omega)).trans (ht 40 (by omega) (by omega))
  have z40 : ∀ D, hn (hn (hH N w q a xs) 65 0 D) 40 0 (fun _ => .inl 0) = hn (hH N w q a xs) 65 0 D := fun D => hn_i2 (by decide) (H_40 N w q a xs 0)
  have y41 : tu (tr t 5) 41 = tr t 6 := tr_u t 5
  have x41 : tr t 5 41 = 0 := (tr_v t 5 41 (by omega)).trans (ht 41 (by omega) (by omega))
  have z41 : ∀ D, hn (hn (hH N w q a xs) 65 0 D) 41 0 (fun _ => .inl 0) = hn (hH N w q a xs) 65 0 D := fun D => hn_i2 (by decide) (H_41 N w q a xs 0)
  have y42 : tu (tr t 6) 42 = tr t 7 := tr_u t 6
  have x42 : tr t 6 42 = 0 := (tr_v t 6 42 (by omega)).trans (ht 42 (by omega) (by omega))
  have z42 : ∀ D, hn (hn (hH N w q a xs) 65 0 D) 42 0 (fun _ => .inl 0) = hn (hH N w q a xs) 65 0 D := fun D => hn_i2 (by decide) (H_42 N w q a xs 0)
  have y43 : tu (tr t 7) 43 = tr t 8 := tr_u t 7
  have x43 : tr t 7 43 = 0 := (tr_v t 7 43 (by omega)).trans (ht 43 (by omega) (by omega))
  have z43 : ∀ D, hn (hn (hH N w q a xs) 65 0 D) 43 0 (fun _ => .inl 0) = hn (hH N w q a xs) 65 0 D := fun D => hn_i2 (by decide) (H_43 N w q a xs 0)
  have y44 : tu (tr t 8) 44 = tr t 9 := tr_u t 8
  have x44 : tr t 8 44 = 0 := (tr_v t 8 44 (by omega)).trans (ht 44 (by omega) (by omega))
  have z44 : ∀ D, hn (hn (hH N w q a xs) 65 0 D) 44 0 (fun _ => .inl 0) = hn (hH N w q a xs) 65 0 D := fun D => hn_i2 (by decide) (H_44 N w q a xs 0)
  have y45 : tu (tr t 9) 45 = tr t 10 := tr_u t 9
  have x45 : tr t 9 45 = 0 := (tr_v t 9 45 (by omega)).trans (ht 45 (by omega) (by omega))
  have z45 : ∀ D, hn (hn (hH N w q a xs) 65 0 D) 45 0 (fun _ => .inl 0) = hn (hH N w q a xs) 65 0 D := fun D => hn_i2 (by decide) (H_45 N w q a xs 0)
  have y46 : tu (tr t 10) 46 = tr t 11 := tr_u t 10
  have x46 : tr t 10 46 = 0 := (tr_v t 10 46 (by omega)).trans (ht 46 (by omega) (by omega))
  have y47 : tu (tr t 11) 47 = tr t 12 := tr_u t 11
  have x47 : tr t 11 47 = 0 := (tr_v t 11 47 (by omega)).trans (ht 47 (by omega) (by omega))
  have z47 : ∀ D D', hn (hn (hn (hH N w q a xs) 65 0 D) 46 0 D') 47 0 (fun _ => .inl 0) = hn (hn (hH N w q a xs) 65 0 D) 46 0 D' := fun D D' => hn_i3 (by decide) (by decide) (H_47 N w q a xs 0)
  have y48 : tu (tr t 12) 48 = tr t 13 := tr_u t 12
  have x48 : tr t 12 48 = 0 := (tr_v t 12 48 (by omega)).trans (ht 48 (by omega) (by omega))
  have z48 : ∀ D D', hn (hn (hn (hH N w q a xs) 65 0 D) 46 0 D') 48 0 (fun _ => .inl 0) = hn (hn (hH N w q a xs) 65 0 D) 46 0 D' := fun D D' => hn_i3 (by decide) (by decide) (H_48 N w q a xs 0)
  have y49 : tu (tr t 13) 49 = tr t 14 := tr_u t 13
  have x49 : tr t 13 49 = 0 := (tr_v t 13 49 (by omega)).trans (ht 49 (by omega) (by omega))
  have z49 : ∀ D D', hn (hn (hn (hH N w q a xs) 65 0 D) 46 0 D') 49 0 (fun _ => .inl 0) = hn (hn (hH N w q a xs) 65 0 D) 46 0 D' := fun D D' => hn_i3 (by decide) (by decide) (H_49 N w q a xs 0)
  have y50 : tu (tr t 14) 50 = tr t 15 := tr_u t 14
  have x50 : tr t 14 50 = 0 := (tr_v t 14 50 (by omega)).trans (ht 50 (by omega) (by omega))
  have y51 : tu (tr t 15) 51 = tr t 16 := tr_u t 15
  have x51 : tr t 15 51 = 0 := (tr_v t 15 51 (by omega)).trans (ht 51 (by omega) (by omega))
  have z51 : ∀ D D', hn (hn (hn (hH N w q a xs) 65 0 D) 46 0 D') 51 0 (fun _ => .inl 0) = hn (hn (hH N w q a xs) 65 0 D) 46 0 D' := fun D D' => hn_i3 (by decide) (by decide) (H_51 N w q a xs 0)
  have y52 : tu (tr t 16) 52 = tr t 17 := tr_u t 16
  have x52 : tr t 16 52 = 0 := (tr_v t 16 52 (by omega)).trans (ht 52 (by omega) (by omega))
  have z52 : ∀ D D', hn (hn (hn (hH N w q a xs) 65 0 D) 46 0 D') 52 0 (fun _ => .inl 0) = hn (hn (hH N w q a xs) 65 0 D) 46 0 D' := fun D D' => hn_i3 (by decide) (by decide) (H_52 N w q a xs 0)
  have y53 : tu (tr t 17) 53 = tr t 18 := tr_u t 17
  have x53 : tr t 17 53 = 0 := (tr_v t 17 53 (by omega)).trans (ht 53 (by omega) (by omega))
  have z53 : ∀ D D', hn (hn (hn (hH N w q a xs) 65 0 D) 46 0 D') 53 0 (fun _ => .inl 0) = hn (hn (hH N w q a xs) 65 0 D) 46 0 D' := fun D D' => hn_i3 (by decide) (by decide) (H_53 N w q a xs 0)
  have y54 : tu (tr t 18) 54 = tr t 19 := tr_u t 18
  have x54 : tr t 18 54 = 0 := (tr_v t 18 54 (by omega)).trans (ht 54 (by omega) (by omega))
  have z54 : ∀ D D', hn (hn (hn (hH N w q a xs) 65 0 D) 46 0 D') 54 0 (fun _ => .inl 0) = hn (hn (hH N w q a xs) 65 0 D) 46 0 D' := fun D D' => hn_i3 (by decide) (by decide) (H_54 N w q a xs 0)
  have y55 : tu (tr t 19) 55 = tr t 20 := tr_u t 19
  have x55 : tr t 19 55 = 0 := (tr_v t 19 55 (by omega)).trans (ht 55 (by omega) (by omega))
  have z55 : ∀ D D', hn (hn (hn (hH N w q a xs) 65 0 D) 46 0 D') 55 0 (fun _ => .inl 0) = hn (hn (hH N w q a xs) 65 0 D) 46 0 D' := fun D D' => hn_i3 (by decide) (by decide) (H_55 N w q a xs 0)
  have y56 : tu (tr t 20) 56 = tr t 21 := tr_u t 20
  have x56 : tr t 20 56 = 0 := (tr_v t 20 56 (by omega)).trans (ht 56 (by omega) (by omega))
  have z56 : ∀ D D', hn (hn (hn (hH N w q a xs) 65 0 D) 46 0 D') 56 0 (fun _ => .inl 0) = hn (hn (hH N w q a xs) 65 0 D) 46 0 D' := fun D D' => hn_i3 (by decide) (by decide) (H_56 N w q a xs 0)
  have y57 : tu (tr t 21) 57 = tr t 22 := tr_u t 21
  have x57 : tr t 21 57 = 0 := (tr_v t 21 57 (by omega)).trans (ht 57 (by omega) (by omega))
  have z57 : ∀ D D', hn (hn (hn (hH N w q a xs) 65 0 D) 46 0 D') 57 0 (fun _ => .inl 0) = hn (hn (hH N w q a xs) 65 0 D) 46 0 D' := fun D D' => hn_i3 (by decide) (by decide) (H_57 N w q a xs 0)
  have y58 : tu (tr t 22) 58 = tr t 23 := tr_u t 22
  have x58 : tr t 22 58 = 0 := (tr_v t 22 58 (by omega)).trans (ht 58 (by omega) (by omega))
  have z58 : ∀ D D', hn (hn (hn (hH N w q a xs) 65 0 D) 46 0 D') 58 0 (fun _ => .inl 0) = hn (hn (hH N w q a xs) 65 0 D) 46 0 D' := fun D D' => hn_i3 (by decide) (by decide) (H_58 N w q a xs 0)
  have y59 : tu (tr t 23) 59 = tr t 24 := tr_u t 23
  have x59 : tr t 23 59 = 0 := (tr_v t 23 59 (by omega)).trans (ht 59 (by omega) (by omega))
  have z59 : ∀ D D', hn (hn (hn (hH N w q a xs) 65 0 D) 46 0 D') 59 0 (fun _ => .inl 0) = hn (hn (hH N w q a xs) 65 0 D) 46 0 D' := fun D D' => hn_i3 (by decide) (by decide) (H_59 N w q a xs 0)
  have y60 : tu (tr t 24) 60 = tr t 25 := tr_u t 24
  have x60 : tr t 24 60 = 0 := (tr_v t 24 60 (by omega)).trans (ht 60 (by omega) (by omega))
  have z60 : ∀ D D', hn (hn (hn (hH N w q a xs) 65 0 D) 46 0 D') 60 0 (fun _ => .inl 0) = hn (hn (hH N w q a xs) 65 0 D) 46 0 D' := fun D D' => hn_i3 (by decide) (by decide) (H_60 N w q a xs 0)
  have y61 : tu (tr t 25) 61 = tr t 26 := tr_u t 25
  have x61 : tr t 25 61 = 0 := (tr_v t 25 61 (by omega)).trans (ht 61 (by omega) (by omega))
  have z61 : ∀ D D', hn (hn (hn (hH N w q a xs) 65 0 D) 46 0 D') 61 0 (fun _ => .inl 0) = hn (hn (hH N w q a xs) 65 0 D) 46 0 D' := fun D D' => hn_i3 (by decide) (by decide) (H_61 N w q a xs 0)
  have y62 : tu (tr t 26) 62 = tr t 27 := tr_u t 26
  have x62 : tr t 26 62 = 0 := (tr_v t 26 62 (by omega)).trans (ht 62 (by omega) (by omega))
  have z62 : ∀ D D', hn (hn (hn (hH N w q a xs) 65 0 D) 46 0 D') 62 0 (fun _ => .inl 0) = hn (hn (hH N w q a xs) 65 0 D) 46 0 D' := fun D D' => hn_i3 (by decide) (by decide) (H_62 N w q a xs 0)
  have y63 : tu (tr t 27) 63 = tr t 28 := tr_u t 27
  have x63 : tr t 27 63 = 0 := (tr_v t 27 63 (by omega)).trans (ht 63 (by omega) (by omega))
  have z63 : ∀ D D', hn (hn (hn (hH N w q a xs) 65 0 D) 46 0 D') 63 0 (fun _ => .inl 0) = hn (hn (hH N w q a xs) 65 0 D) 46 0 D' := fun D D' => hn_i3 (by decide) (by decide) (H_63 N w q a xs 0)
  have z50 : ∀ D D', hn (hn (hn (hH N w q a xs) 65 0 D) 46 0 D') 50 0 (du (du (du (fun _ => .inl 0) 0 (.inl 1)) 1 (.inl 1)) 2 (.inl 1)) = hn (hn (hH N w q a xs) 65 0 D) 46 0 D' := fun D D' => hn_i3 (by decide) (by decide) (fun k => by
    match k with
    | 0 => rfl
    | 1 => rfl
    | 2 => rfl
    | k + 3 => exact (H_50 N w q a xs 0 (k + 3)).trans (if_neg (by omega)))
  have kl := fun c s t D hD hD2 => kl_95 N L w q a xs hN c s t (some (.inl v0)) (some (.inl v1)) (some (.inl v2)) (some (.inl v3)) D hD hD2 N 0 (by omega)
  rw [show (fun k => if k < 0 then (.inl 1 : av_V) else .inl 0) = (fun _ => .inl 0) from funext (fun k => if_neg (Nat.not_lt_zero k))] at kl
  have i01 : av_outD 0 3 = false := by decide
  have i11 : av_outD 1 3 = false := by decide
  have i21 : av_outD 2 3 = false := by decide
  have i00 : (0 : Int32).toNatClampNeg = 0 := rfl
  have i10 : (1 : Int32).toNatClampNeg = 1 := rfl
  have i20 : (2 : Int32).toNatClampNeg = 2 := rfl
  have t0 : t = tr t 0 := (tr_0 t).symm
  rw [t0]
  by_cases p : (4 : Int32) ≤ nI N
  · rw [if_pos p] at e4
    rw [← e4] at b1
    simp only [s_95_0, s_95_1, s_95_4, s_95_5, s_95_6, s_95_9, s_95_10, s_95_12, s_95_14, s_95_17, s_95_18, s_95_20, s_95_22, s_95_25, s_95_26, s_95_28, s_95_30, s_95_33, s_95_34, s_95_36, s_95_38, s_95_41, s_95_42, s_95_45, s_95_47, s_95_50, s_95_51, s_95_53, s_95_55, s_95_58, s_95_59, s_95_61, s_95_63, s_95_66, s_95_67, s_95_69, s_95_71, s_95_74, s_95_75, s_95_77, s_95_79, s_95_82, s_95_83, s_95_84, s_95_86, s_95_89, s_95_90, s_95_92, s_95_94, s_95_97, s_95_98, s_95_101, s_95_103, s_95_106, s_95_107, s_95_110, s_95_112, s_95_115, s_95_116, s_95_118, s_95_120, s_95_123, s_95_124, s_95_125, s_95_127, s_95_128, s_95_129, s_95_130, s_95_131, s_95_132, s_95_133, s_95_134, s_95_135, s_95_136, s_95_137, s_95_138, s_95_139, s_95_142, s_95_143, s_95_144, s_95_146, s_95_149, s_95_150, s_95_151, s_95_153, s_95_156, s_95_157, s_95_158, s_95_160, s_95_163, s_95_164, s_95_165, s_95_167, s_95_170, s_95_171, s_95_173, s_95_175, s_95_178, s_95_179, s_95_180, s_95_182, s_95_185, s_95_186, s_95_188, s_95_190, s_95_193, s_95_194, s_95_196, s_95_198, s_95_201, s_95_202, s_95_205, s_95_207, s_95_210, s_95_211, s_95_214, s_95_216, s_95_219, s_95_220, s_95_222, s_95_224, s_95_227, s_95_228, s_95_230, s_95_232, s_95_235, s_95_236, s_95_238, s_95_240, s_95_243, s_95_244, s_95_245, s_95_246, s_95_248, s_95_251, s_95_254, s_95_255, s_95_256, s_95_257, s_95_258, s_95_261, s_95_262, s_95_265, s_95_266, s_95_269, s_95_272, s_95_273, s_95_276, s_95_279, s_95_280, s_95_281, s_95_282, s_95_283, s_95_286, s_95_289, s_95_292, s_95_293, s_95_295, s_95_296, s_95_297, s_95_300, s_95_303, s_95_306, s_95_307, ctc_95, kd_0, kd_1, kd_2, kd_3, kd_4, kd_5, kd_6, kd_7, kd_8, kd_9, kd_10, kd_11, kd_12, kd_13, kd_14, kd_15, kd_16, kd_17, kd_18, kd_19, kd_20, kd_21, kd_22, kd_23, kd_24, kd_25, kd_26, kd_27, kd_28, kd_29, kd_30, kd_31, kd_32, kd_33, kd_34, kd_35, kd_36, kd_37, kd_38, kd_39, kd_40, kd_41, kd_42, kd_43, kd_44, kd_45, kd_46, kd_47, kd_48, kd_49, kd_50, kd_51, kd_52, kd_53, kd_54, kd_55, kd_56, kd_57, kd_58, kd_59, kd_60, kd_61, kd_62, kd_63, kd_64, kd_65, kd_66, v_0, v_1, v_2, v_3, v_4, v_5, v_7_0, v_7_1, v_9, v_10, v_11, v_12, v_13, v_14, v_15, v_16, v_17, v_20_0, v_20_1, v_20_2, v_22, v_23_0, v_23_1, v_23_2, v_23_3, v_24_0, v_26_0, v_26_1, v_28_0, v_28_1, v_28_2, v_28_3, v_28_4, v_28_5, v_28_6, v_29, v_36, v_37, v_38, v_39, v_40, v_41, v_42, v_43, v_44, v_45, v_46, v_47, v_48, v_49, v_50, v_51, v_52, v_53, v_54, v_55, v_56, v_57, v_58, v_59, v_60, v_61, v_62, v_63, v_64_0, v_64_1, v_64_2, v_65_0, v_65_1, v_65_2, v_65_3, v_65_4, v_65_5, v_65_6, v_65_7, v_65_8, v_65_14, v_65_37, v_26_2, v_26_3, v_28_7, v_28_8, v_28_9, v_28_10, v_7_2, v_7_3, v_7_4, v_20_3, v_20_4, v_20_5, v_24_1, v_24_2, v_24_3, v_24_4, v_23_4, v_23_5, v_8_0, v_21_0, v_64_3, v_64_4, v_64_5, v_64_6, v_64_7, v_65_9, v_65_10, v_65_11, v_65_12, v_65_13, v_65_15, v_65_16, v_65_17, v_65_18, v_65_19, v_65_20, v_65_21, v_65_22, v_65_23, v_65_24, v_65_25, v_65_26, v_65_27, v_65_28, v_65_29, v_65_30, v_65_31, v_65_32, v_65_33, v_65_34, v_65_35, v_65_36, v_65_38, v_6, v_18, v_19, v_25, v_27, v_66, n_0, n_25, n_1, n_2, n_3, n_4, n_5, n_6, n_9, n_10, n_11, n_12, n_13, n_14, n_15, n_16, n_17, n_18, n_19, n_22, n_27, n_29, n_66, n_36, n_37, n_38, n_39, n_40, n_41, n_42, n_43, n_44, n_45, n_46, n_47, n_48, n_49, n_50, n_51, n_52, n_53, n_54, n_55, n_56, n_57, n_58, n_59, n_60, n_61, n_62, n_63, mi_0, mi_1, mi_2, mi_3, mi_4, mi_5, mi_7_0, mi_7_1, mi_9, mi_10, mi_11, mi_12, mi_13, mi_14, mi_15, mi_16, mi_17, mi_20_0, mi_20_1, mi_20_2, mi_22, mi_23_0, mi_23_1, mi_23_2, mi_23_3, mi_24_0, mi_26_0, mi_26_1, mi_28_0, mi_28_1, mi_28_2, mi_28_3, mi_28_4, mi_28_5, mi_28_6, mi_29, mi_36, mi_37, mi_38, mi_39, mi_40, mi_41, mi_42, mi_43, mi_44, mi_45, mi_46, mi_47, mi_48, mi_49, mi_50, mi_51, mi_52, mi_53, mi_54, mi_55, mi_56, mi_57, mi_58, mi_59, mi_60, mi_61, mi_62, mi_63, mi_64_0, mi_64_1, mi_64_2, mi_65_0, mi_65_1, mi_65_2, mi_65_3, mi_65_4, mi_65_5, mi_65_6, mi_65_7, mi_65_8, mi_65_14, mi_65_37, mm_out, wt_0, wt_1, wt_2, wt_3, isI_1, isL_1, isZ_1, av_bind_ret, av_bind_thr, Option.toList_some, Option.toList_none, List.cons_append, List.nil_append, ↓reduceIte, Nat.reduceAdd, Nat.reduceLeDiff, Nat.reduceLT, Nat.reduceEqDiff, and_self, true_and, and_true, or_true, true_or, or_false, false_or, eq_self, not_true_eq_false, not_false_eq_true, w_0, w_1, w_2, w_3, w_4, w_5, w_7_0, w_7_1, w_9, w_10, w_11, w_12, w_13, w_14, w_15, w_16, w_17, w_20_0, w_20_1, w_20_2, w_22, w_23_0, w_23_1, w_23_2, w_23_3, w_24_0, w_26_0, w_26_1, w_28_0, w_28_1, w_28_2, w_28_3, w_28_4, w_28_5, w_28_6, w_29, w_36, w_37, w_38, w_39, w_40, w_41, w_42, w_43, w_44, w_45, w_46, w_47, w_48, w_49, w_50, w_51, w_52, w_53, w_54, w_55, w_56, w_57, w_58, w_59, w_60, w_61, w_62, w_63, w_64_0, w_64_1, w_64_2, w_65_0, w_65_1, w_65_2, w_65_3, w_65_4, w_65_5, w_65_6, w_65_7, w_65_8, w_65_14, w_65_37, cx_cnt, cx_val, cx_len, cx_wr, mk_1, mk_2, mk_3, mk_4, mk_5, mk_6, mk_9, mk_10, mk_11, mk_12, mk_13, mk_14, mk_15, mk_16, mk_17, mk_18, mk_19, mk_22, mk_27, mk_29, mk_36, mk_37, mk_38, mk_39, mk_40, mk_41, mk_42, mk_43, mk_44, mk_45, mk_46, mk_47, mk_48, mk_49, mk_50, mk_51, mk_52, mk_53, mk_54, mk_55, mk_56, mk_57, mk_58, mk_59, mk_60, mk_61, mk_62, mk_63, mk_66, mk_7, mk_8, mk_20, mk_21, mk_23, mk_24, mk_26, mk_28, mk_64, mk_65, td_1, td_2, td_3, td_4, td_6, td_10, td_18, td_24, td_40, td_60, td_61, td_70, td_80, td_160, td_480, od_1, od_2, od_3, od_4, od_6, od_10, od_18, od_24, od_40, od_60, od_61, od_70, od_80, od_160, od_480, ln_1, ln_2, ln_3, ln_4, ln_5, ln_6, ln_9, ln_10, ln_11, ln_12, ln_13, ln_14, ln_15, ln_16, ln_17, ln_18, ln_19, ln_22, ln_27, ln_29, ln_36, ln_37, ln_38, ln_39, ln_40, ln_41, ln_42, ln_43, ln_44, ln_45, ln_46, ln_47, ln_48, ln_49, ln_50, ln_51, ln_52, ln_53, ln_54, ln_55, ln_56, ln_57, ln_58, ln_59, ln_60, ln_61, ln_62, ln_63, ln_66, hu_s, hu_o, hn_s, hn_o, du_s, du_o, tu_s, tu_o, x36, y36, x37, y37, x38, y38, x39, y39, x40, y40, x41, y41, x42, y42, x43, y43, x44, y44, x45, y45, x46, y46, x47, y47, x48, y48, x49, y49, x50, y50, x51, y51, x52, y52, x53, y53, x54, y54, x55, y55, x56, y56, x57, y57, x58, y58, x59, y59, x60, y60, x61, y61, x62, y62, x63, y63, z36, z37, z38, z39, z40, z41, z42, z43, z44, z45, z47, z48, z49, z50, z51, z52, z53, z54, z55, z56, z57, z58, z59, z60, z61, z62, z63, i01, i11, i21, i00, i10, i20, b0, b1, b2, b3, p, BEq.rfl, Bool.or_true, Bool.true_or]
    refine (kl _ _ _ _ (by simp only [du_s, du_o, Nat.reduceEqDiff, not_false_eq_true]) (by simp only [du_s, du_o, Nat.reduceEqDiff, not_false_eq_true])).trans ?_
    rw [hn_i2 (by decide) (H_46 N w q a xs 0), hn_id (H_65 N w q a xs), tr_0]
  · rw [if_neg p] at e4
    rw [← e4] at b1
    simp only [s_95_0, s_95_1, s_95_4, s_95_5, s_95_6, s_95_9, s_95_10, s_95_12, s_95_14, s_95_17, s_95_18, s_95_20, s_95_22, s_95_25, s_95_26, s_95_28, s_95_30, s_95_33, s_95_34, s_95_36, s_95_38, s_95_41, s_95_42, s_95_45, s_95_47, s_95_50, s_95_51, s_95_53, s_95_55, s_95_58, s_95_59, s_95_61, s_95_63, s_95_66, s_95_67, s_95_69, s_95_71, s_95_74, s_95_75, s_95_77, s_95_79, s_95_82, s_95_83, s_95_84, s_95_86, s_95_89, s_95_90, s_95_92, s_95_94, s_95_97, s_95_98, s_95_101, s_95_103, s_95_106, s_95_107, s_95_110, s_95_112, s_95_115, s_95_116, s_95_118, s_95_120, s_95_123, s_95_124, s_95_125, s_95_127, s_95_128, s_95_129, s_95_130, s_95_131, s_95_132, s_95_133, s_95_134, s_95_135, s_95_136, s_95_137, s_95_138, s_95_139, s_95_142, s_95_143, s_95_144, s_95_146, s_95_149, s_95_150, s_95_151, s_95_153, s_95_156, s_95_157, s_95_158, s_95_160, s_95_163, s_95_164, s_95_165, s_95_167, s_95_170, s_95_171, s_95_173, s_95_175, s_95_178, s_95_179, s_95_180, s_95_182, s_95_185, s_95_186, s_95_188, s_95_190, s_95_193, s_95_194, s_95_196, s_95_198, s_95_201, s_95_202, s_95_205, s_95_207, s_95_210, s_95_211, s_95_214, s_95_216, s_95_219, s_95_220, s_95_222, s_95_224, s_95_227, s_95_228, s_95_230, s_95_232, s_95_235, s_95_236, s_95_238, s_95_240, s_95_243, s_95_244, s_95_245, s_95_246, s_95_248, s_95_251, s_95_254, s_95_255, s_95_256, s_95_257, s_95_258, s_95_261, s_95_262, s_95_265, s_95_266, s_95_269, s_95_272, s_95_273, s_95_276, s_95_279, s_95_280, s_95_281, s_95_282, s_95_283, s_95_286, s_95_289, s_95_292, s_95_293, s_95_295, s_95_296, s_95_297, s_95_300, s_95_303, s_95_306, s_95_307, ctc_95, kd_0, kd_1, kd_2, kd_3, kd_4, kd_5, kd_6, kd_7, kd_8, kd_9, kd_10, kd_11, kd_12, kd_13, kd_14, kd_15, kd_16, kd_17, kd_18, kd_19, kd_20, kd_21, kd_22, kd_23, kd_24, kd_25, kd_26, kd_27, kd_28, kd_29, kd_30, kd_31, kd_32, kd_33, kd_34, kd_35, kd_36, kd_37, kd_38, kd_39, kd_40, kd_41, kd_42, kd_43, kd_44, kd_45, kd_46, kd_47, kd_48, kd_49, kd_50, kd_51, kd_52, kd_53, kd_54, kd_55, kd_56, kd_57, kd_58, kd_59, kd_60, kd_61, kd_62, kd_63, kd_64, kd_65, kd_66, v_0, v_1, v_2, v_3, v_4, v_5, v_7_0, v_7_1, v_9, v_10, v_11, v_12, v_13, v_14, v_15, v_16, v_17, v_20_0, v_20_1, v_20_2, v_22, v_23_0, v_23_1, v_23_2, v_23_3, v_24_0, v_26_0, v_26_1, v_28_0, v_28_1, v_28_2, v_28_3, v_28_4, v_28_5, v_28_6, v_29, v_36, v_37, v_38, v_39, v_40, v_41, v_42, v_43, v_44, v_45, v_46, v_47, v_48, v_49, v_50, v_51, v_52, v_53, v_54, v_55, v_56, v_57, v_58, v_59, v_60, v_61, v_62, v_63, v_64_0, v_64_1, v_64_2, v_65_0, v_65_1, v_65_2, v_65_3, v_65_4, v_65_5, v_65_6, v_65_7, v_65_8, v_65_14, v_65_37, v_26_2, v_26_3, v_28_7, v_28_8, v_28_9, v_28_10, v_7_2, v_7_3, v_7_4, v_20_3, v_20_4, v_20_5, v_24_1, v_24_2, v_24_3, v_24_4, v_23_4, v_23_5, v_8_0, v_21_0, v_64_3, v_64_4, v_64_5, v_64_6, v_64_7, v_65_9, v_65_10, v_65_11, v_65_12, v_65_13, v_65_15, v_65_16, v_65_17, v_65_18, v_65_19, v_65_20, v_65_21, v_65_22, v_65_23, v_65_24, v_65_25, v_65_26, v_65_27, v_65_28, v_65_29, v_65_30, v_65_31, v_65_32, v_65_33, v_65_34, v_65_35, v_65_36, v_65_38, v_6, v_18, v_19, v_25, v_27, v_66, n_0, n_25, n_1, n_2, n_3, n_4, n_5, n_6, n_9, n_10, n_11, n_12, n_13, n_14, n_15, n_16, n_17, n_18, n_19, n_22, n_27, n_29, n_66, n_36, n_37, n_38, n_39, n_40, n_41, n_42, n_43, n_44, n_45, n_46, n_47, n_48, n_49, n_50, n_51, n_52, n_53, n_54, n_55, n_56, n_57, n_58, n_59, n_60, n_61, n_62, n_63, mi_0, mi_1, mi_2, mi_3, mi_4, mi_5, mi_7_0, mi_7_1, mi_9, mi_10, mi_11, mi_12, mi_13, mi_14, mi_15, mi_16, mi_17, mi_20_0, mi_20_1, mi_20_2, mi_22, mi_23_0, mi_23_1, mi_23_2, mi_23_3, mi_24_0, mi_26_0, mi_26_1, mi_28_0, mi_28_1, mi_28_2, mi_28_3, mi_28_4, mi_28_5, mi_28_6, mi_29, mi_36, mi_37, mi_38, mi_39, mi_40, mi_41, mi_42, mi_43, mi_44, mi_45, mi_46, mi_47, mi_48, mi_49, mi_50, mi_51, mi_52, mi_53, mi_54, mi_55, mi_56, mi_57, mi_58, mi_59, mi_60, mi_61, mi_62, mi_63, mi_64_0, mi_64_1, mi_64_2, mi_65_0, mi_65_1, mi_65_2, mi_65_3, mi_65_4, mi_65_5, mi_65_6, mi_65_7, mi_65_8, mi_65_14, mi_65_37, mm_out, wt_0, wt_1, wt_2, wt_3, isI_1, isL_1, isZ_1, av_bind_ret, av_bind_thr, Option.toList_some, Option.toList_none, List.cons_append, List.nil_append, ↓reduceIte, Nat.reduceAdd, Nat.reduceLeDiff, Nat.reduceLT, Nat.reduceEqDiff, and_self, true_and, and_true, or_true, true_or, or_false, false_or, eq_self, not_true_eq_false, not_false_eq_true, w_0, w_1, w_2, w_3, w_4, w_5, w_7_0, w_7_1, w_9, w_10, w_11, w_12, w_13, w_14, w_15, w_16, w_17, w_20_0, w_20_1, w_20_2, w_22, w_23_0, w_23_1, w_23_2, w_23_3, w_24_0, w_26_0, w_26_1, w_28_0, w_28_1, w_28_2, w_28_3, w_28_4, w_28_5, w_28_6, w_29, w_36, w_37, w_38, w_39, w_40, w_41, w_42, w_43, w_44, w_45, w_46, w_47, w_48, w_49, w_50, w_51, w_52, w_53, w_54, w_55, w_56, w_57, w_58, w_59, w_60, w_61, w_62, w_63, w_64_0, w_64_1, w_64_2, w_65_0, w_65_1, w_65_2, w_65_3, w_65_4, w_65_5, w_65_6, w_65_7, w_65_8, w_65_14, w_65_37, cx_cnt, cx_val, cx_len, cx_wr, mk_1, mk_2, mk_3, mk_4, mk_5, mk_6, mk_9, mk_10, mk_11, mk_12, mk_13, mk_14, mk_15, mk_16, mk_17, mk_18, mk_19, mk_22, mk_27, mk_29, mk_36, mk_37, mk_38, mk_39, mk_40, mk_41, mk_42, mk_43, mk_44, mk_45, mk_46, mk_47, mk_48, mk_49, mk_50, mk_51, mk_52, mk_53, mk_54, mk_55, mk_56, mk_57, mk_58, mk_59, mk_60, mk_61, mk_62, mk_63, mk_66, mk_7, mk_8, mk_20, mk_21, mk_23, mk_24, mk_26, mk_28, mk_64, mk_65, td_1, td_2, td_3, td_4, td_6, td_10, td_18, td_24, td_40, td_60, td_61, td_70, td_80, td_160, td_480, od_1, od_2, od_3, od_4, od_6, od_10, od_18, od_24, od_40, od_60, od_61, od_70, od_80, od_160, od_480, ln_1, ln_2, ln_3, ln_4, ln_5, ln_6, ln_9, ln_10, ln_11, ln_12, ln_13, ln_14, ln_15, ln_16, ln_17, ln_18, ln_19, ln_22, ln_27, ln_29, ln_36, ln_37, ln_38, ln_39, ln_40, ln_41, ln_42, ln_43, ln_44, ln_45, ln_46, ln_47, ln_48, ln_49, ln_50, ln_51, ln_52, ln_53, ln_54, ln_55, ln_56, ln_57, ln_58, ln_59, ln_60, ln_61, ln_62, ln_63, ln_66, hu_s, hu_o, hn_s, hn_o, du_s, du_o, tu_s, tu_o, x36, y36, x37, y37, x38, y38, x39, y39, x40, y40, x41, y41, x42, y42, x43, y43, x44, y44, x45, y45, x46, y46, x47, y47, x48, y48, x49, y49, x50, y50, x51, y51, x52, y52, x53, y53, x54, y54, x55, y55, x56, y56, x57, y57, x58, y58, x59, y59, x60, y60, x61, y61, x62, y62, x63, y63, z36, z37, z38, z39, z40, z41, z42, z43, z44, z45, z47, z48, z49, z50, z51, z52, z53, z54, z55, z56, z57, z58, z59, z60, z61, z62, z63, i01, i11, i21, i00, i10, i20, b0, b1, b2, b3, p, BEq.rfl, Bool.or_true, Bool.true_or]
    refine (kl _ _ _ _ (by simp only [du_s, du_o, Nat.reduceEqDiff, not_false_eq_true]) (by simp only [du_s, du_o, Nat.reduceEqDiff, not_false_eq_true])).trans ?_
    rw [hn_i2 (by decide) (H_46 N w q a xs 0), hn_id (H_65 N w q a xs), tr_0]
end M34
