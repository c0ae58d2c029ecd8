/-! the start of the law -/
theorem brg (v : Int32) (lo hi : Nat) (h1 : lo ≤ hi) (h2 : hi < 60000) : ∃ m, lo ≤ m ∧ m ≤ hi ∧ (∀ μ, av_cal 36 [.inl v, .inl (nI lo), .inl (nI hi)] μ = some (.inl (some (.inl (nI m))), μ)) ∧ ∀ μ, av_cal 96 [.inl v, .inl (nI lo), .inl (nI hi)] μ = some (.inl (some (.inl (nI m))), μ) := by
  have q1 : (nI lo).toInt = lo := Int32.toInt_ofNat_of_lt (by omega)
  have q2 : (nI hi).toInt = hi := Int32.toInt_ofNat_of_lt (by omega)
  by_cases c1 : nI lo ≤ v
  · by_cases c2 : v ≤ nI hi
    · have n1 : ¬ nI hi < v := fun z => by
        rw [Int32.lt_iff_toInt_lt] at z
        rw [Int32.le_iff_toInt_le] at c2
        omega
      obtain ⟨m, hm, e⟩ := inr_of (p := v) (n := hi + 1) (by omega) ⟨fun z => by
        rw [Int32.lt_iff_toInt_lt, show (0 : Int32).toInt = 0 from rfl] at z
        rw [Int32.le_iff_toInt_le, q1] at c1
        omega, fun z => by
        rw [Int32.le_iff_toInt_le, show (nI (hi + 1)).toInt = (hi + 1 : Nat) from Int32.toInt_ofNat_of_lt (by omega)] at z
        rw [Int32.le_iff_toInt_le, q2] at c2
        omega⟩
      have hlo : lo ≤ m := by
        rw [e, iI_le (by omega) (by omega)] at c1
        exact c1
      refine ⟨m, hlo, by omega, fun μ => ?_, fun μ => ?_⟩
      · show av_run 36 0 [some (.inl v), some (.inl (nI lo)), some (.inl (nI hi))] [] μ = _
        have e5 : (if nI lo < v then v else nI lo) = nI m := by
          by_cases z : nI lo < v
          · rw [if_pos z, e]
          · rw [if_neg z]
            have z2 := z
            rw [e, iI_lt (by omega) (by omega)] at z2
            exact congrArg nI (by omega)
        simp only [s_36_0, s_36_1, s_36_2, s_36_3, s_36_6, s_36_9, wt_0, wt_1, Nat.reduceAdd, Nat.reduceLeDiff, ↓reduceIte, n1, e5]
      · show av_run 96 0 [some (.inl v), some (.inl (nI lo)), some (.inl (nI hi))] [] μ = _
        simp only [s_96_0, s_96_1, s_96_2, s_96_5, s_96_6, s_96_9, s_96_10, s_96_11, s_96_14, s_96_15, s_96_18, s_96_19, c1, c2, ↓reduceIte]
        rw [e]
    · have n1 : nI hi < v := Int32.not_le.mp c2
      refine ⟨hi, h1, Nat.le_refl _, fun μ => ?_, fun μ => ?_⟩
      · show av_run 36 0 [some (.inl v), some (.inl (nI lo)), some (.inl (nI hi))] [] μ = _
        have e5 : (if nI lo < nI hi then nI hi else nI lo) = nI hi := by
          by_cases z : nI lo < nI hi
          · rw [if_pos z]
          · rw [if_neg z]
            rw [iI_lt (by omega) (by omega)] at z
            exact congrArg nI (by omega)
        simp only [s_36_0, s_36_1, s_36_2, s_36_3, s_36_6, s_36_9, wt_0, wt_1, Nat.reduceAdd, Nat.reduceLeDiff, ↓reduceIte, n1, e5]
      · show av_run 96 0 [some (.inl v), some (.inl (nI lo)), some (.inl (nI hi))] [] μ = _
        simp only [s_96_0, s_96_1, s_96_2, s_96_5, s_96_6, s_96_9, s_96_10, s_96_11, s_96_14, s_96_15, s_96_18, s_96_19, c1, c2, ↓reduceIte]
  · have n1 : ¬ nI hi < v := fun z => c1 (by
      rw [Int32.lt_iff_toInt_lt, q2] at z
      rw [Int32.le_iff_toInt_le, q1]
      omega)
    have n2 : ¬ nI lo < v := fun z => c1 (by
      rw [Int32.lt_iff_toInt_lt] at z
      rw [Int32.le_iff_toInt_le]
      omega)
    refine ⟨lo, Nat.le_refl _, h1, fun μ => ?_, fun μ => ?_⟩
    · show av_run 36 0 [some (.inl v), some (.inl (nI lo)), some (.inl (nI hi))] [] μ = _
      simp only [s_36_0, s_36_1, s_36_2, s_36_3, s_36_6, s_36_9, wt_0, wt_1, Nat.reduceAdd, Nat.reduceLeDiff, ↓reduceIte, n1, n2]
    · show av_run 96 0 [some (.inl v), some (.inl (nI lo)), some (.inl (nI hi))] [] μ = _
      simp only [s_96_0, s_96_1, s_96_2, s_96_5, s_96_6, s_96_9, s_96_10, s_96_11, s_96_14, s_96_15, s_96_18, s_96_19, c1, ↓reduceIte]
/-- a cell of the script, or none -/
def cv (L : Nat) (xs : Nat → Int32) (j : Nat) : Int32 := if j < L then xs j else 0
theorem m_149 (N L c s : Nat) (t : Nat → Nat) (h : mH) (xs : Nat → Int32) (hL : L ≤ 4000) (h0 : ∀ k, h 0 0 k = .inl (xs k)) (j : Nat) (hj : j < 4) : av_cal 149 [.inr (.inr (some (0, 0))), .inl (nI j)] (cm N L c s t h) = some (.inl (some (.inl (cv L xs j))), cm N L c s t h) := by
  show av_run 149 0 [some (.inr (.inr (some (0, 0)))), some (.inl (nI j))] [] _ = _
  have e0 : mlen N L 0 = L := rfl
  unfold cv
  by_cases y : j < L
  · have a1 : (nI L ≤ nI j) = False := (iI_le (by omega) (by omega)).trans (eq_false (by omega))
    have a2 : av_outD (nI j) L = false := ix (by omega) (by omega)
    have a3 : (nI j).toNatClampNeg = j := tn (by omega)
    rw [if_pos y]
    simp only [s_149_0, s_149_1, s_149_2, s_149_3, s_149_6, s_149_7, s_149_8, s_149_9, s_149_12, s_149_13, ctc_149, kd_0, kd_1, kd_2, kd_3, kd_4, kd_5, kd_6, kd_7, kd_8, kd_9, kd_10, kd_11, kd_12, kd_13, kd_14, kd_15, kd_16, kd_17, kd_18, kd_19, kd_20, kd_21, kd_22, kd_23, kd_24, kd_25, kd_26, kd_27, kd_28, kd_29, kd_30, kd_31, kd_32, kd_33, kd_34, kd_35, kd_36, kd_37, kd_38, kd_39, kd_40, kd_41, kd_42, kd_43, kd_44, kd_45, kd_46, kd_47, kd_48, kd_49, kd_50, kd_51, kd_52, kd_53, kd_54, kd_55, kd_56, kd_57, kd_58, kd_59, kd_60, kd_61, kd_62, kd_63, kd_64, kd_65, kd_66, v_0, v_1, v_2, v_3, v_4, v_5, v_7_0, v_7_1, v_9, v_10, v_11, v_12, v_13, v_14, v_15, v_16, v_17, v_20_0, v_20_1, v_20_2, v_22, v_23_0, v_23_1, v_23_2, v_23_3, v_24_0, v_26_0, v_26_1, v_28_0, v_28_1, v_28_2, v_28_3, v_28_4, v_28_5, v_28_6, v_29, v_36, v_37, v_38, v_39, v_40, v_41, v_42, v_43, v_44, v_45, v_46, v_47, v_48, v_49, v_50, v_51, v_52, v_53, v_54, v_55, v_56, v_57, v_58, v_59, v_60, v_61, v_62, v_63, v_64_0, v_64_1, v_64_2, v_65_0, v_65_1, v_65_2, v_65_3, v_65_4, v_65_5, v_65_6, v_65_7, v_65_8, v_65_14, v_65_37, v_26_2, v_26_3, v_28_7, v_28_8, v_28_9, v_28_10, v_7_2, v_7_3, v_7_4, v_20_3, v_20_4, v_20_5, v_24_1, v_24_2, v_24_3, v_24_4, v_23_4, v_23_5, v_8_0, v_21_0, v_64_3, v_64_4, v_64_5, v_64_6, v_64_7, v_65_9, v_65_10, v_65_11, v_65_12, v_65_13, v_65_15, v_65_16, v_65_17, v_65_18, v_65_19, v_65_20, v_65_21, v_65_22, v_65_23, v_65_24, v_65_25, v_65_26, v_65_27, v_65_28, v_65_29, v_65_30, v_65_31, v_65_32, v_65_33, v_65_34, v_65_35, v_65_36, v_65_38, v_6, v_18, v_19, v_25, v_27, v_66, n_0, n_25, n_1, n_2, n_3, n_4, n_5, n_6, n_9, n_10, n_11, n_12, n_13, n_14, n_15, n_16, n_17, n_18, n_19, n_22, n_27, n_29, n_66, n_36, n_37, n_38, n_39, n_40, n_41, n_42, n_43, n_44, n_45, n_46, n_47, n_48, n_49, n_50, n_51, n_52, n_53, n_54, n_55, n_56, n_57, n_58, n_59, n_60, n_61, n_62, n_63, mi_0, mi_1, mi_2, mi_3, mi_4, mi_5, mi_7_0, mi_7_1, mi_9, mi_10, mi_11, mi_12, mi_13, mi_14, mi_15, mi_16, mi_17, mi_20_0, mi_20_1, mi_20_2, mi_22, mi_23_0, mi_23_1, mi_23_2, mi_23_3, mi_24_0, mi_26_0, mi_26_1, mi_28_0, mi_28_1, mi_28_2, mi_28_3, mi_28_4, mi_28_5, mi_28_6, mi_29, mi_36, mi_37, mi_38, mi_39, mi_40, mi_41, mi_42, mi_43, mi_44, mi_45, mi_46, mi_47, mi_48, mi_49, mi_50, mi_51, mi_52, mi_53, mi_54, mi_55, mi_56, mi_57, mi_58, mi_59, mi_60, mi_61, mi_62, mi_63, mi_64_0, mi_64_1, mi_64_2, mi_65_0, mi_65_1, mi_65_2, mi_65_3, mi_65_4, mi_65_5, mi_65_6, mi_65_7, mi_65_8, mi_65_14, mi_65_37, mm_out, wt_0, wt_1, wt_2, wt_3, isI_1, isL_1, isZ_1, av_bind_ret, av_bind_thr, Option.toList_some, Option.toList_none, List.cons_append, List.nil_append, ↓reduceIte, Nat.reduceAdd, Nat.reduceLeDiff, Nat.reduceLT, Nat.reduceEqDiff, and_self, true_and, and_true, or_true, true_or, or_false, false_or, eq_self, not_true_eq_false, not_false_eq_true, w_0, w_1, w_2, w_3, w_4, w_5, w_7_0, w_7_1, w_9, w_10, w_11, w_12, w_13, w_14, w_15, w_16, w_17, w_20_0, w_20_1, w_20_2, w_22, w_23_0, w_23_1, w_23_2, w_23_3, w_24_0, w_26_0, w_26_1, w_28_0, w_28_1, w_28_2, w_28_3, w_28_4, w_28_5, w_28_6, w_29, w_36, w_37, w_38, w_39, w_40, w_41, w_42, w_43, w_44, w_45, w_46, w_47, w_48, w_49, w_50, w_51, w_52, w_53, w_54, w_55, w_56, w_57, w_58, w_59, w_60, w_61, w_62, w_63, w_64_0, w_64_1, w_64_2, w_65_0, w_65_1, w_65_2, w_65_3, w_65_4, w_65_5, w_65_6, w_65_7, w_65_8, w_65_14, w_65_37, cx_cnt, cx_val, cx_len, cx_wr, mk_1, mk_2, mk_3, mk_4, mk_5, mk_6, mk_9, mk_10, mk_11, mk_12, mk_13, mk_14, mk_15, mk_16, mk_17, mk_18, mk_19, mk_22, mk_27, mk_29, mk_36, mk_37, mk_38, mk_39, mk_40, mk_41, mk_42, mk_43, mk_44, mk_45, mk_46, mk_47, mk_48, mk_49, mk_50, mk_51, mk_52, mk_53, mk_54, mk_55, mk_56, mk_57, mk_58, mk_59, mk_60, mk_61, mk_62, mk_63, mk_66, mk_7, mk_8, mk_20, mk_21, mk_23, mk_24, mk_26, mk_28, mk_64, mk_65, td_1, td_2, td_3, td_4, td_6, td_10, td_18, td_24, td_40, td_60, td_61, td_70, td_80, td_160, td_480, od_1, od_2, od_3, od_4, od_6, od_10, od_18, od_24, od_40, od_60, od_61, od_70, od_80, od_160, od_480, ln_1, ln_2, ln_3, ln_4, ln_5, ln_6, ln_9, ln_10, ln_11, ln_12, ln_13, ln_14, ln_15, ln_16, ln_17, ln_18, ln_19, ln_22, ln_27, ln_29, ln_36, ln_37, ln_38, ln_39, ln_40, ln_41, ln_42, ln_43, ln_44, ln_45, ln_46, ln_47, ln_48, ln_49, ln_50, ln_51, ln_52, ln_53, ln_54, ln_55, ln_56, ln_57, ln_58, ln_59, ln_60, ln_61, ln_62, ln_63, ln_66, hu_s, hu_o, hn_s, hn_o, du_s, du_o, tu_s, tu_o, e0, a1, a2, a3, h0]
  · have a1 : (nI L ≤ nI j) = True := (iI_le (by omega) (by omega)).trans (eq_true (by omega))
    rw [if_neg y]
    simp only [s_149_0, s_149_1, s_149_2, s_149_3, s_149_6, s_149_7, s_149_8, s_149_9, s_149_12, s_149_13, ctc_149, kd_0, kd_1, kd_2, kd_3, kd_4, kd_5, kd_6, kd_7, kd_8, kd_9, kd_10, kd_11, kd_12, kd_13, kd_14, kd_15, kd_16, kd_17, kd_18, kd_19, kd_20, kd_21, kd_22, kd_23, kd_24, kd_25, kd_26, kd_27, kd_28, kd_29, kd_30, kd_31, kd_32, kd_33, kd_34, kd_35, kd_36, kd_37, kd_38, kd_39, kd_40, kd_41, kd_42, kd_43, kd_44, kd_45, kd_46, kd_47, kd_48, kd_49, kd_50, kd_51, kd_52, kd_53, kd_54, kd_55, kd_56, kd_57, kd_58, kd_59, kd_60, kd_61, kd_62, kd_63, kd_64, kd_65, kd_66, v_0, v_1, v_2, v_3, v_4, v_5, v_7_0, v_7_1, v_9, v_10, v_11, v_12, v_13, v_14, v_15, v_16, v_17, v_20_0, v_20_1, v_20_2, v_22, v_23_0, v_23_1, v_23_2, v_23_3, v_24_0, v_26_0, v_26_1, v_28_0, v_28_1, v_28_2, v_28_3, v_28_4, v_28_5, v_28_6, v_29, v_36, v_37, v_38, v_39, v_40, v_41, v_42, v_43, v_44, v_45, v_46, v_47, v_48, v_49, v_50, v_51, v_52, v_53, v_54, v_55, v_56, v_57, v_58, v_59, v_60, v_61, v_62, v_63, v_64_0, v_64_1, v_64_2, v_65_0, v_65_1, v_65_2, v_65_3, v_65_4, v_65_5, v_65_6, v_65_7, v_65_8, v_65_14, v_65_37, v_26_2, v_26_3, v_28_7, v_28_8, v_28_9, v_28_10, v_7_2, v_7_3, v_7_4, v_20_3, v_20_4, v_20_5, v_24_1, v_24_2, v_24_3, v_24_4, v_23_4, v_23_5, v_8_0, v_21_0, v_64_3, v_64_4, v_64_5, v_64_6, v_64_7, v_65_9, v_65_10, v_65_11, v_65_12, v_65_13, v_65_15, v_65_16, v_65_17, v_65_18, v_65_19, v_65_20, v_65_21, v_65_22, v_65_23, v_65_24, v_65_25, v_65_26, v_65_27, v_65_28, v_65_29, v_65_30, v_65_31, v_65_32, v_65_33, v_65_34, v_65_35, v_65_36, v_65_38, v_6, v_18, v_19, v_25, v_27, v_66, n_0, n_25, n_1, n_2, n_3, n_4, n_5, n_6, n_9, n_10, n_11, n_12, n_13, n_14, n_15, n_16, n_17, n_18, n_19, n_22, n_27, n_29, n_66, n_36, n_37, n_38, n_39, n_40, n_41, n_42, n_43, n_44, n_45, n_46, n_47, n_48, n_49, n_50, n_51, n_52, n_53, n_54, n_55, n_56, n_57, n_58, n_59, n_60, n_61, n_62, n_63, mi_0, mi_1, mi_2, mi_3, mi_4, mi_5, mi_7_0, mi_7_1, mi_9, mi_10, mi_11, mi_12, mi_13, mi_14, mi_15, mi_16, mi_17, mi_20_0, mi_20_1, mi_20_2, mi_22, mi_23_0, mi_23_1, mi_23_2, mi_23_3, mi_24_0, mi_26_0, mi_26_1, mi_28_0, mi_28_1, mi_28_2, mi_28_3, mi_28_4, mi_28_5, mi_28_6, mi_29, mi_36, mi_37, mi_38, mi_39, mi_40, mi_41, mi_42, mi_43, mi_44, mi_45, mi_46, mi_47, mi_48, mi_49, mi_50, mi_51, mi_52, mi_53, mi_54, mi_55, mi_56, mi_57, mi_58, mi_59, mi_60, mi_61, mi_62, mi_63, mi_64_0, mi_64_1, mi_64_2, mi_65_0, mi_65_1, mi_65_2, mi_65_3, mi_65_4, mi_65_5, mi_65_6, mi_65_7, mi_65_8, mi_65_14, mi_65_37, mm_out, wt_0, wt_1, wt_2, wt_3, isI_1, isL_1, isZ_1, av_bind_ret, av_bind_thr, Option.toList_some, Option.toList_none, List.cons_append, List.nil_append, ↓reduceIte, Nat.reduceAdd, Nat.reduceLeDiff, Nat.reduceLT, Nat.reduceEqDiff, and_self, true_and, and_true, or_true, true_or, or_false, false_or, eq_self, not_true_eq_false, not_false_eq_true, w_0, w_1, w_2, w_3, w_4, w_5, w_7_0, w_7_1, w_9, w_10, w_11, w_12, w_13, w_14, w_15, w_16, w_17, w_20_0, w_20_1, w_20_2, w_22, w_23_0, w_23_1, w_23_2, w_23_3, w_24_0, w_26_0, w_26_1, w_28_0, w_28_1, w_28_2, w_28_3, w_28_4, w_28_5, w_28_6, w_29, w_36, w_37, w_38, w_39, w_40, w_41, w_42, w_43, w_44, w_45, w_46, w_47, w_48, w_49, w_50, w_51, w_52, w_53, w_54, w_55, w_56, w_57, w_58, w_59, w_60, w_61, w_62, w_63, w_64_0, w_64_1, w_64_2, w_65_0, w_65_1, w_65_2, w_65_3, w_65_4, w_65_5, w_65_6, w_65_7, w_65_8, w_65_14, w_65_37, cx_cnt, cx_val, cx_len, cx_wr, mk_1, mk_2, mk_3, mk_4, mk_5, mk_6, mk_9, mk_10, mk_11, mk_12, mk_13, mk_14, mk_15, mk_16, mk_17, mk_18, mk_19, mk_22, mk_27, mk_29, mk_36, mk_37, mk_38, mk_39, mk_40, mk_41, mk_42, mk_43, mk_44, mk_45, mk_46, mk_47, mk_48, mk_49, mk_50, mk_51, mk_52, mk_53, mk_54, mk_55, mk_56, mk_57, mk_58, mk_59, mk_60, mk_61, mk_62, mk_63, mk_66, mk_7, mk_8, mk_20, mk_21, mk_23, mk_24, mk_26, mk_28, mk_64, mk_65, td_1, td_2, td_3, td_4, td_6, td_10, td_18, td_24, td_40, td_60, td_61, td_70, td_80, td_160, td_480, od_1, od_2, od_3, od_4, od_6, od_10, od_18, od_24, od_40, od_60, od_61, od_70, od_80, od_160, od_480, ln_1, ln_2, ln_3, ln_4, ln_5, ln_6, ln_9, ln_10, ln_11, ln_12, ln_13, ln_14, ln_15, ln_16, ln_17, ln_18, ln_19, ln_22, ln_27, ln_29, ln_36, ln_37, ln_38, ln_39, ln_40, ln_41, ln_42, ln_43, ln_44, ln_45, ln_46, ln_47, ln_48, ln_49, ln_50, ln_51, ln_52, ln_53, ln_54, ln_55, ln_56, ln_57, ln_58, ln_59, ln_60, ln_61, ln_62, ln_63, ln_66, hu_s, hu_o, hn_s, hn_o, du_s, du_o, tu_s, tu_o, e0, a1]
theorem Rel_g0 (N w q a : Nat) (xs : Nat → Int32) : Rel N w q a 0 0 0 0 (g0 N w q a xs) := by
  refine ⟨⟨rfl, rfl, rfl, rfl, rfl, rfl, rfl⟩, ⟨rfl, rfl, rfl, rfl, rfl, rfl, rfl⟩, ⟨fun l hl => absurd hl (Nat.not_lt_zero _), fun l _ hl => ⟨rfl, rfl, rfl, fun i hi => if_pos hi, fun _ _ => rfl, fun _ _ => rfl, fun _ _ => rfl⟩, fun l hl => absurd hl (Nat.not_lt_zero _), fun l hl => absurd hl (Nat.not_lt_zero _)⟩, ⟨rfl, rfl, fun i hi => ⟨rfl, rfl, rfl, 0, by omega, rfl⟩, fun t ht => ⟨rfl, 0, by omega, rfl⟩⟩, fun _ _ => rfl, fun k hk => ⟨⟨Or.inr rfl, if_pos hk, m10_0, fun l hl => ⟨fun h => absurd h (bt10_0 hl), fun h => absurd rfl h⟩⟩, fun l hl => ⟨m6_0, m6_0, fun e he => ⟨(if_neg (bt_0 he)).symm, (bI_f _ (bt_0 he)).symm, fun h => absurd h (bt_0 he), fun h => absurd h (bt_0 he)⟩⟩⟩, fun b hb => ⟨0, 0, 0, 0, ⟨by omega, by omega, by omega, Or.inr rfl, if_pos hb, fun _ => rfl, rfl, rfl, rfl, rfl, rfl, fun h => by omega, fun _ => rfl⟩, ⟨by omega, rfl, rfl, fun _ => rfl, rfl, fun i hi => ⟨rfl, m6_0, fun _ => rfl⟩, fun h => by omega⟩, ⟨rfl, m6_0, fun _ => rfl, fun k hk => ⟨rfl, m6_0, m6_0, show (0 : Int32) = 0 ||| 0 by decide, fun _ => rfl, fun _ => ⟨rfl, rfl⟩, fun i hi h => absurd h (bt_0 (by omega))⟩⟩⟩, ⟨fun b b' _ _ _ h => absurd h (show ¬ (0 : Int32) = 3 by decide), fun b hb _ => ⟨fun h => absurd h (show ¬ (0 : Int32) = 2 by decide), fun h => h.elim (fun h => absurd h (show ¬ (0 : Int32) = 1 by decide)) (fun h => absurd h (show ¬ (0 : Int32) = 3 by decide))⟩⟩, fun d hd => ⟨⟨m6_0, fun y hy => ⟨fun h => absurd h (bt_0 (by omega)), fun _ => rfl⟩, 3, 0, by omega, by omega, rfl, rfl, rfl⟩, fun l hl => ⟨m6_0, fun e he => (bI_f _ (bt_0 he)).symm⟩, fun t ht _ => Or.inl ⟨if_pos ht, rfl⟩⟩, fun t ht l hl => ⟨m6_0, fun e he => (bI_f _ (bt_0 he)).symm⟩⟩
theorem cnt_e (N : Nat) (h3 : 3 ≤ N) (h6 : N ≤ 6) (f : Nat) : (if f = 0 then 1 else 0) + (if f = 64 then 1 else 0) + ((if f = 23 then 1 else 0) + (if f = 18 ∨ f = 19 then 1 else 0) + (if f = 20 ∨ f = 11 ∨ f = 12 ∨ f = 13 then 10 else 0) + (if f = 21 ∨ f = 22 then 2 else 0) + (if f = 24 then 1 else 0) + (if f = 14 then 1 else 0) + (if f = 15 then 1 else 0) + (if f = 16 then 1 else 0) + (if f = 17 then 1 else 0) + (if f = 25 then 1 else 0) + (if f = 26 ∨ f = 1 ∨ f = 2 then N else 0) + (if f = 27 then 1 else 0) + (if f = 28 ∨ f = 3 ∨ f = 4 ∨ f = 5 ∨ f = 6 then 3 else 0) + (if f = 7 ∨ f = 8 ∨ f = 9 ∨ f = 10 ∨ f = 22 then 2 * 3 else 0) + (if f = 29 then 1 else 0)) + (if f = 65 then 1 else 0) + (if 36 ≤ f ∧ f < 36 + 28 then 1 else 0) + (if f = 66 then 1 else 0) = mn N (fun _ => 0) f := by
  by_cases hf : f < 67
  · have hN : N = 3 ∨ N = 4 ∨ N = 5 ∨ N = 6 := by omega
    have key : ∀ N, (N = 3 ∨ N = 4 ∨ N = 5 ∨ N = 6) → ∀ f, f < 67 → (if f = 0 then 1 else 0) + (if f = 64 then 1 else 0) + ((if f = 23 then 1 else 0) + (if f = 18 ∨ f = 19 then 1 else 0) + (if f = 20 ∨ f = 11 ∨ f = 12 ∨ f = 13 then 10 else 0) + (if f = 21 ∨ f = 22 then 2 else 0) + (if f = 24 then 1 else 0) + (if f = 14 then 1 else 0) + (if f = 15 then 1 else 0) + (if f = 16 then 1 else 0) + (if f = 17 then 1 else 0) + (if f = 25 then 1 else 0) + (if f = 26 ∨ f = 1 ∨ f = 2 then N else 0) + (if f = 27 then 1 else 0) + (if f = 28 ∨ f = 3 ∨ f = 4 ∨ f = 5 ∨ f = 6 then 3 else 0) + (if f = 7 ∨ f = 8 ∨ f = 9 ∨ f = 10 ∨ f = 22 then 2 * 3 else 0) + (if f = 29 then 1 else 0)) + (if f = 65 then 1 else 0) + (if 36 ≤ f ∧ f < 36 + 28 then 1 else 0) + (if f = 66 then 1 else 0) = mn N (fun _ => 0) f := by
      intro N hN
      rcases hN with rfl | rfl | rfl | rfl
      all_goals decide +kernel
    exact key N hN f hf
  · have e0 : mn N (fun _ => 0) f = 0 := by
      unfold mn
      split
      all_goals first | rfl | (exfalso; omega)
    rw [e0]
    repeat rw [if_neg (by omega)]
section M35
variable (N L w q a : Nat) (xs : Nat → Int32)
theorem H_66 (k : Nat) : hH N w q a xs 66 0 k = .inr (.inl 0) := by
  show (if (0 : Nat) = 0 ∧ k = 0 then .inr (.inl 0) else .inr (.inl 0) : av_V) = _
  split <;> rfl
theorem start (hL : L ≤ 3076) (h3 : 3 ≤ N) (h6 : N ≤ 6) (b0 : ∀ μ, av_cal 36 [.inl (cv L xs 0), .inl 3, .inl 6] μ = some (.inl (some (.inl (nI N))), μ)) (b1 : ∀ μ, av_cal 36 [.inl (cv L xs 1), .inl 1, .inl (nI (min N 4))] μ = some (.inl (some (.inl (nI w))), μ)) (b2 : ∀ μ, av_cal 36 [.inl (cv L xs 2), .inl 1, .inl (nI w)] μ = some (.inl (some (.inl (nI q))), μ)) (b3 : ∀ μ, av_cal 36 [.inl (cv L xs 3), .inl 1, .inl (nI q)] μ = some (.inl (some (.inl (nI a))), μ)) (d0 : ∀ μ, av_cal 96 [.inl (cv L xs 0), .inl 3, .inl 6] μ = some (.inl (some (.inl (nI N))), μ)) (d1 : ∀ μ, av_cal 96 [.inl (cv L xs 1), .inl 1, .inl (nI (min N 4))] μ = some (.inl (some (.inl (nI w))), μ)) (d2 : ∀ μ, av_cal 96 [.inl (cv L xs 2), .inl 1, .inl (nI w)] μ = some (.inl (some (.inl (nI q))), μ)) (d3 : ∀ μ, av_cal 96 [.inl (cv L xs 3), .inl 1, .inl (nI q)] μ = some (.inl (some (.inl (nI a))), μ)) (c s : Nat) : ∃ c' s', c' ≤ c + 400 ∧ s' ≤ s + 6000 ∧ av_run 169 0 [some (.inr (.inr (some (0, 0)))), none, none, none, none, none, none] [] (cm N L c s (fun f => if f = 0 then 1 else 0) (hH N w q a xs)) = av_run 169 63 [some (.inr (.inr (some (0, 0)))), some (.inr (.inr (some (64, 0)))), some (.inr (.inr (some (65, 0)))), some (.inr (.inr (some (66, 0)))), some (.inl (nI 4)), none, none] [] (mm N L c' s' (fun _ => 0) 0 (g0 N w q a xs)) := by
  have e4 : (if (4 : Int32) < nI N then 4 else nI N) = nI (min N 4) := by
    have e : ((4 : Int32) < nI N) = (4 < N) := iI_lt (a := 4) (by omega) (by omega)
    by_cases y : 4 < N
    · rw [if_pos (e.mpr y), Nat.min_eq_right (by omega)]
      rfl
    · rw [if_neg (fun x => y (e.mp x)), Nat.min_eq_left (by omega)]
  have e5 : (if (4 : Int32) ≤ nI N then 4 else nI N) = nI (min N 4) := by
    have e : ((4 : Int32) ≤ nI N) = (4 ≤ N) := iI_le (a := 4) (by omega) (by omega)
    by_cases y : 4 ≤ N
    · rw [if_pos (e.mpr y), Nat.min_eq_right (by omega)]
      rfl
    · rw [if_neg (fun x => y (e.mp x)), Nat.min_eq_left (by omega)]
  have T0 : ∀ f, ¬ f = 0 → ((fun f => if f = 0 then 1 else 0) : Nat → Nat) f = 0 := fun f hf => if_neg hf
  have k149 : ∀ c s t h, (∀ k, h 0 0 k = .inl (xs k)) → ∀ j, j < 4 → av_cal 149 [.inr (.inr (some (0, 0))), .inl (nI j)] (cm N L c s t h) = some (.inl (some (.inl (cv L xs j))), cm N L c s t h) := fun c s t h h0 j hj => m_149 N L c s t h xs (by omega) h0 j hj
  obtain ⟨c1, s1, t1, a1, a2, a3, a4⟩ := kc_35 N L w q a xs h6 (cv L xs 0) (cv L xs 1) (cv L xs 2) (cv L xs 3) (min N 4) b0 e4 b1 b2 b3 (c + 1) (s + 8) (tu (fun f => if f = 0 then 1 else 0) 64) (fun f f0 f64 => (tu_o _ _ _ f64).trans (T0 f f0))
  have u65 : t1 65 = 0 := by rw [a3, tu_o _ _ _ (by decide)]; rfl
  have u66 : t1 66 = 0 := by rw [a3, tu_o _ _ _ (by decide)]; rfl
  have um : ∀ f, 36 ≤ f → f < 64 → tu t1 65 f = 0 := fun f f1 f2 => by
    rw [tu_o _ _ _ (by omega), a3, tu_o _ _ _ (by omega)]
    repeat rw [if_neg (by omega)]
  obtain ⟨c2, s2, g1, g2, g4⟩ := kc_95 N L w q a xs h6 (cv L xs 0) (cv L xs 1) (cv L xs 2) (cv L xs 3) (min N 4) d0 e5 d1 d2 d3 (c1 + 1) (s1 + 39) (tu t1 65) um
  have v66 : tr (tu t1 65) 28 66 = 0 := (tr_v _ _ _ (by decide)).trans ((tu_o _ _ _ (by decide)).trans u66)
  refine ⟨c2 + 1, s2 + 1, by omega, by omega, ?_⟩
  have kA0 : ∀ c s t, av_cal 149 [.inr (.inr (some (0, 0))), .inl 0] (cm N L c s t (hn (hH N w q a xs) 64 0 (fun k => av_dv (tl_ty 7 k)))) = some (.inl (some (.inl (cv L xs 0))), cm N L c s t (hn (hH N w q a xs) 64 0 (fun k => av_dv (tl_ty 7 k)))) := fun c s t => k149 c s t (hn (hH N w q a xs) 64 0 (fun k => av_dv (tl_ty 7 k))) (fun k => (hn_o _ _ _ _ _ _ _ (by decide)).trans rfl) 0 (by decide)
  have kA1 : ∀ c s t, av_cal 149 [.inr (.inr (some (0, 0))), .inl 1] (cm N L c s t (hn (hH N w q a xs) 64 0 (fun k => av_dv (tl_ty 7 k)))) = some (.inl (some (.inl (cv L xs 1))), cm N L c s t (hn (hH N w q a xs) 64 0 (fun k => av_dv (tl_ty 7 k)))) := fun c s t => k149 c s t (hn (hH N w q a xs) 64 0 (fun k => av_dv (tl_ty 7 k))) (fun k => (hn_o _ _ _ _ _ _ _ (by decide)).trans rfl) 1 (by decide)
  have kA2 : ∀ c s t, av_cal 149 [.inr (.inr (some (0, 0))), .inl 2] (cm N L c s t (hn (hH N w q a xs) 64 0 (fun k => av_dv (tl_ty 7 k)))) = some (.inl (some (.inl (cv L xs 2))), cm N L c s t (hn (hH N w q a xs) 64 0 (fun k => av_dv (tl_ty 7 k)))) := fun c s t => k149 c s t (hn (hH N w q a xs) 64 0 (fun k => av_dv (tl_ty 7 k))) (fun k => (hn_o _ _ _ _ _ _ _ (by decide)).trans rfl) 2 (by decide)
  have kA3 : ∀ c s t, av_cal 149 [.inr (.inr (some (0, 0))), .inl 3] (cm N L c s t (hn (hH N w q a xs) 64 0 (fun k => av_dv (tl_ty 7 k)))) = some (.inl (some (.inl (cv L xs 3))), cm N L c s t (hn (hH N w q a xs) 64 0 (fun k => av_dv (tl_ty 7 k)))) := fun c s t => k149 c s t (hn (hH N w q a xs) 64 0 (fun k => av_dv (tl_ty 7 k))) (fun k => (hn_o _ _ _ _ _ _ _ (by decide)).trans rfl) 3 (by decide)
  have kB0 : ∀ c s t, av_cal 149 [.inr (.inr (some (0, 0))), .inl 0] (cm N L c s t (hn (hH N w q a xs) 65 0 (fun k => av_dv (tl_ty 8 k)))) = some (.inl (some (.inl (cv L xs 0))), cm N L c s t (hn (hH N w q a xs) 65 0 (fun k => av_dv (tl_ty 8 k)))) := fun c s t => k149 c s t (hn (hH N w q a xs) 65 0 (fun k => av_dv (tl_ty 8 k))) (fun k => (hn_o _ _ _ _ _ _ _ (by decide)).trans rfl) 0 (by decide)
  have kB1 : ∀ c s t, av_cal 149 [.inr (.inr (some (0, 0))), .inl 1] (cm N L c s t (hn (hH N w q a xs) 65 0 (fun k => av_dv (tl_ty 8 k)))) = some (.inl (some (.inl (cv L xs 1))), cm N L c s t (hn (hH N w q a xs) 65 0 (fun k => av_dv (tl_ty 8 k)))) := fun c s t => k149 c s t (hn (hH N w q a xs) 65 0 (fun k => av_dv (tl_ty 8 k))) (fun k => (hn_o _ _ _ _ _ _ _ (by decide)).trans rfl) 1 (by decide)
  have kB2 : ∀ c s t, av_cal 149 [.inr (.inr (some (0, 0))), .inl 2] (cm N L c s t (hn (hH N w q a xs) 65 0 (fun k => av_dv (tl_ty 8 k)))) = some (.inl (some (.inl (cv L xs 2))), cm N L c s t (hn (hH N w q a xs) 65 0 (fun k => av_dv (tl_ty 8 k)))) := fun c s t => k149 c s t (hn (hH N w q a xs) 65 0 (fun k => av_dv (tl_ty 8 k))) (fun k => (hn_o _ _ _ _ _ _ _ (by decide)).trans rfl) 2 (by decide)
  have kB3 : ∀ c s t, av_cal 149 [.inr (.inr (some (0, 0))), .inl 3] (cm N L c s t (hn (hH N w q a xs) 65 0 (fun k => av_dv (tl_ty 8 k)))) = some (.inl (some (.inl (cv L xs 3))), cm N L c s t (hn (hH N w q a xs) 65 0 (fun k => av_dv (tl_ty 8 k)))) := fun c s t => k149 c s t (hn (hH N w q a xs) 65 0 (fun k => av_dv (tl_ty 8 k))) (fun k => (hn_o _ _ _ _ _ _ _ (by decide)).trans rfl) 3 (by decide)
  have z64 : (if (64 : Nat) = 0 then 1 else 0) = 0 := rfl
  have z66 : hn (hH N w q a xs) 66 0 (fun _ => .inr (.inl 0)) = (hH N w q a xs) := hn_id (H_66 N w q a xs)
  have tq : tu (tr (tu t1 65) 28) 66 = mn N (fun _ => 0) := by
    funext f
    rw [tu_e]
    unfold tr
    rw [tu_e, a3 f, tu_e]
    exact cnt_e N h3 h6 f
  have fin : ∀ c s, cm N L c s (mn N (fun _ => 0)) (hH N w q a xs) = mm N L c s (fun _ => 0) 0 (g0 N w q a xs) := fun _ _ => rfl
  simp only [s_169_0, s_169_3, s_169_4, s_169_5, s_169_6, s_169_9, s_169_10, s_169_11, s_169_14, s_169_15, s_169_16, s_169_19, s_169_20, s_169_21, s_169_24, s_169_27, s_169_28, s_169_31, s_169_32, s_169_33, s_169_34, s_169_37, s_169_38, s_169_39, s_169_42, s_169_43, s_169_44, s_169_47, s_169_48, s_169_49, s_169_52, s_169_55, s_169_56, s_169_57, s_169_59, s_169_60, s_169_61, kd_0, kd_1, kd_2, kd_3, kd_4, kd_5, kd_6, kd_7, kd_8, kd_9, kd_10, kd_11, kd_12, kd_13, kd_14, kd_15, kd_16, kd_17, kd_18, kd_19, kd_20, kd_21, kd_22, kd_23, kd_24, kd_25, kd_26, kd_27, kd_28, kd_29, kd_30, kd_31, kd_32, kd_33, kd_34, kd_35, kd_36, kd_37, kd_38, kd_39, kd_40, kd_41, kd_42, kd_43, kd_44, kd_45, kd_46, kd_47, kd_48, kd_49, kd_50, kd_51, kd_52, kd_53, kd_54, kd_55, kd_56, kd_57, kd_58, kd_59, kd_60, kd_61, kd_62, kd_63, kd_64, kd_65, kd_66, v_0, v_1, v_2, v_3, v_4, v_5, v_7_0, v_7_1, v_9, v_10, v_11, v_12, v_13, v_14, v_15, v_16, v_17, v_20_0, v_20_1, v_20_2, v_22, v_23_0, v_23_1, v_23_2, v_23_3, v_24_0, v_26_0, v_26_1, v_28_0, v_28_1, v_28_2, v_28_3, v_28_4, v_28_5, v_28_6, v_29, v_36, v_37, v_38, v_39, v_40, v_41, v_42, v_43, v_44, v_45, v_46, v_47, v_48, v_49, v_50, v_51, v_52, v_53, v_54, v_55, v_56, v_57, v_58, v_59, v_60, v_61, v_62, v_63, v_64_0, v_64_1, v_64_2, v_65_0, v_65_1, v_65_2, v_65_3, v_65_4, v_65_5, v_65_6, v_65_7, v_65_8, v_65_14, v_65_37, v_26_2, v_26_3, v_28_7, v_28_8, v_28_9, v_28_10, v_7_2, v_7_3, v_7_4, v_20_3, v_20_4, v_20_5, v_24_1, v_24_2, v_24_3, v_24_4, v_23_4, v_23_5, v_8_0, v_21_0, v_64_3, v_64_4, v_64_5, v_64_6, v_64_7, v_65_9, v_65_10, v_65_11, v_65_12, v_65_13, v_65_15, v_65_16, v_65_17, v_65_18, v_65_19, v_65_20, v_65_21, v_65_22, v_65_23, v_65_24, v_65_25, v_65_26, v_65_27, v_65_28, v_65_29, v_65_30, v_65_31, v_65_32, v_65_33, v_65_34, v_65_35, v_65_36, v_65_38, v_6, v_18, v_19, v_25, v_27, v_66, n_0, n_25, n_1, n_2, n_3, n_4, n_5, n_6, n_9, n_10, n_11, n_12, n_13, n_14, n_15, n_16, n_17, n_18, n_19, n_22, n_27, n_29, n_66, n_36, n_37, n_38, n_39, n_40, n_41, n_42, n_43, n_44, n_45, n_46, n_47, n_48, n_49, n_50, n_51, n_52, n_53, n_54, n_55, n_56, n_57, n_58, n_59, n_60, n_61, n_62, n_63, mi_0, mi_1, mi_2, mi_3, mi_4, mi_5, mi_7_0, mi_7_1, mi_9, mi_10, mi_11, mi_12, mi_13, mi_14, mi_15, mi_16, mi_17, mi_20_0, mi_20_1, mi_20_2, mi_22, mi_23_0, mi_23_1, mi_23_2, mi_23_3, mi_24_0, mi_26_0, mi_26_1, mi_28_0, mi_28_1, mi_28_2, mi_28_3, mi_28_4, mi_28_5, mi_28_6, mi_29, mi_36, mi_37, mi_38, mi_39, mi_40, mi_41, mi_42, mi_43, mi_44, mi_45, mi_46, mi_47, mi_48, mi_49, mi_50, mi_51, mi_52, mi_53, mi_54, mi_55, mi_56, mi_57, mi_58, mi_59, mi_60, mi_61, mi_62, mi_63, mi_64_0, mi_64_1, mi_64_2, mi_65_0, mi_65_1, mi_65_2, mi_65_3, mi_65_4, mi_65_5, mi_65_6, mi_65_7, mi_65_8, mi_65_14, mi_65_37, mm_out, wt_0, wt_1, wt_2, wt_3, isI_1, isL_1, isZ_1, av_bind_ret, av_bind_thr, Option.toList_some, Option.toList_none, List.cons_append, List.nil_append, ↓reduceIte, Nat.reduceAdd, Nat.reduceLeDiff, Nat.reduceLT, Nat.reduceEqDiff, and_self, true_and, and_true, or_true, true_or, or_false, false_or, eq_self, not_true_eq_false, not_false_eq_true, w_0, w_1, w_2, w_3, w_4, w_5, w_7_0, w_7_1, w_9, w_10, w_11, w_12, w_13, w_14, w_15, w_16, w_17, w_20_0, w_20_1, w_20_2, w_22, w_23_0, w_23_1, w_23_2, w_23_3, w_24_0, w_26_0, w_26_1, w_28_0, w_28_1, w_28_2, w_28_3, w_28_4, w_28_5, w_28_6, w_29, w_36, w_37, w_38, w_39, w_40, w_41, w_42, w_43, w_44, w_45, w_46, w_47, w_48, w_49, w_50, w_51, w_52, w_53, w_54, w_55, w_56, w_57, w_58, w_59, w_60, w_61, w_62, w_63, w_64_0, w_64_1, w_64_2, w_65_0, w_65_1, w_65_2, w_65_3, w_65_4, w_65_5, w_65_6, w_65_7, w_65_8, w_65_14, w_65_37, cx_cnt, cx_val, cx_len, cx_wr, mk_1, mk_2, mk_3, mk_4, mk_5, mk_6, mk_9, mk_10, mk_11, mk_12, mk_13, mk_14, mk_15, mk_16, mk_17, mk_18, mk_19, mk_22, mk_27, mk_29, mk_36, mk_37, mk_38, mk_39, mk_40, mk_41, mk_42, mk_43, mk_44, mk_45, mk_46, mk_47, mk_48, mk_49, mk_50, mk_51, mk_52, mk_53, mk_54, mk_55, mk_56, mk_57, mk_58, mk_59, mk_60, mk_61, mk_62, mk_63, mk_66, mk_7, mk_8, mk_20, mk_21, mk_23, mk_24, mk_26, mk_28, mk_64, mk_65, td_1, td_2, td_3, td_4, td_6, td_10, td_18, td_24, td_40, td_60, td_61, td_70, td_80, td_160, td_480, od_1, od_2, od_3, od_4, od_6, od_10, od_18, od_24, od_40, od_60, od_61, od_70, od_80, od_160, od_480, ln_1, ln_2, ln_3, ln_4, ln_5, ln_6, ln_9, ln_10, ln_11, ln_12, ln_13, ln_14, ln_15, ln_16, ln_17, ln_18, ln_19, ln_22, ln_27, ln_29, ln_36, ln_37, ln_38, ln_39, ln_40, ln_41, ln_42, ln_43, ln_44, ln_45, ln_46, ln_47, ln_48, ln_49, ln_50, ln_51, ln_52, ln_53, ln_54, ln_55, ln_56, ln_57, ln_58, ln_59, ln_60, ln_61, ln_62, ln_63, ln_66, hu_s, hu_o, hn_s, hn_o, du_s, du_o, tu_s, tu_o, kA0, kA1, kA2, kA3, kB0, kB1, kB2, kB3, z64, a4, u65, g4, v66, z66, tq, fin]
  rfl
end M35
theorem goal2 : av_goal2 := by
  intro L xs hL
  obtain ⟨N, n1, n2, b0, d0⟩ := brg (cv L xs 0) 3 6 (by decide) (by decide)
  obtain ⟨w, w1, w2, b1, d1⟩ := brg (cv L xs 1) 1 (min N 4) (by omega) (by omega)
  obtain ⟨q, q1, q2, b2, d2⟩ := brg (cv L xs 2) 1 w (by omega) (by omega)
  obtain ⟨a, a1, a2, b3, d3⟩ := brg (cv L xs 3) 1 q (by omega) (by omega)
  obtain ⟨c, s, hc, hs, e1⟩ := start N L w q a xs hL n1 n2 b0 b1 b2 b3 d0 d1 d2 d3 0 0
  obtain ⟨c', s', x', o', g', e2, f1, f2⟩ := law_l (N := N) (w := w) (q := q) (a := a) L ⟨n1, n2, w1, by omega, by omega, q1, q2, a1, a2⟩ hL 512 0 0 0 0 4 (g0 N w q a xs) c s (fun _ => 0) 0 none none (by omega) (by omega) (by omega) (by omega) (by omega) (by omega) (Rel_g0 N w q a xs)
  refine ⟨cm N L 0 0 (fun f => if f = 0 then 1 else 0) (hH N w q a xs), mm N L c' s' x' o' g', ⟨rfl, fun _ => rfl, rfl, fun _ => rfl⟩, e1.trans e2, ?_, ?_⟩
  · show c' ≤ 601024
    omega
  · show s' ≤ 7293000
    omega
