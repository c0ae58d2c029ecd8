/-! the loop of the law -/
theorem an31 (v : Int32) : ∃ j, j < 32 ∧ v &&& 31 = nI j := by
  refine ⟨v.toBitVec.toNat % 32, Nat.mod_lt _ (by decide), ?_⟩
  apply Int32.toBitVec_inj.mp
  apply BitVec.eq_of_toNat_eq
  rw [Int32.toBitVec_and, BitVec.toNat_and, show (31 : Int32).toBitVec.toNat = 2 ^ 5 - 1 from rfl, Nat.and_two_pow_sub_one_eq_mod]
  show _ = (BitVec.ofNat 32 (v.toBitVec.toNat % 32)).toNat
  rw [BitVec.toNat_ofNat]
  omega
theorem L6 {L i : Nat} (hL : L ≤ 4000) (hi : i ≤ 4000) : (nI L - 6 < nI i) = (L < i + 6) := by
  have q1 : (nI L - 6).toInt = (L : Int) - 6 := by
    rw [Int32.toInt_sub, show (nI L).toInt = L from Int32.toInt_ofNat_of_lt (by omega), show (6 : Int32).toInt = 6 from rfl]
    apply Int.bmod_eq_of_le <;> omega
  have q2 : (nI i).toInt = i := Int32.toInt_ofNat_of_lt (by omega)
  rw [Int32.lt_iff_toInt_lt, q1, q2]
  exact propext ⟨fun h => by omega, fun h => by omega⟩
section O18
variable {N w q a V n z M : Nat} {g : mG} (L : Nat)
theorem one (hp : pr N w q a) (hb : nb V n z M) (r : Rel N w q a V n z M g) (i : Nat) (hi : i + 6 ≤ L) (hL : L ≤ 4000) : ∀ (c s : Nat) (x : Nat → Nat) (o : Int64) (l5 l6 : Option av_V), ∃ c2 s2 x2 o2 l5' l6' g2, c2 ≤ c + 1 ∧ s2 ≤ s + 6 ∧ nxt N w q a V g g2 ∧ av_run 169 80 [some (.inr (.inr (some (0, 0)))), some (.inr (.inr (some (64, 0)))), some (.inr (.inr (some (65, 0)))), some (.inr (.inr (some (66, 0)))), some (.inl (nI i)), l5, l6] [.inl (g 0 0 i &&& 31)] (mm N L c s x o g) = av_run 169 1600 [some (.inr (.inr (some (0, 0)))), some (.inr (.inr (some (64, 0)))), some (.inr (.inr (some (65, 0)))), some (.inr (.inr (some (66, 0)))), some (.inl (nI i)), l5', l6'] [] (mm N L c2 s2 x2 o2 g2) := by
  intro c s x o l5 l6
  obtain ⟨j, hj, e⟩ := an31 (g 0 0 i)
  rw [e]
  have hj2 : j = 0 ∨ j = 1 ∨ j = 2 ∨ j = 3 ∨ j = 4 ∨ j = 5 ∨ j = 6 ∨ j = 7 ∨ j = 8 ∨ j = 9 ∨ j = 10 ∨ j = 11 ∨ j = 12 ∨ j = 13 ∨ j = 14 ∨ j = 15 ∨ j = 16 ∨ j = 17 ∨ j = 18 ∨ j = 19 ∨ j = 20 ∨ j = 21 ∨ j = 22 ∨ j = 23 ∨ j = 24 ∨ 24 < j := by omega
  have b01 : ∀ v : Int32, (if v = 0 then (0 : Int32) else 1) = 0 ∨ (if v = 0 then (0 : Int32) else 1) = 1 := fun v => by split <;> simp
  rcases hj2 with rfl | rfl | rfl | rfl | rfl | rfl | rfl | rfl | rfl | rfl | rfl | rfl | rfl | rfl | rfl | rfl | rfl | rfl | rfl | rfl | rfl | rfl | rfl | rfl | rfl | hj2
  · rw [show nI 0 = (0 : Int32) from rfl, lsw_0]
    exact st_150 L i hi hL (op_51 L hb r (g 0 0 (i + 1))) c s x o l5 l6
  · rw [show nI 1 = (1 : Int32) from rfl, lsw_1]
    exact st_151 L i hi hL (op_55 L hp hb r (g 0 0 (i + 1)) (g 0 0 (i + 2))) c s x o l5 l6
  · rw [show nI 2 = (2 : Int32) from rfl, lsw_2]
    exact st_152 L i hi hL (op_62 L hp hb r (g 0 0 (i + 1)) (g 0 0 (i + 2))) c s x o l5 l6
  · rw [show nI 3 = (3 : Int32) from rfl, lsw_3]
    exact st_153 L i hi hL (op_66 L hp hb r (g 0 0 (i + 1))) c s x o l5 l6
  · rw [show nI 4 = (4 : Int32) from rfl, lsw_4]
    exact st_154 L i hi hL (op_67 L hp hb r (g 0 0 (i + 1))) c s x o l5 l6
  · rw [show nI 5 = (5 : Int32) from rfl, lsw_5]
    exact st_155 L i hi hL (op_72 L hp hb r (g 0 0 (i + 1)) (g 0 0 (i + 2))) c s x o l5 l6
  · rw [show nI 6 = (6 : Int32) from rfl, lsw_6]
    exact st_156 L i hi hL (op_76 L hp hb r (g 0 0 (i + 1)) (g 0 0 (i + 2)) (g 0 0 (i + 3)) (g 0 0 (i + 4))) c s x o l5 l6
  · rw [show nI 7 = (7 : Int32) from rfl, lsw_7]
    exact st_157 L i hi hL (op_78 L hb r (g 0 0 (i + 1)) (g 0 0 (i + 2)) (g 0 0 (i + 3))) c s x o l5 l6
  · rw [show nI 8 = (8 : Int32) from rfl, lsw_8]
    exact st_158 L i hi hL (op_79 L hb r (g 0 0 (i + 1)) (g 0 0 (i + 2)) (g 0 0 (i + 3))) c s x o l5 l6
  · rw [show nI 9 = (9 : Int32) from rfl, lsw_9]
    exact st_159 L i hi hL (op_81 L hb r (g 0 0 (i + 1)) (g 0 0 (i + 2)) (g 0 0 (i + 3)) (g 0 0 (i + 4))) c s x o l5 l6
  · rw [show nI 10 = (10 : Int32) from rfl, lsw_10]
    exact st_160 L i hi hL (op_82 L hp hb r (g 0 0 (i + 1)) (g 0 0 (i + 2))) c s x o l5 l6
  · rw [show nI 11 = (11 : Int32) from rfl, lsw_11]
    exact st_161 L i hi hL (op_87 L hb r (g 0 0 (i + 1)) (g 0 0 (i + 2)) (g 0 0 (i + 3)) (g 0 0 (i + 4)) _) c s x o l5 l6
  · rw [show nI 12 = (12 : Int32) from rfl, lsw_12]
    exact st_162 L i hi hL (op_89 L hb r (g 0 0 (i + 1))) c s x o l5 l6
  · rw [show nI 13 = (13 : Int32) from rfl, lsw_13]
    exact st_163 L i hi hL (op_90 L hp hb r (g 0 0 (i + 1))) c s x o l5 l6
  · rw [show nI 14 = (14 : Int32) from rfl, lsw_14]
    exact st_164 L i hi hL (op_92 L hp hb r (g 0 0 (i + 1)) _ (b01 _)) c s x o l5 l6
  · rw [show nI 15 = (15 : Int32) from rfl, lsw_15]
    exact st_165 L i hi hL (op_93 L hp hb r (g 0 0 (i + 1))) c s x o l5 l6
  · rw [show nI 16 = (16 : Int32) from rfl, lsw_16]
    exact st_166 L i hi hL (op_94 L hb r (g 0 0 (i + 1)) _ (b01 _)) c s x o l5 l6
  · rw [show nI 17 = (17 : Int32) from rfl, lsw_17]
    exact st_o17 L i hi hL (o_37 L hb r (g 0 0 (i + 1))) c s x o l5 l6
  · rw [show nI 18 = (18 : Int32) from rfl, lsw_18]
    exact st_o18 L i hi hL (o_38 L hp hb r (g 0 0 (i + 1)) (g 0 0 (i + 2))) c s x o l5 l6
  · rw [show nI 19 = (19 : Int32) from rfl, lsw_19]
    exact st_o19 L i hi hL (o_40 L hp hb r (g 0 0 (i + 1)) (g 0 0 (i + 2))) c s x o l5 l6
  · rw [show nI 20 = (20 : Int32) from rfl, lsw_20]
    exact st_o20 L i hi hL (o_44 L hp hb r (g 0 0 (i + 1)) (g 0 0 (i + 2))) c s x o l5 l6
  · rw [show nI 21 = (21 : Int32) from rfl, lsw_21]
    exact st_o21 L i hi hL (o_47 L hb r (g 0 0 (i + 1)) (g 0 0 (i + 2))) c s x o l5 l6
  · rw [show nI 22 = (22 : Int32) from rfl, lsw_22]
    exact st_o22 L i hi hL (o_48 L hb r (g 0 0 (i + 1))) c s x o l5 l6
  · rw [show nI 23 = (23 : Int32) from rfl, lsw_23]
    exact st_o23 L i hi hL (o_49 L hb r (g 0 0 (i + 1)) (g 0 0 (i + 2)) (g 0 0 (i + 3))) c s x o l5 l6
  · rw [show nI 24 = (24 : Int32) from rfl, lsw_24]
    exact st_o24 L i hi hL (o_50 L hp hb r (g 0 0 (i + 1)) (g 0 0 (i + 2))) c s x o l5 l6
  · refine ⟨c, s, x, o, l5, l6, g, by omega, by omega, nxt_k hb r (fun _ => rfl), ?_⟩
    exact lsw_d _ _ _ _ (Or.inr (by rw [show (nI j).toInt = j from Int32.toInt_ofNat_of_lt (by omega)]; omega))
theorem law_l (hp : pr N w q a) (hL : L ≤ 3076) : ∀ (k V n z M i : Nat) (g : mG) (c s : Nat) (x : Nat → Nat) (o : Int64) (l5 l6 : Option av_V), L < i + 6 * k + 6 → i ≤ 4000 → V + k ≤ 600 → n ≤ 10 → z ≤ n → M ≤ 60 → Rel N w q a V n z M g → ∃ c' s' x' o' g', av_run 169 63 [some (.inr (.inr (some (0, 0)))), some (.inr (.inr (some (64, 0)))), some (.inr (.inr (some (65, 0)))), some (.inr (.inr (some (66, 0)))), some (.inl (nI i)), l5, l6] [] (mm N L c s x o g) = some (.inl (some (.inl 1)), mm N L c' s' x' o' g') ∧ c' ≤ c + k ∧ s' ≤ s + 6 * k := by
  intro k
  induction k with
  | zero =>
    intro V n z M i g c s x o l5 l6 h1 h2 h3 h4 h5 h6 r
    have e1 : (nI L - 6 < nI i) = True := (L6 (by omega) h2).trans (eq_true (by omega))
    refine ⟨c, s, x, o, g, ?_, by omega, by omega⟩
    rw [s_169_63]
    simp only [s_169_65, s_169_66, s_169_67, s_169_69, s_169_70, s_169_73, s_169_74, s_169_76, s_169_77, s_169_79, s_169_1600, s_169_1603, s_169_1606, s_169_1607, kd_0, kd_1, kd_2, kd_3, kd_4, kd_5, kd_6, kd_7, kd_8, kd_9, kd_10, kd_11, kd_12, kd_13, kd_14, kd_15, kd_16, kd_17, kd_18, kd_19, kd_20, kd_21, kd_22, kd_23, kd_24, kd_25, kd_26, kd_27, kd_28, kd_29, kd_30, kd_31, kd_32, kd_33, kd_34, kd_35, kd_36, kd_37, kd_38, kd_39, kd_40, kd_41, kd_42, kd_43, kd_44, kd_45, kd_46, kd_47, kd_48, kd_49, kd_50, kd_51, kd_52, kd_53, kd_54, kd_55, kd_56, kd_57, kd_58, kd_59, kd_60, kd_61, kd_62, kd_63, kd_64, kd_65, kd_66, v_0, v_1, v_2, v_3, v_4, v_5, v_7_0, v_7_1, v_9, v_10, v_11, v_12, v_13, v_14, v_15, v_16, v_17, v_20_0, v_20_1, v_20_2, v_22, v_23_0, v_23_1, v_23_2, v_23_3, v_24_0, v_26_0, v_26_1, v_28_0, v_28_1, v_28_2, v_28_3, v_28_4, v_28_5, v_28_6, v_29, v_36, v_37, v_38, v_39, v_40, v_41, v_42, v_43, v_44, v_45, v_46, v_47, v_48, v_49, v_50, v_51, v_52, v_53, v_54, v_55, v_56, v_57, v_58, v_59, v_60, v_61, v_62, v_63, v_64_0, v_64_1, v_64_2, v_65_0, v_65_1, v_65_2, v_65_3, v_65_4, v_65_5, v_65_6, v_65_7, v_65_8, v_65_14, v_65_37, v_26_2, v_26_3, v_28_7, v_28_8, v_28_9, v_28_10, v_7_2, v_7_3, v_7_4, v_20_3, v_20_4, v_20_5, v_24_1, v_24_2, v_24_3, v_24_4, v_23_4, v_23_5, v_8_0, v_21_0, v_64_3, v_64_4, v_64_5, v_64_6, v_64_7, v_65_9, v_65_10, v_65_11, v_65_12, v_65_13, v_65_15, v_65_16, v_65_17, v_65_18, v_65_19, v_65_20, v_65_21, v_65_22, v_65_23, v_65_24, v_65_25, v_65_26, v_65_27, v_65_28, v_65_29, v_65_30, v_65_31, v_65_32, v_65_33, v_65_34, v_65_35, v_65_36, v_65_38, v_6, v_18, v_19, v_25, v_27, v_66, n_0, n_25, n_1, n_2, n_3, n_4, n_5, n_6, n_9, n_10, n_11, n_12, n_13, n_14, n_15, n_16, n_17, n_18, n_19, n_22, n_27, n_29, n_66, n_36, n_37, n_38, n_39, n_40, n_41, n_42, n_43, n_44, n_45, n_46, n_47, n_48, n_49, n_50, n_51, n_52, n_53, n_54, n_55, n_56, n_57, n_58, n_59, n_60, n_61, n_62, n_63, mi_0, mi_1, mi_2, mi_3, mi_4, mi_5, mi_7_0, mi_7_1, mi_9, mi_10, mi_11, mi_12, mi_13, mi_14, mi_15, mi_16, mi_17, mi_20_0, mi_20_1, mi_20_2, mi_22, mi_23_0, mi_23_1, mi_23_2, mi_23_3, mi_24_0, mi_26_0, mi_26_1, mi_28_0, mi_28_1, mi_28_2, mi_28_3, mi_28_4, mi_28_5, mi_28_6, mi_29, mi_36, mi_37, mi_38, mi_39, mi_40, mi_41, mi_42, mi_43, mi_44, mi_45, mi_46, mi_47, mi_48, mi_49, mi_50, mi_51, mi_52, mi_53, mi_54, mi_55, mi_56, mi_57, mi_58, mi_59, mi_60, mi_61, mi_62, mi_63, mi_64_0, mi_64_1, mi_64_2, mi_65_0, mi_65_1, mi_65_2, mi_65_3, mi_65_4, mi_65_5, mi_65_6, mi_65_7, mi_65_8, mi_65_14, mi_65_37, mm_out, wt_0, wt_1, wt_2, wt_3, isI_1, isL_1, isZ_1, av_bind_ret, av_bind_thr, Option.toList_some, Option.toList_none, List.cons_append, List.nil_append, ↓reduceIte, Nat.reduceAdd, Nat.reduceLeDiff, Nat.reduceLT, Nat.reduceEqDiff, and_self, true_and, and_true, or_true, true_or, or_false, false_or, eq_self, not_true_eq_false, not_false_eq_true, w_0, w_1, w_2, w_3, w_4, w_5, w_7_0, w_7_1, w_9, w_10, w_11, w_12, w_13, w_14, w_15, w_16, w_17, w_20_0, w_20_1, w_20_2, w_22, w_23_0, w_23_1, w_23_2, w_23_3, w_24_0, w_26_0, w_26_1, w_28_0, w_28_1, w_28_2, w_28_3, w_28_4, w_28_5, w_28_6, w_29, w_36, w_37, w_38, w_39, w_40, w_41, w_42, w_43, w_44, w_45, w_46, w_47, w_48, w_49, w_50, w_51, w_52, w_53, w_54, w_55, w_56, w_57, w_58, w_59, w_60, w_61, w_62, w_63, w_64_0, w_64_1, w_64_2, w_65_0, w_65_1, w_65_2, w_65_3, w_65_4, w_65_5, w_65_6, w_65_7, w_65_8, w_65_14, w_65_37, e1]
  | succ k ih =>
    intro V n z M i g c s x o l5 l6 h1 h2 h3 h4 h5 h6 r
    by_cases u : L < i + 6
    · have e1 : (nI L - 6 < nI i) = True := (L6 (by omega) h2).trans (eq_true u)
      refine ⟨c, s, x, o, g, ?_, by omega, by omega⟩
      rw [s_169_63]
      simp only [s_169_65, s_169_66, s_169_67, s_169_69, s_169_70, s_169_73, s_169_74, s_169_76, s_169_77, s_169_79, s_169_1600, s_169_1603, s_169_1606, s_169_1607, kd_0, kd_1, kd_2, kd_3, kd_4, kd_5, kd_6, kd_7, kd_8, kd_9, kd_10, kd_11, kd_12, kd_13, kd_14, kd_15, kd_16, kd_17, kd_18, kd_19, kd_20, kd_21, kd_22, kd_23, kd_24, kd_25, kd_26, kd_27, kd_28, kd_29, kd_30, kd_31, kd_32, kd_33, kd_34, kd_35, kd_36, kd_37, kd_38, kd_39, kd_40, kd_41, kd_42, kd_43, kd_44, kd_45, kd_46, kd_47, kd_48, kd_49, kd_50, kd_51, kd_52, kd_53, kd_54, kd_55, kd_56, kd_57, kd_58, kd_59, kd_60, kd_61, kd_62, kd_63, kd_64, kd_65, kd_66, v_0, v_1, v_2, v_3, v_4, v_5, v_7_0, v_7_1, v_9, v_10, v_11, v_12, v_13, v_14, v_15, v_16, v_17, v_20_0, v_20_1, v_20_2, v_22, v_23_0, v_23_1, v_23_2, v_23_3, v_24_0, v_26_0, v_26_1, v_28_0, v_28_1, v_28_2, v_28_3, v_28_4, v_28_5, v_28_6, v_29, v_36, v_37, v_38, v_39, v_40, v_41, v_42, v_43, v_44, v_45, v_46, v_47, v_48, v_49, v_50, v_51, v_52, v_53, v_54, v_55, v_56, v_57, v_58, v_59, v_60, v_61, v_62, v_63, v_64_0, v_64_1, v_64_2, v_65_0, v_65_1, v_65_2, v_65_3, v_65_4, v_65_5, v_65_6, v_65_7, v_65_8, v_65_14, v_65_37, v_26_2, v_26_3, v_28_7, v_28_8, v_28_9, v_28_10, v_7_2, v_7_3, v_7_4, v_20_3, v_20_4, v_20_5, v_24_1, v_24_2, v_24_3, v_24_4, v_23_4, v_23_5, v_8_0, v_21_0, v_64_3, v_64_4, v_64_5, v_64_6, v_64_7, v_65_9, v_65_10, v_65_11, v_65_12, v_65_13, v_65_15, v_65_16, v_65_17, v_65_18, v_65_19, v_65_20, v_65_21, v_65_22, v_65_23, v_65_24, v_65_25, v_65_26, v_65_27, v_65_28, v_65_29, v_65_30, v_65_31, v_65_32, v_65_33, v_65_34, v_65_35, v_65_36, v_65_38, v_6, v_18, v_19, v_25, v_27, v_66, n_0, n_25, n_1, n_2, n_3, n_4, n_5, n_6, n_9, n_10, n_11, n_12, n_13, n_14, n_15, n_16, n_17, n_18, n_19, n_22, n_27, n_29, n_66, n_36, n_37, n_38, n_39, n_40, n_41, n_42, n_43, n_44, n_45, n_46, n_47, n_48, n_49, n_50, n_51, n_52, n_53, n_54, n_55, n_56, n_57, n_58, n_59, n_60, n_61, n_62, n_63, mi_0, mi_1, mi_2, mi_3, mi_4, mi_5, mi_7_0, mi_7_1, mi_9, mi_10, mi_11, mi_12, mi_13, mi_14, mi_15, mi_16, mi_17, mi_20_0, mi_20_1, mi_20_2, mi_22, mi_23_0, mi_23_1, mi_23_2, mi_23_3, mi_24_0, mi_26_0, mi_26_1, mi_28_0, mi_28_1, mi_28_2, mi_28_3, mi_28_4, mi_28_5, mi_28_6, mi_29, mi_36, mi_37, mi_38, mi_39, mi_40, mi_41, mi_42, mi_43, mi_44, mi_45, mi_46, mi_47, mi_48, mi_49, mi_50, mi_51, mi_52, mi_53, mi_54, mi_55, mi_56, mi_57, mi_58, mi_59, mi_60, mi_61, mi_62, mi_63, mi_64_0, mi_64_1, mi_64_2, mi_65_0, mi_65_1, mi_65_2, mi_65_3, mi_65_4, mi_65_5, mi_65_6, mi_65_7, mi_65_8, mi_65_14, mi_65_37, mm_out, wt_0, wt_1, wt_2, wt_3, isI_1, isL_1, isZ_1, av_bind_ret, av_bind_thr, Option.toList_some, Option.toList_none, List.cons_append, List.nil_append, ↓reduceIte, Nat.reduceAdd, Nat.reduceLeDiff, Nat.reduceLT, Nat.reduceEqDiff, and_self, true_and, and_true, or_true, true_or, or_false, false_or, eq_self, not_true_eq_false, not_false_eq_true, w_0, w_1, w_2, w_3, w_4, w_5, w_7_0, w_7_1, w_9, w_10, w_11, w_12, w_13, w_14, w_15, w_16, w_17, w_20_0, w_20_1, w_20_2, w_22, w_23_0, w_23_1, w_23_2, w_23_3, w_24_0, w_26_0, w_26_1, w_28_0, w_28_1, w_28_2, w_28_3, w_28_4, w_28_5, w_28_6, w_29, w_36, w_37, w_38, w_39, w_40, w_41, w_42, w_43, w_44, w_45, w_46, w_47, w_48, w_49, w_50, w_51, w_52, w_53, w_54, w_55, w_56, w_57, w_58, w_59, w_60, w_61, w_62, w_63, w_64_0, w_64_1, w_64_2, w_65_0, w_65_1, w_65_2, w_65_3, w_65_4, w_65_5, w_65_6, w_65_7, w_65_8, w_65_14, w_65_37, e1]
    · have e1 : (nI L - 6 < nI i) = False := (L6 (by omega) h2).trans (eq_false u)
      have e2 : av_outD (nI i) L = false := ix (by omega) (by omega)
      have e3 : (nI i).toNatClampNeg = i := tn (by omega)
      obtain ⟨c2, s2, x2, o2, l5', l6', g2, b1, b2, ⟨⟨V', n', z', M', d1, d2, d3, d4, d5⟩, d6⟩, b4⟩ := one L hp ⟨by omega, h4, h5, h6⟩ r i (by omega) (by omega) c s x o l5 l6
      obtain ⟨c3, s3, x3, o3, g3, f1, f2, f3⟩ := ih V' n' z' M' (i + 6) g2 c2 s2 x2 o2 l5' l6' (by omega) (by omega) (by omega) d2 d3 d4 d5
      refine ⟨c3, s3, x3, o3, g3, ?_, by omega, by omega⟩
      rw [s_169_63]
      simp only [s_169_65, s_169_66, s_169_67, s_169_69, s_169_70, s_169_73, s_169_74, s_169_76, s_169_77, s_169_79, kd_0, kd_1, kd_2, kd_3, kd_4, kd_5, kd_6, kd_7, kd_8, kd_9, kd_10, kd_11, kd_12, kd_13, kd_14, kd_15, kd_16, kd_17, kd_18, kd_19, kd_20, kd_21, kd_22, kd_23, kd_24, kd_25, kd_26, kd_27, kd_28, kd_29, kd_30, kd_31, kd_32, kd_33, kd_34, kd_35, kd_36, kd_37, kd_38, kd_39, kd_40, kd_41, kd_42, kd_43, kd_44, kd_45, kd_46, kd_47, kd_48, kd_49, kd_50, kd_51, kd_52, kd_53, kd_54, kd_55, kd_56, kd_57, kd_58, kd_59, kd_60, kd_61, kd_62, kd_63, kd_64, kd_65, kd_66, v_0, v_1, v_2, v_3, v_4, v_5, v_7_0, v_7_1, v_9, v_10, v_11, v_12, v_13, v_14, v_15, v_16, v_17, v_20_0, v_20_1, v_20_2, v_22, v_23_0, v_23_1, v_23_2, v_23_3, v_24_0, v_26_0, v_26_1, v_28_0, v_28_1, v_28_2, v_28_3, v_28_4, v_28_5, v_28_6, v_29, v_36, v_37, v_38, v_39, v_40, v_41, v_42, v_43, v_44, v_45, v_46, v_47, v_48, v_49, v_50, v_51, v_52, v_53, v_54, v_55, v_56, v_57, v_58, v_59, v_60, v_61, v_62, v_63, v_64_0, v_64_1, v_64_2, v_65_0, v_65_1, v_65_2, v_65_3, v_65_4, v_65_5, v_65_6, v_65_7, v_65_8, v_65_14, v_65_37, v_26_2, v_26_3, v_28_7, v_28_8, v_28_9, v_28_10, v_7_2, v_7_3, v_7_4, v_20_3, v_20_4, v_20_5, v_24_1, v_24_2, v_24_3, v_24_4, v_23_4, v_23_5, v_8_0, v_21_0, v_64_3, v_64_4, v_64_5, v_64_6, v_64_7, v_65_9, v_65_10, v_65_11, v_65_12, v_65_13, v_65_15, v_65_16, v_65_17, v_65_18, v_65_19, v_65_20, v_65_21, v_65_22, v_65_23, v_65_24, v_65_25, v_65_26, v_65_27, v_65_28, v_65_29, v_65_30, v_65_31, v_65_32, v_65_33, v_65_34, v_65_35, v_65_36, v_65_38, v_6, v_18, v_19, v_25, v_27, v_66, n_0, n_25, n_1, n_2, n_3, n_4, n_5, n_6, n_9, n_10, n_11, n_12, n_13, n_14, n_15, n_16, n_17, n_18, n_19, n_22, n_27, n_29, n_66, n_36, n_37, n_38, n_39, n_40, n_41, n_42, n_43, n_44, n_45, n_46, n_47, n_48, n_49, n_50, n_51, n_52, n_53, n_54, n_55, n_56, n_57, n_58, n_59, n_60, n_61, n_62, n_63, mi_0, mi_1, mi_2, mi_3, mi_4, mi_5, mi_7_0, mi_7_1, mi_9, mi_10, mi_11, mi_12, mi_13, mi_14, mi_15, mi_16, mi_17, mi_20_0, mi_20_1, mi_20_2, mi_22, mi_23_0, mi_23_1, mi_23_2, mi_23_3, mi_24_0, mi_26_0, mi_26_1, mi_28_0, mi_28_1, mi_28_2, mi_28_3, mi_28_4, mi_28_5, mi_28_6, mi_29, mi_36, mi_37, mi_38, mi_39, mi_40, mi_41, mi_42, mi_43, mi_44, mi_45, mi_46, mi_47, mi_48, mi_49, mi_50, mi_51, mi_52, mi_53, mi_54, mi_55, mi_56, mi_57, mi_58, mi_59, mi_60, mi_61, mi_62, mi_63, mi_64_0, mi_64_1, mi_64_2, mi_65_0, mi_65_1, mi_65_2, mi_65_3, mi_65_4, mi_65_5, mi_65_6, mi_65_7, mi_65_8, mi_65_14, mi_65_37, mm_out, wt_0, wt_1, wt_2, wt_3, isI_1, isL_1, isZ_1, av_bind_ret, av_bind_thr, Option.toList_some, Option.toList_none, List.cons_append, List.nil_append, ↓reduceIte, Nat.reduceAdd, Nat.reduceLeDiff, Nat.reduceLT, Nat.reduceEqDiff, and_self, true_and, and_true, or_true, true_or, or_false, false_or, eq_self, not_true_eq_false, not_false_eq_true, w_0, w_1, w_2, w_3, w_4, w_5, w_7_0, w_7_1, w_9, w_10, w_11, w_12, w_13, w_14, w_15, w_16, w_17, w_20_0, w_20_1, w_20_2, w_22, w_23_0, w_23_1, w_23_2, w_23_3, w_24_0, w_26_0, w_26_1, w_28_0, w_28_1, w_28_2, w_28_3, w_28_4, w_28_5, w_28_6, w_29, w_36, w_37, w_38, w_39, w_40, w_41, w_42, w_43, w_44, w_45, w_46, w_47, w_48, w_49, w_50, w_51, w_52, w_53, w_54, w_55, w_56, w_57, w_58, w_59, w_60, w_61, w_62, w_63, w_64_0, w_64_1, w_64_2, w_65_0, w_65_1, w_65_2, w_65_3, w_65_4, w_65_5, w_65_6, w_65_7, w_65_8, w_65_14, w_65_37, e1, e2, e3]
      refine b4.trans (Eq.trans ?_ f1)
      simp only [s_169_1600, s_169_1603, show nI i + 6 = nI (i + 6) from iI_add i 6]
end O18
