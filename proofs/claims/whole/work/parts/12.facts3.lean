/-! facts of the methods and of the calls -/
def tl_sti : List (Nat × Nat) := [(0, 146), (0, 496), (0, 557), (0, 790), (0, 801), (0, 812), (0, 170), (0, 313), (0, 450), (0, 454), (0, 501), (0, 509), (0, 521), (0, 588), (0, 177), (0, 459), (0, 662), (0, 667), (0, 682), (0, 709), (0, 714), (0, 741), (0, 752), (0, 50), (0, 488), (0, 636), (0, 118), (0, 651), (0, 41), (0, 780), (0, 86), (0, 330), (0, 463), (0, 468), (0, 757), (0, 24), (1, 30), (0, 271), (0, 275), (1, 279), (0, 282), (1, 286), (1, 289), (1, 292), (0, 295), (0, 300), (0, 304), (0, 318), (0, 322), (0, 326), (0, 338), (0, 350), (0, 355), (1, 358), (1, 431), (0, 476), (0, 481), (0, 485), (0, 493), (0, 506), (1, 514), (0, 518), (0, 529), (0, 534), (0, 554), (0, 562), (0, 569), (0, 576), (0, 581), (0, 585), (0, 593), (0, 597), (0, 605), (0, 610), (1, 613), (0, 633), (0, 643), (0, 648), (0, 658), (0, 674), (0, 679), (0, 689), (0, 697), (0, 702), (0, 706), (0, 719), (1, 722), (0, 748), (0, 763), (0, 769), (0, 776), (0, 787), (0, 797), (0, 808), (0, 820), (0, 826), (1, 830), (0, 952), (0, 956), (1, 960), (0, 964), (0, 968), (0, 971), (0, 976), (0, 980), (0, 984), (0, 988), (1, 991), (0, 995), (0, 998), (0, 1003), (0, 1007), (0, 1010), (0, 1015), (0, 1019), (0, 1023), (0, 1026), (0, 1031), (0, 1035), (0, 1039), (0, 1043), (0, 1046), (0, 1050), (1, 1054), (0, 1057), (0, 1062), (0, 1066), (0, 1069), (0, 1073), (0, 1077), (0, 1082), (0, 1086), (0, 1090), (0, 1093), (0, 1097), (0, 1101), (0, 1106), (0, 1110), (0, 1113), (0, 1117), (0, 1121), (0, 1125), (0, 1129), (0, 1133), (0, 1137), (0, 1141), (0, 1145), (0, 1149), (0, 1153), (1, 342), (1, 345), (1, 473), (1, 525), (1, 566), (1, 573), (1, 601), (1, 640), (1, 655), (1, 671), (1, 686), (1, 693), (1, 745), (1, 766), (1, 773), (1, 794), (1, 805), (1, 817), (1, 307), (1, 54)]
def tl_sel : List Nat := [99999, 545, 606, 839, 850, 861, 99999, 362, 499, 503, 550, 558, 570, 637, 99999, 508, 711, 716, 731, 758, 763, 790, 801, 99999, 537, 685, 99999, 700, 99999, 829, 99999, 379, 512, 517, 806, 99999, 99999, 320, 324, 99999, 331, 99999, 99999, 99999, 344, 0, 1, 367, 371, 375, 387, 399, 2, 99999, 99999, 525, 4, 5, 6, 7, 99999, 8, 578, 9, 10, 11, 618, 625, 12, 13, 14, 15, 654, 16, 99999, 17, 692, 18, 707, 723, 19, 738, 746, 20, 21, 22, 99999, 797, 23, 818, 825, 24, 846, 857, 869, 99999, 99999, 1001, 1005, 99999, 25, 26, 1020, 27, 28, 29, 30, 99999, 31, 1047, 32, 33, 1059, 34, 35, 36, 1075, 37, 38, 39, 40, 1095, 1099, 99999, 1106, 41, 42, 1118, 1122, 1126, 43, 44, 45, 1142, 1146, 1150, 46, 47, 1162, 1166, 1170, 1174, 1178, 1182, 1186, 1190, 1194, 1198, 1202, 99999, 99999, 99999, 99999, 99999, 99999, 99999, 99999, 99999, 99999, 99999, 99999, 99999, 99999, 99999, 99999, 99999, 99999, 99999, 99999]
def tl_nmz (z : Nat) : MethodName := if z = 1000 then objectInit else if z = 1001 then Lib.Math.max.name else if z = 1002 then Lib.Math.min.name else tl_name z
def tl_wk1 : Cond → Option (String × String × String)
  | .code x _ _ _ => some (x.cls, x.name, x.desc)
  | .codeWith x _ _ _ _ => some (x.cls, x.name, x.desc)
  | _ => none
def tl_wk2 : Cond → Option (Nat × Option FieldType)
  | .code _ _ m r => some (m, r)
  | .codeWith _ _ m r _ => some (m, r)
  | _ => none
def tl_wk3 : Cond → List (Nat × Nat × Nat × Nat)
  | .code _ _ _ _ => []
  | .codeWith _ _ _ _ h => h
  | _ => []
def tl_word (z : Nat) : Cond := (tables_1[tl_cods.getD z 0]?).getD .tt
set_option maxRecDepth 40000 in
theorem tl_wk1_ok : ∀ z, z < 169 → tl_wk1 (tl_word z) = some ((tl_name z).cls, (tl_name z).name, (tl_name z).desc) := by decide +kernel
set_option maxRecDepth 40000 in
theorem tl_wk2_ok : ∀ z, z < 169 → tl_wk2 (tl_word z) = some (tl_max z, tl_ret z) := by decide +kernel
set_option maxRecDepth 40000 in
theorem tl_wk3_ok : ∀ z, z < 169 → tl_wk3 (tl_word z) = (tl_hh z) := by decide +kernel
theorem tl_code_ok {z : Nat} (hz : z < 169) : (Cond.code (tl_name z) (tl_byt z) (tl_max z) (tl_ret z) ∈ lw_tbl ∧ tl_hh z = []) ∨ Cond.codeWith (tl_name z) (tl_byt z) (tl_max z) (tl_ret z) (tl_hh z) ∈ lw_tbl := by
  have g1 := tl_wk1_ok z hz
  have g2 := tl_wk2_ok z hz
  have g3 := tl_wk3_ok z hz
  have hb : tl_byt z = tl_wb (tl_word z) := if_neg (by omega)
  unfold tl_word at g1 g2 g3 hb
  cases hw : tables_1[tl_cods.getD z 0]? with
  | none => rw [hw] at g1; cases g1
  | some w =>
    rw [hw] at g1 g2 g3 hb
    dsimp only [Option.getD_some] at g1 g2 g3 hb
    cases w with
    | code x b m r =>
      obtain ⟨h1, h2, h3⟩ : x.cls = (tl_name z).cls ∧ x.name = (tl_name z).name ∧ x.desc = (tl_name z).desc := by simpa [tl_wk1] using g1
      obtain ⟨h4, h5⟩ : m = tl_max z ∧ r = tl_ret z := by simpa [tl_wk2] using g2
      have h6 : [] = tl_hh z := by simpa [tl_wk3] using g3
      have hx : x = tl_name z := by
        cases x
        cases hn : tl_name z
        rw [hn] at h1 h2 h3
        cases h1; cases h2; cases h3; rfl
      rw [hb, ← hx, ← h4, ← h5]
      exact Or.inl ⟨tl_at hw, h6.symm⟩
    | codeWith x b m r hh =>
      obtain ⟨h1, h2, h3⟩ : x.cls = (tl_name z).cls ∧ x.name = (tl_name z).name ∧ x.desc = (tl_name z).desc := by simpa [tl_wk1] using g1
      obtain ⟨h4, h5⟩ : m = tl_max z ∧ r = tl_ret z := by simpa [tl_wk2] using g2
      have h6 : hh = tl_hh z := by simpa [tl_wk3] using g3
      have hx : x = tl_name z := by
        cases x
        cases hn : tl_name z
        rw [hn] at h1 h2 h3
        cases h1; cases h2; cases h3; rfl
      rw [hb, ← hx, ← h4, ← h5, ← h6]
      exact Or.inr (tl_at hw)
    | _ => cases g1
set_option maxRecDepth 40000 in
theorem tl_sti_ok : ∀ z, z < 169 → tables_1[(tl_sti.getD z (0, 0)).2]? = some (if (tl_sti.getD z (0, 0)).1 = 1 then Cond.static (tl_name z) else Cond.instanceMethod (tl_name z)) := by decide +kernel
set_option maxRecDepth 40000 in
theorem tl_sel_ok : ∀ z, z < 169 → (tl_sti.getD z (0, 0)).1 = 0 → av_isInit z = false → lw_tbl[tl_sel.getD z 0]? = some (Cond.selects (tl_cn.getD (tl_own z) "") (tl_name z) (tl_name z)) := by decide +kernel
set_option maxRecDepth 40000 in
theorem tl_nm_ok : ∀ z, z < 169 → (tl_name z).cls = tl_cn.getD (tl_own z) "" ∧ tl_own z < 17 ∧ plainName (tl_name z).cls = true ∧ ((tl_name z).cls ≠ "java/lang/invoke/MethodHandle" ∧ (tl_name z).cls ≠ "java/lang/invoke/VarHandle") := by decide +kernel
set_option maxRecDepth 40000 in
theorem tl_invs_ok : ∀ q ∈ tl_invs, tables_1[q.2.2.2.2.2]? = some (if q.2.2.2.2.1 = 0 then Cond.methodLink (tl_cn.getD q.1 "") q.2.1 (tl_nmz q.2.2.1) else Cond.methodLinkNest (tl_cn.getD q.1 "") q.2.1 (tl_nmz q.2.2.1) "TopicLedgers") := by decide +kernel
set_option maxRecDepth 40000 in
theorem tl_invs_n : ∀ q ∈ tl_invs, (parseMethodDescriptor (tl_nmz q.2.2.1).desc).map (fun d => d.parameters.length) = some q.2.2.2.1 := by decide +kernel
theorem tl_invq_ok {o idx z n : Nat} (h : tl_invq o idx = some (z, n)) : (Cond.methodLink (tl_cn.getD o "") idx (tl_nmz z) ∈ lw_tbl ∨ Cond.methodLinkNest (tl_cn.getD o "") idx (tl_nmz z) "TopicLedgers" ∈ lw_tbl) ∧ ∀ sig, parseMethodDescriptor (tl_nmz z).desc = some sig → n = sig.parameters.length := by
  unfold tl_invq at h
  cases hf : tl_invs.find? (fun q => q.1 == o && q.2.1 == idx) with
  | none => rw [hf] at h; cases h
  | some q =>
    rw [hf] at h
    have h2 : (q.2.2.1, q.2.2.2.1) = (z, n) := Option.some.inj h
    have h3 := List.find?_some hf
    simp only [Bool.and_eq_true, beq_iff_eq] at h3
    have h4 := tl_invs_ok q (List.mem_of_find?_eq_some hf)
    have h5 := tl_invs_n q (List.mem_of_find?_eq_some hf)
    cases h2
    rw [h3.1, h3.2] at h4
    refine ⟨?_, fun sig hs => ?_⟩
    · split at h4
      · exact Or.inl (tl_at h4)
      · exact Or.inr (tl_at h4)
    · rw [hs] at h5
      exact (Option.some.inj h5).symm
theorem tl_nmz_lt {z : Nat} (h : z < 169) : tl_nmz z = tl_name z := by unfold tl_nmz; rw [if_neg (by omega), if_neg (by omega), if_neg (by omega)]
theorem tl_lw {w : Cond} {i : Nat} (h : lw_tbl[i]? = some w) : w ∈ lw_tbl := List.mem_of_getElem? h
theorem tl_oi1 : Cond.instanceMethod objectInit ∈ lw_tbl := tl_at (i := 27) (by decide +kernel)
theorem tl_oi2 : Cond.code objectInit ⟨#[0xb1]⟩ 1 none ∈ lw_tbl := tl_at (i := 28) (by decide +kernel)
theorem tl_mmax1 : Cond.static Lib.Math.max.name ∈ lw_tbl := tl_at (i := 36) (by decide +kernel)
theorem tl_mmax2 : Cond.code Lib.Math.max.name Lib.Math.max.code 2 (some .int) ∈ lw_tbl := tl_at (i := 37) (by decide +kernel)
theorem tl_mmin1 : Cond.static Lib.Math.min.name ∈ lw_tbl := tl_at (i := 33) (by decide +kernel)
theorem tl_mmin2 : Cond.code Lib.Math.min.name Lib.Math.min.code 2 (some .int) ∈ lw_tbl := tl_at (i := 34) (by decide +kernel)
theorem tl_mini : Cond.initialized "java/lang/Math" ∈ lw_tbl := tl_at (i := 2) (by decide +kernel)
