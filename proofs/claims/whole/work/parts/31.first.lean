/-! the first methods, run -/
section WR
variable (N L c s : Nat) (x : Nat → Nat) (o : Int64) (g : mG)
theorem w_0 (i k : Nat) (v : Int32) : av_wr (mm N L c s x o g) 0 i k (.inl v) = mm N L c s x o (gu g 0 i k v) := mm_wr N L c s x o g 0 i k v rfl
theorem w_1 (i k : Nat) (v : Int32) : av_wr (mm N L c s x o g) 1 i k (.inl v) = mm N L c s x o (gu g 1 i k v) := mm_wr N L c s x o g 1 i k v rfl
theorem w_2 (i k : Nat) (v : Int32) : av_wr (mm N L c s x o g) 2 i k (.inl v) = mm N L c s x o (gu g 2 i k v) := mm_wr N L c s x o g 2 i k v rfl
theorem w_3 (i k : Nat) (v : Int32) : av_wr (mm N L c s x o g) 3 i k (.inl v) = mm N L c s x o (gu g 3 i k v) := mm_wr N L c s x o g 3 i k v rfl
theorem w_4 (i k : Nat) (v : Int32) : av_wr (mm N L c s x o g) 4 i k (.inl v) = mm N L c s x o (gu g 4 i k v) := mm_wr N L c s x o g 4 i k v rfl
theorem w_5 (i k : Nat) (v : Int32) : av_wr (mm N L c s x o g) 5 i k (.inl v) = mm N L c s x o (gu g 5 i k v) := mm_wr N L c s x o g 5 i k v rfl
theorem w_7_0 (i : Nat) (v : Int32) : av_wr (mm N L c s x o g) 7 i 0 (.inl v) = mm N L c s x o (gu g 7 i 0 v) := mm_wr N L c s x o g 7 i 0 v rfl
theorem w_7_1 (i : Nat) (v : Int32) : av_wr (mm N L c s x o g) 7 i 1 (.inl v) = mm N L c s x o (gu g 7 i 1 v) := mm_wr N L c s x o g 7 i 1 v rfl
theorem w_9 (i k : Nat) (v : Int32) : av_wr (mm N L c s x o g) 9 i k (.inl v) = mm N L c s x o (gu g 9 i k v) := mm_wr N L c s x o g 9 i k v rfl
theorem w_10 (i k : Nat) (v : Int32) : av_wr (mm N L c s x o g) 10 i k (.inl v) = mm N L c s x o (gu g 10 i k v) := mm_wr N L c s x o g 10 i k v rfl
theorem w_11 (i k : Nat) (v : Int32) : av_wr (mm N L c s x o g) 11 i k (.inl v) = mm N L c s x o (gu g 11 i k v) := mm_wr N L c s x o g 11 i k v rfl
theorem w_12 (i k : Nat) (v : Int32) : av_wr (mm N L c s x o g) 12 i k (.inl v) = mm N L c s x o (gu g 12 i k v) := mm_wr N L c s x o g 12 i k v rfl
theorem w_13 (i k : Nat) (v : Int32) : av_wr (mm N L c s x o g) 13 i k (.inl v) = mm N L c s x o (gu g 13 i k v) := mm_wr N L c s x o g 13 i k v rfl
theorem w_14 (i k : Nat) (v : Int32) : av_wr (mm N L c s x o g) 14 i k (.inl v) = mm N L c s x o (gu g 14 i k v) := mm_wr N L c s x o g 14 i k v rfl
theorem w_15 (i k : Nat) (v : Int32) : av_wr (mm N L c s x o g) 15 i k (.inl v) = mm N L c s x o (gu g 15 i k v) := mm_wr N L c s x o g 15 i k v rfl
theorem w_16 (i k : Nat) (v : Int32) : av_wr (mm N L c s x o g) 16 i k (.inl v) = mm N L c s x o (gu g 16 i k v) := mm_wr N L c s x o g 16 i k v rfl
theorem w_17 (i k : Nat) (v : Int32) : av_wr (mm N L c s x o g) 17 i k (.inl v) = mm N L c s x o (gu g 17 i k v) := mm_wr N L c s x o g 17 i k v rfl
theorem w_20_0 (i : Nat) (v : Int32) : av_wr (mm N L c s x o g) 20 i 0 (.inl v) = mm N L c s x o (gu g 20 i 0 v) := mm_wr N L c s x o g 20 i 0 v rfl
theorem w_20_1 (i : Nat) (v : Int32) : av_wr (mm N L c s x o g) 20 i 1 (.inl v) = mm N L c s x o (gu g 20 i 1 v) := mm_wr N L c s x o g 20 i 1 v rfl
theorem w_20_2 (i : Nat) (v : Int32) : av_wr (mm N L c s x o g) 20 i 2 (.inl v) = mm N L c s x o (gu g 20 i 2 v) := mm_wr N L c s x o g 20 i 2 v rfl
theorem w_22 (i k : Nat) (v : Int32) : av_wr (mm N L c s x o g) 22 i k (.inl v) = mm N L c s x o (gu g 22 i k v) := mm_wr N L c s x o g 22 i k v rfl
theorem w_23_0 (i : Nat) (v : Int32) : av_wr (mm N L c s x o g) 23 i 0 (.inl v) = mm N L c s x o (gu g 23 i 0 v) := mm_wr N L c s x o g 23 i 0 v rfl
theorem w_23_1 (i : Nat) (v : Int32) : av_wr (mm N L c s x o g) 23 i 1 (.inl v) = mm N L c s x o (gu g 23 i 1 v) := mm_wr N L c s x o g 23 i 1 v rfl
theorem w_23_2 (i : Nat) (v : Int32) : av_wr (mm N L c s x o g) 23 i 2 (.inl v) = mm N L c s x o (gu g 23 i 2 v) := mm_wr N L c s x o g 23 i 2 v rfl
theorem w_23_3 (i : Nat) (v : Int32) : av_wr (mm N L c s x o g) 23 i 3 (.inl v) = mm N L c s x o (gu g 23 i 3 v) := mm_wr N L c s x o g 23 i 3 v rfl
theorem w_24_0 (i : Nat) (v : Int32) : av_wr (mm N L c s x o g) 24 i 0 (.inl v) = mm N L c s x o (gu g 24 i 0 v) := mm_wr N L c s x o g 24 i 0 v rfl
theorem w_26_0 (i : Nat) (v : Int32) : av_wr (mm N L c s x o g) 26 i 0 (.inl v) = mm N L c s x o (gu g 26 i 0 v) := mm_wr N L c s x o g 26 i 0 v rfl
theorem w_26_1 (i : Nat) (v : Int32) : av_wr (mm N L c s x o g) 26 i 1 (.inl v) = mm N L c s x o (gu g 26 i 1 v) := mm_wr N L c s x o g 26 i 1 v rfl
theorem w_28_0 (i : Nat) (v : Int32) : av_wr (mm N L c s x o g) 28 i 0 (.inl v) = mm N L c s x o (gu g 28 i 0 v) := mm_wr N L c s x o g 28 i 0 v rfl
theorem w_28_1 (i : Nat) (v : Int32) : av_wr (mm N L c s x o g) 28 i 1 (.inl v) = mm N L c s x o (gu g 28 i 1 v) := mm_wr N L c s x o g 28 i 1 v rfl
theorem w_28_2 (i : Nat) (v : Int32) : av_wr (mm N L c s x o g) 28 i 2 (.inl v) = mm N L c s x o (gu g 28 i 2 v) := mm_wr N L c s x o g 28 i 2 v rfl
theorem w_28_3 (i : Nat) (v : Int32) : av_wr (mm N L c s x o g) 28 i 3 (.inl v) = mm N L c s x o (gu g 28 i 3 v) := mm_wr N L c s x o g 28 i 3 v rfl
theorem w_28_4 (i : Nat) (v : Int32) : av_wr (mm N L c s x o g) 28 i 4 (.inl v) = mm N L c s x o (gu g 28 i 4 v) := mm_wr N L c s x o g 28 i 4 v rfl
theorem w_28_5 (i : Nat) (v : Int32) : av_wr (mm N L c s x o g) 28 i 5 (.inl v) = mm N L c s x o (gu g 28 i 5 v) := mm_wr N L c s x o g 28 i 5 v rfl
theorem w_28_6 (i : Nat) (v : Int32) : av_wr (mm N L c s x o g) 28 i 6 (.inl v) = mm N L c s x o (gu g 28 i 6 v) := mm_wr N L c s x o g 28 i 6 v rfl
theorem w_29 (i k : Nat) (v : Int32) : av_wr (mm N L c s x o g) 29 i k (.inl v) = mm N L c s x o (gu g 29 i k v) := mm_wr N L c s x o g 29 i k v rfl
theorem w_36 (i k : Nat) (v : Int32) : av_wr (mm N L c s x o g) 36 i k (.inl v) = mm N L c s x o (gu g 36 i k v) := mm_wr N L c s x o g 36 i k v rfl
theorem w_37 (i k : Nat) (v : Int32) : av_wr (mm N L c s x o g) 37 i k (.inl v) = mm N L c s x o (gu g 37 i k v) := mm_wr N L c s x o g 37 i k v rfl
theorem w_38 (i k : Nat) (v : Int32) : av_wr (mm N L c s x o g) 38 i k (.inl v) = mm N L c s x o (gu g 38 i k v) := mm_wr N L c s x o g 38 i k v rfl
theorem w_39 (i k : Nat) (v : Int32) : av_wr (mm N L c s x o g) 39 i k (.inl v) = mm N L c s x o (gu g 39 i k v) := mm_wr N L c s x o g 39 i k v rfl
theorem w_40 (i k : Nat) (v : Int32) : av_wr (mm N L c s x o g) 40 i k (.inl v) = mm N L c s x o (gu g 40 i k v) := mm_wr N L c s x o g 40 i k v rfl
theorem w_41 (i k : Nat) (v : Int32) : av_wr (mm N L c s x o g) 41 i k (.inl v) = mm N L c s x o (gu g 41 i k v) := mm_wr N L c s x o g 41 i k v rfl
theorem w_42 (i k : Nat) (v : Int32) : av_wr (mm N L c s x o g) 42 i k (.inl v) = mm N L c s x o (gu g 42 i k v) := mm_wr N L c s x o g 42 i k v rfl
theorem w_43 (i k : Nat) (v : Int32) : av_wr (mm N L c s x o g) 43 i k (.inl v) = mm N L c s x o (gu g 43 i k v) := mm_wr N L c s x o g 43 i k v rfl
theorem w_44 (i k : Nat) (v : Int32) : av_wr (mm N L c s x o g) 44 i k (.inl v) = mm N L c s x o (gu g 44 i k v) := mm_wr N L c s x o g 44 i k v rfl
theorem w_45 (i k : Nat) (v : Int32) : av_wr (mm N L c s x o g) 45 i k (.inl v) = mm N L c s x o (gu g 45 i k v) := mm_wr N L c s x o g 45 i k v rfl
theorem w_46 (i k : Nat) (v : Int32) : av_wr (mm N L c s x o g) 46 i k (.inl v) = mm N L c s x o (gu g 46 i k v) := mm_wr N L c s x o g 46 i k v rfl
theorem w_47 (i k : Nat) (v : Int32) : av_wr (mm N L c s x o g) 47 i k (.inl v) = mm N L c s x o (gu g 47 i k v) := mm_wr N L c s x o g 47 i k v rfl
theorem w_48 (i k : Nat) (v : Int32) : av_wr (mm N L c s x o g) 48 i k (.inl v) = mm N L c s x o (gu g 48 i k v) := mm_wr N L c s x o g 48 i k v rfl
theorem w_49 (i k : Nat) (v : Int32) : av_wr (mm N L c s x o g) 49 i k (.inl v) = mm N L c s x o (gu g 49 i k v) := mm_wr N L c s x o g 49 i k v rfl
theorem w_50 (i k : Nat) (v : Int32) : av_wr (mm N L c s x o g) 50 i k (.inl v) = mm N L c s x o (gu g 50 i k v) := mm_wr N L c s x o g 50 i k v rfl
theorem w_51 (i k : Nat) (v : Int32) : av_wr (mm N L c s x o g) 51 i k (.inl v) = mm N L c s x o (gu g 51 i k v) := mm_wr N L c s x o g 51 i k v rfl
theorem w_52 (i k : Nat) (v : Int32) : av_wr (mm N L c s x o g) 52 i k (.inl v) = mm N L c s x o (gu g 52 i k v) := mm_wr N L c s x o g 52 i k v rfl
theorem w_53 (i k : Nat) (v : Int32) : av_wr (mm N L c s x o g) 53 i k (.inl v) = mm N L c s x o (gu g 53 i k v) := mm_wr N L c s x o g 53 i k v rfl
theorem w_54 (i k : Nat) (v : Int32) : av_wr (mm N L c s x o g) 54 i k (.inl v) = mm N L c s x o (gu g 54 i k v) := mm_wr N L c s x o g 54 i k v rfl
theorem w_55 (i k : Nat) (v : Int32) : av_wr (mm N L c s x o g) 55 i k (.inl v) = mm N L c s x o (gu g 55 i k v) := mm_wr N L c s x o g 55 i k v rfl
theorem w_56 (i k : Nat) (v : Int32) : av_wr (mm N L c s x o g) 56 i k (.inl v) = mm N L c s x o (gu g 56 i k v) := mm_wr N L c s x o g 56 i k v rfl
theorem w_57 (i k : Nat) (v : Int32) : av_wr (mm N L c s x o g) 57 i k (.inl v) = mm N L c s x o (gu g 57 i k v) := mm_wr N L c s x o g 57 i k v rfl
theorem w_58 (i k : Nat) (v : Int32) : av_wr (mm N L c s x o g) 58 i k (.inl v) = mm N L c s x o (gu g 58 i k v) := mm_wr N L c s x o g 58 i k v rfl
theorem w_59 (i k : Nat) (v : Int32) : av_wr (mm N L c s x o g) 59 i k (.inl v) = mm N L c s x o (gu g 59 i k v) := mm_wr N L c s x o g 59 i k v rfl
theorem w_60 (i k : Nat) (v : Int32) : av_wr (mm N L c s x o g) 60 i k (.inl v) = mm N L c s x o (gu g 60 i k v) := mm_wr N L c s x o g 60 i k v rfl
theorem w_61 (i k : Nat) (v : Int32) : av_wr (mm N L c s x o g) 61 i k (.inl v) = mm N L c s x o (gu g 61 i k v) := mm_wr N L c s x o g 61 i k v rfl
theorem w_62 (i k : Nat) (v : Int32) : av_wr (mm N L c s x o g) 62 i k (.inl v) = mm N L c s x o (gu g 62 i k v) := mm_wr N L c s x o g 62 i k v rfl
theorem w_63 (i k : Nat) (v : Int32) : av_wr (mm N L c s x o g) 63 i k (.inl v) = mm N L c s x o (gu g 63 i k v) := mm_wr N L c s x o g 63 i k v rfl
theorem w_64_0 (i : Nat) (v : Int32) : av_wr (mm N L c s x o g) 64 i 0 (.inl v) = mm N L c s x o (gu g 64 i 0 v) := mm_wr N L c s x o g 64 i 0 v rfl
theorem w_64_1 (i : Nat) (v : Int32) : av_wr (mm N L c s x o g) 64 i 1 (.inl v) = mm N L c s x o (gu g 64 i 1 v) := mm_wr N L c s x o g 64 i 1 v rfl
theorem w_64_2 (i : Nat) (v : Int32) : av_wr (mm N L c s x o g) 64 i 2 (.inl v) = mm N L c s x o (gu g 64 i 2 v) := mm_wr N L c s x o g 64 i 2 v rfl
theorem w_65_0 (i : Nat) (v : Int32) : av_wr (mm N L c s x o g) 65 i 0 (.inl v) = mm N L c s x o (gu g 65 i 0 v) := mm_wr N L c s x o g 65 i 0 v rfl
theorem w_65_1 (i : Nat) (v : Int32) : av_wr (mm N L c s x o g) 65 i 1 (.inl v) = mm N L c s x o (gu g 65 i 1 v) := mm_wr N L c s x o g 65 i 1 v rfl
theorem w_65_2 (i : Nat) (v : Int32) : av_wr (mm N L c s x o g) 65 i 2 (.inl v) = mm N L c s x o (gu g 65 i 2 v) := mm_wr N L c s x o g 65 i 2 v rfl
theorem w_65_3 (i : Nat) (v : Int32) : av_wr (mm N L c s x o g) 65 i 3 (.inl v) = mm N L c s x o (gu g 65 i 3 v) := mm_wr N L c s x o g 65 i 3 v rfl
theorem w_65_4 (i : Nat) (v : Int32) : av_wr (mm N L c s x o g) 65 i 4 (.inl v) = mm N L c s x o (gu g 65 i 4 v) := mm_wr N L c s x o g 65 i 4 v rfl
theorem w_65_5 (i : Nat) (v : Int32) : av_wr (mm N L c s x o g) 65 i 5 (.inl v) = mm N L c s x o (gu g 65 i 5 v) := mm_wr N L c s x o g 65 i 5 v rfl
theorem w_65_6 (i : Nat) (v : Int32) : av_wr (mm N L c s x o g) 65 i 6 (.inl v) = mm N L c s x o (gu g 65 i 6 v) := mm_wr N L c s x o g 65 i 6 v rfl
theorem w_65_7 (i : Nat) (v : Int32) : av_wr (mm N L c s x o g) 65 i 7 (.inl v) = mm N L c s x o (gu g 65 i 7 v) := mm_wr N L c s x o g 65 i 7 v rfl
theorem w_65_8 (i : Nat) (v : Int32) : av_wr (mm N L c s x o g) 65 i 8 (.inl v) = mm N L c s x o (gu g 65 i 8 v) := mm_wr N L c s x o g 65 i 8 v rfl
theorem w_65_14 (i : Nat) (v : Int32) : av_wr (mm N L c s x o g) 65 i 14 (.inl v) = mm N L c s x o (gu g 65 i 14 v) := mm_wr N L c s x o g 65 i 14 v rfl
theorem w_65_37 (i : Nat) (v : Int32) : av_wr (mm N L c s x o g) 65 i 37 (.inl v) = mm N L c s x o (gu g 65 i 37 v) := mm_wr N L c s x o g 65 i 37 v rfl
end WR
theorem ctc_0 (pc : Nat) (ls : List (Option av_V)) (e : Nat × Nat) (μ : av_M) : av_ctc 0 pc ls e μ = some (.inr e, μ) := if_pos rfl
theorem ctc_1 (pc : Nat) (ls : List (Option av_V)) (e : Nat × Nat) (μ : av_M) : av_ctc 1 pc ls e μ = some (.inr e, μ) := if_pos rfl
theorem ctc_2 (pc : Nat) (ls : List (Option av_V)) (e : Nat × Nat) (μ : av_M) : av_ctc 2 pc ls e μ = some (.inr e, μ) := if_pos rfl
theorem ctc_3 (pc : Nat) (ls : List (Option av_V)) (e : Nat × Nat) (μ : av_M) : av_ctc 3 pc ls e μ = some (.inr e, μ) := if_pos rfl
theorem ctc_4 (pc : Nat) (ls : List (Option av_V)) (e : Nat × Nat) (μ : av_M) : av_ctc 4 pc ls e μ = some (.inr e, μ) := if_pos rfl
theorem ctc_5 (pc : Nat) (ls : List (Option av_V)) (e : Nat × Nat) (μ : av_M) : av_ctc 5 pc ls e μ = some (.inr e, μ) := if_pos rfl
theorem ctc_6 (pc : Nat) (ls : List (Option av_V)) (e : Nat × Nat) (μ : av_M) : av_ctc 6 pc ls e μ = some (.inr e, μ) := if_pos rfl
theorem ctc_7 (pc : Nat) (ls : List (Option av_V)) (e : Nat × Nat) (μ : av_M) : av_ctc 7 pc ls e μ = some (.inr e, μ) := if_pos rfl
theorem ctc_8 (pc : Nat) (ls : List (Option av_V)) (e : Nat × Nat) (μ : av_M) : av_ctc 8 pc ls e μ = some (.inr e, μ) := if_pos rfl
theorem ctc_9 (pc : Nat) (ls : List (Option av_V)) (e : Nat × Nat) (μ : av_M) : av_ctc 9 pc ls e μ = some (.inr e, μ) := if_pos rfl
theorem ctc_10 (pc : Nat) (ls : List (Option av_V)) (e : Nat × Nat) (μ : av_M) : av_ctc 10 pc ls e μ = some (.inr e, μ) := if_pos rfl
theorem ctc_11 (pc : Nat) (ls : List (Option av_V)) (e : Nat × Nat) (μ : av_M) : av_ctc 11 pc ls e μ = some (.inr e, μ) := if_pos rfl
theorem ctc_12 (pc : Nat) (ls : List (Option av_V)) (e : Nat × Nat) (μ : av_M) : av_ctc 12 pc ls e μ = some (.inr e, μ) := if_pos rfl
theorem ctc_13 (pc : Nat) (ls : List (Option av_V)) (e : Nat × Nat) (μ : av_M) : av_ctc 13 pc ls e μ = some (.inr e, μ) := if_pos rfl
theorem ctc_14 (pc : Nat) (ls : List (Option av_V)) (e : Nat × Nat) (μ : av_M) : av_ctc 14 pc ls e μ = some (.inr e, μ) := if_pos rfl
theorem ctc_15 (pc : Nat) (ls : List (Option av_V)) (e : Nat × Nat) (μ : av_M) : av_ctc 15 pc ls e μ = some (.inr e, μ) := if_pos rfl
theorem ctc_16 (pc : Nat) (ls : List (Option av_V)) (e : Nat × Nat) (μ : av_M) : av_ctc 16 pc ls e μ = some (.inr e, μ) := if_pos rfl
theorem ctc_17 (pc : Nat) (ls : List (Option av_V)) (e : Nat × Nat) (μ : av_M) : av_ctc 17 pc ls e μ = some (.inr e, μ) := if_pos rfl
theorem ctc_18 (pc : Nat) (ls : List (Option av_V)) (e : Nat × Nat) (μ : av_M) : av_ctc 18 pc ls e μ = some (.inr e, μ) := if_pos rfl
theorem ctc_19 (pc : Nat) (ls : List (Option av_V)) (e : Nat × Nat) (μ : av_M) : av_ctc 19 pc ls e μ = some (.inr e, μ) := if_pos rfl
theorem ctc_20 (pc : Nat) (ls : List (Option av_V)) (e : Nat × Nat) (μ : av_M) : av_ctc 20 pc ls e μ = some (.inr e, μ) := if_pos rfl
theorem ctc_21 (pc : Nat) (ls : List (Option av_V)) (e : Nat × Nat) (μ : av_M) : av_ctc 21 pc ls e μ = some (.inr e, μ) := if_pos rfl
theorem ctc_22 (pc : Nat) (ls : List (Option av_V)) (e : Nat × Nat) (μ : av_M) : av_ctc 22 pc ls e μ = some (.inr e, μ) := if_pos rfl
theorem ctc_23 (pc : Nat) (ls : List (Option av_V)) (e : Nat × Nat) (μ : av_M) : av_ctc 23 pc ls e μ = some (.inr e, μ) := if_pos rfl
theorem ctc_24 (pc : Nat) (ls : List (Option av_V)) (e : Nat × Nat) (μ : av_M) : av_ctc 24 pc ls e μ = some (.inr e, μ) := if_pos rfl
theorem ctc_25 (pc : Nat) (ls : List (Option av_V)) (e : Nat × Nat) (μ : av_M) : av_ctc 25 pc ls e μ = some (.inr e, μ) := if_pos rfl
theorem ctc_26 (pc : Nat) (ls : List (Option av_V)) (e : Nat × Nat) (μ : av_M) : av_ctc 26 pc ls e μ = some (.inr e, μ) := if_pos rfl
theorem ctc_27 (pc : Nat) (ls : List (Option av_V)) (e : Nat × Nat) (μ : av_M) : av_ctc 27 pc ls e μ = some (.inr e, μ) := if_pos rfl
theorem ctc_28 (pc : Nat) (ls : List (Option av_V)) (e : Nat × Nat) (μ : av_M) : av_ctc 28 pc ls e μ = some (.inr e, μ) := if_pos rfl
theorem ctc_29 (pc : Nat) (ls : List (Option av_V)) (e : Nat × Nat) (μ : av_M) : av_ctc 29 pc ls e μ = some (.inr e, μ) := if_pos rfl
theorem ctc_30 (pc : Nat) (ls : List (Option av_V)) (e : Nat × Nat) (μ : av_M) : av_ctc 30 pc ls e μ = some (.inr e, μ) := if_pos rfl
theorem ctc_31 (pc : Nat) (ls : List (Option av_V)) (e : Nat × Nat) (μ : av_M) : av_ctc 31 pc ls e μ = some (.inr e, μ) := if_pos rfl
theorem ctc_32 (pc : Nat) (ls : List (Option av_V)) (e : Nat × Nat) (μ : av_M) : av_ctc 32 pc ls e μ = some (.inr e, μ) := if_pos rfl
theorem ctc_33 (pc : Nat) (ls : List (Option av_V)) (e : Nat × Nat) (μ : av_M) : av_ctc 33 pc ls e μ = some (.inr e, μ) := if_pos rfl
theorem ctc_34 (pc : Nat) (ls : List (Option av_V)) (e : Nat × Nat) (μ : av_M) : av_ctc 34 pc ls e μ = some (.inr e, μ) := if_pos rfl
theorem ctc_35 (pc : Nat) (ls : List (Option av_V)) (e : Nat × Nat) (μ : av_M) : av_ctc 35 pc ls e μ = some (.inr e, μ) := if_pos rfl
theorem ctc_36 (pc : Nat) (ls : List (Option av_V)) (e : Nat × Nat) (μ : av_M) : av_ctc 36 pc ls e μ = some (.inr e, μ) := if_pos rfl
theorem ctc_37 (pc : Nat) (ls : List (Option av_V)) (e : Nat × Nat) (μ : av_M) : av_ctc 37 pc ls e μ = some (.inr e, μ) := if_pos rfl
theorem ctc_38 (pc : Nat) (ls : List (Option av_V)) (e : Nat × Nat) (μ : av_M) : av_ctc 38 pc ls e μ = some (.inr e, μ) := if_pos rfl
theorem ctc_39 (pc : Nat) (ls : List (Option av_V)) (e : Nat × Nat) (μ : av_M) : av_ctc 39 pc ls e μ = some (.inr e, μ) := if_pos rfl
theorem ctc_40 (pc : Nat) (ls : List (Option av_V)) (e : Nat × Nat) (μ : av_M) : av_ctc 40 pc ls e μ = some (.inr e, μ) := if_pos rfl
theorem ctc_41 (pc : Nat) (ls : List (Option av_V)) (e : Nat × Nat) (μ : av_M) : av_ctc 41 pc ls e μ = some (.inr e, μ) := if_pos rfl
theorem ctc_42 (pc : Nat) (ls : List (Option av_V)) (e : Nat × Nat) (μ : av_M) : av_ctc 42 pc ls e μ = some (.inr e, μ) := if_pos rfl
theorem ctc_43 (pc : Nat) (ls : List (Option av_V)) (e : Nat × Nat) (μ : av_M) : av_ctc 43 pc ls e μ = some (.inr e, μ) := if_pos rfl
theorem ctc_44 (pc : Nat) (ls : List (Option av_V)) (e : Nat × Nat) (μ : av_M) : av_ctc 44 pc ls e μ = some (.inr e, μ) := if_pos rfl
theorem ctc_45 (pc : Nat) (ls : List (Option av_V)) (e : Nat × Nat) (μ : av_M) : av_ctc 45 pc ls e μ = some (.inr e, μ) := if_pos rfl
theorem ctc_46 (pc : Nat) (ls : List (Option av_V)) (e : Nat × Nat) (μ : av_M) : av_ctc 46 pc ls e μ = some (.inr e, μ) := if_pos rfl
theorem ctc_47 (pc : Nat) (ls : List (Option av_V)) (e : Nat × Nat) (μ : av_M) : av_ctc 47 pc ls e μ = some (.inr e, μ) := if_pos rfl
theorem ctc_48 (pc : Nat) (ls : List (Option av_V)) (e : Nat × Nat) (μ : av_M) : av_ctc 48 pc ls e μ = some (.inr e, μ) := if_pos rfl
theorem ctc_49 (pc : Nat) (ls : List (Option av_V)) (e : Nat × Nat) (μ : av_M) : av_ctc 49 pc ls e μ = some (.inr e, μ) := if_pos rfl
theorem ctc_50 (pc : Nat) (ls : List (Option av_V)) (e : Nat × Nat) (μ : av_M) : av_ctc 50 pc ls e μ = some (.inr e, μ) := if_pos rfl
theorem ctc_51 (pc : Nat) (ls : List (Option av_V)) (e : Nat × Nat) (μ : av_M) : av_ctc 51 pc ls e μ = some (.inr e, μ) := if_pos rfl
theorem ctc_52 (pc : Nat) (ls : List (Option av_V)) (e : Nat × Nat) (μ : av_M) : av_ctc 52 pc ls e μ = some (.inr e, μ) := if_pos rfl
theorem ctc_53 (pc : Nat) (ls : List (Option av_V)) (e : Nat × Nat) (μ : av_M) : av_ctc 53 pc ls e μ = some (.inr e, μ) := if_pos rfl
theorem ctc_54 (pc : Nat) (ls : List (Option av_V)) (e : Nat × Nat) (μ : av_M) : av_ctc 54 pc ls e μ = some (.inr e, μ) := if_pos rfl
theorem ctc_55 (pc : Nat) (ls : List (Option av_V)) (e : Nat × Nat) (μ : av_M) : av_ctc 55 pc ls e μ = some (.inr e, μ) := if_pos rfl
theorem ctc_56 (pc : Nat) (ls : List (Option av_V)) (e : Nat × Nat) (μ : av_M) : av_ctc 56 pc ls e μ = some (.inr e, μ) := if_pos rfl
theorem ctc_57 (pc : Nat) (ls : List (Option av_V)) (e : Nat × Nat) (μ : av_M) : av_ctc 57 pc ls e μ = some (.inr e, μ) := if_pos rfl
theorem ctc_58 (pc : Nat) (ls : List (Option av_V)) (e : Nat × Nat) (μ : av_M) : av_ctc 58 pc ls e μ = some (.inr e, μ) := if_pos rfl
theorem ctc_59 (pc : Nat) (ls : List (Option av_V)) (e : Nat × Nat) (μ : av_M) : av_ctc 59 pc ls e μ = some (.inr e, μ) := if_pos rfl
theorem ctc_60 (pc : Nat) (ls : List (Option av_V)) (e : Nat × Nat) (μ : av_M) : av_ctc 60 pc ls e μ = some (.inr e, μ) := if_pos rfl
theorem ctc_61 (pc : Nat) (ls : List (Option av_V)) (e : Nat × Nat) (μ : av_M) : av_ctc 61 pc ls e μ = some (.inr e, μ) := if_pos rfl
theorem ctc_62 (pc : Nat) (ls : List (Option av_V)) (e : Nat × Nat) (μ : av_M) : av_ctc 62 pc ls e μ = some (.inr e, μ) := if_pos rfl
theorem ctc_63 (pc : Nat) (ls : List (Option av_V)) (e : Nat × Nat) (μ : av_M) : av_ctc 63 pc ls e μ = some (.inr e, μ) := if_pos rfl
theorem ctc_64 (pc : Nat) (ls : List (Option av_V)) (e : Nat × Nat) (μ : av_M) : av_ctc 64 pc ls e μ = some (.inr e, μ) := if_pos rfl
theorem ctc_65 (pc : Nat) (ls : List (Option av_V)) (e : Nat × Nat) (μ : av_M) : av_ctc 65 pc ls e μ = some (.inr e, μ) := if_pos rfl
theorem ctc_66 (pc : Nat) (ls : List (Option av_V)) (e : Nat × Nat) (μ : av_M) : av_ctc 66 pc ls e μ = some (.inr e, μ) := if_pos rfl
theorem ctc_67 (pc : Nat) (ls : List (Option av_V)) (e : Nat × Nat) (μ : av_M) : av_ctc 67 pc ls e μ = some (.inr e, μ) := if_pos rfl
theorem ctc_68 (pc : Nat) (ls : List (Option av_V)) (e : Nat × Nat) (μ : av_M) : av_ctc 68 pc ls e μ = some (.inr e, μ) := if_pos rfl
theorem ctc_69 (pc : Nat) (ls : List (Option av_V)) (e : Nat × Nat) (μ : av_M) : av_ctc 69 pc ls e μ = some (.inr e, μ) := if_pos rfl
theorem ctc_70 (pc : Nat) (ls : List (Option av_V)) (e : Nat × Nat) (μ : av_M) : av_ctc 70 pc ls e μ = some (.inr e, μ) := if_pos rfl
theorem ctc_71 (pc : Nat) (ls : List (Option av_V)) (e : Nat × Nat) (μ : av_M) : av_ctc 71 pc ls e μ = some (.inr e, μ) := if_pos rfl
theorem ctc_72 (pc : Nat) (ls : List (Option av_V)) (e : Nat × Nat) (μ : av_M) : av_ctc 72 pc ls e μ = some (.inr e, μ) := if_pos rfl
theorem ctc_73 (pc : Nat) (ls : List (Option av_V)) (e : Nat × Nat) (μ : av_M) : av_ctc 73 pc ls e μ = some (.inr e, μ) := if_pos rfl
theorem ctc_74 (pc : Nat) (ls : List (Option av_V)) (e : Nat × Nat) (μ : av_M) : av_ctc 74 pc ls e μ = some (.inr e, μ) := if_pos rfl
theorem ctc_75 (pc : Nat) (ls : List (Option av_V)) (e : Nat × Nat) (μ : av_M) : av_ctc 75 pc ls e μ = some (.inr e, μ) := if_pos rfl
theorem ctc_76 (pc : Nat) (ls : List (Option av_V)) (e : Nat × Nat) (μ : av_M) : av_ctc 76 pc ls e μ = some (.inr e, μ) := if_pos rfl
theorem ctc_77 (pc : Nat) (ls : List (Option av_V)) (e : Nat × Nat) (μ : av_M) : av_ctc 77 pc ls e μ = some (.inr e, μ) := if_pos rfl
theorem ctc_78 (pc : Nat) (ls : List (Option av_V)) (e : Nat × Nat) (μ : av_M) : av_ctc 78 pc ls e μ = some (.inr e, μ) := if_pos rfl
theorem ctc_79 (pc : Nat) (ls : List (Option av_V)) (e : Nat × Nat) (μ : av_M) : av_ctc 79 pc ls e μ = some (.inr e, μ) := if_pos rfl
theorem ctc_80 (pc : Nat) (ls : List (Option av_V)) (e : Nat × Nat) (μ : av_M) : av_ctc 80 pc ls e μ = some (.inr e, μ) := if_pos rfl
theorem ctc_81 (pc : Nat) (ls : List (Option av_V)) (e : Nat × Nat) (μ : av_M) : av_ctc 81 pc ls e μ = some (.inr e, μ) := if_pos rfl
theorem ctc_82 (pc : Nat) (ls : List (Option av_V)) (e : Nat × Nat) (μ : av_M) : av_ctc 82 pc ls e μ = some (.inr e, μ) := if_pos rfl
theorem ctc_83 (pc : Nat) (ls : List (Option av_V)) (e : Nat × Nat) (μ : av_M) : av_ctc 83 pc ls e μ = some (.inr e, μ) := if_pos rfl
theorem ctc_84 (pc : Nat) (ls : List (Option av_V)) (e : Nat × Nat) (μ : av_M) : av_ctc 84 pc ls e μ = some (.inr e, μ) := if_pos rfl
theorem ctc_85 (pc : Nat) (ls : List (Option av_V)) (e : Nat × Nat) (μ : av_M) : av_ctc 85 pc ls e μ = some (.inr e, μ) := if_pos rfl
theorem ctc_86 (pc : Nat) (ls : List (Option av_V)) (e : Nat × Nat) (μ : av_M) : av_ctc 86 pc ls e μ = some (.inr e, μ) := if_pos rfl
theorem ctc_87 (pc : Nat) (ls : List (Option av_V)) (e : Nat × Nat) (μ : av_M) : av_ctc 87 pc ls e μ = some (.inr e, μ) := if_pos rfl
theorem ctc_88 (pc : Nat) (ls : List (Option av_V)) (e : Nat × Nat) (μ : av_M) : av_ctc 88 pc ls e μ = some (.inr e, μ) := if_pos rfl
theorem ctc_89 (pc : Nat) (ls : List (Option av_V)) (e : Nat × Nat) (μ : av_M) : av_ctc 89 pc ls e μ = some (.inr e, μ) := if_pos rfl
theorem ctc_90 (pc : Nat) (ls : List (Option av_V)) (e : Nat × Nat) (μ : av_M) : av_ctc 90 pc ls e μ = some (.inr e, μ) := if_pos rfl
theorem ctc_91 (pc : Nat) (ls : List (Option av_V)) (e : Nat × Nat) (μ : av_M) : av_ctc 91 pc ls e μ = some (.inr e, μ) := if_pos rfl
theorem ctc_92 (pc : Nat) (ls : List (Option av_V)) (e : Nat × Nat) (μ : av_M) : av_ctc 92 pc ls e μ = some (.inr e, μ) := if_pos rfl
theorem ctc_93 (pc : Nat) (ls : List (Option av_V)) (e : Nat × Nat) (μ : av_M) : av_ctc 93 pc ls e μ = some (.inr e, μ) := if_pos rfl
theorem ctc_94 (pc : Nat) (ls : List (Option av_V)) (e : Nat × Nat) (μ : av_M) : av_ctc 94 pc ls e μ = some (.inr e, μ) := if_pos rfl
theorem ctc_95 (pc : Nat) (ls : List (Option av_V)) (e : Nat × Nat) (μ : av_M) : av_ctc 95 pc ls e μ = some (.inr e, μ) := if_pos rfl
theorem ctc_96 (pc : Nat) (ls : List (Option av_V)) (e : Nat × Nat) (μ : av_M) : av_ctc 96 pc ls e μ = some (.inr e, μ) := if_pos rfl
theorem ctc_97 (pc : Nat) (ls : List (Option av_V)) (e : Nat × Nat) (μ : av_M) : av_ctc 97 pc ls e μ = some (.inr e, μ) := if_pos rfl
theorem ctc_98 (pc : Nat) (ls : List (Option av_V)) (e : Nat × Nat) (μ : av_M) : av_ctc 98 pc ls e μ = some (.inr e, μ) := if_pos rfl
theorem ctc_99 (pc : Nat) (ls : List (Option av_V)) (e : Nat × Nat) (μ : av_M) : av_ctc 99 pc ls e μ = some (.inr e, μ) := if_pos rfl
theorem ctc_100 (pc : Nat) (ls : List (Option av_V)) (e : Nat × Nat) (μ : av_M) : av_ctc 100 pc ls e μ = some (.inr e, μ) := if_pos rfl
theorem ctc_101 (pc : Nat) (ls : List (Option av_V)) (e : Nat × Nat) (μ : av_M) : av_ctc 101 pc ls e μ = some (.inr e, μ) := if_pos rfl
theorem ctc_102 (pc : Nat) (ls : List (Option av_V)) (e : Nat × Nat) (μ : av_M) : av_ctc 102 pc ls e μ = some (.inr e, μ) := if_pos rfl
theorem ctc_103 (pc : Nat) (ls : List (Option av_V)) (e : Nat × Nat) (μ : av_M) : av_ctc 103 pc ls e μ = some (.inr e, μ) := if_pos rfl
theorem ctc_104 (pc : Nat) (ls : List (Option av_V)) (e : Nat × Nat) (μ : av_M) : av_ctc 104 pc ls e μ = some (.inr e, μ) := if_pos rfl
theorem ctc_105 (pc : Nat) (ls : List (Option av_V)) (e : Nat × Nat) (μ : av_M) : av_ctc 105 pc ls e μ = some (.inr e, μ) := if_pos rfl
theorem ctc_106 (pc : Nat) (ls : List (Option av_V)) (e : Nat × Nat) (μ : av_M) : av_ctc 106 pc ls e μ = some (.inr e, μ) := if_pos rfl
theorem ctc_107 (pc : Nat) (ls : List (Option av_V)) (e : Nat × Nat) (μ : av_M) : av_ctc 107 pc ls e μ = some (.inr e, μ) := if_pos rfl
theorem ctc_108 (pc : Nat) (ls : List (Option av_V)) (e : Nat × Nat) (μ : av_M) : av_ctc 108 pc ls e μ = some (.inr e, μ) := if_pos rfl
theorem ctc_109 (pc : Nat) (ls : List (Option av_V)) (e : Nat × Nat) (μ : av_M) : av_ctc 109 pc ls e μ = some (.inr e, μ) := if_pos rfl
theorem ctc_110 (pc : Nat) (ls : List (Option av_V)) (e : Nat × Nat) (μ : av_M) : av_ctc 110 pc ls e μ = some (.inr e, μ) := if_pos rfl
theorem ctc_111 (pc : Nat) (ls : List (Option av_V)) (e : Nat × Nat) (μ : av_M) : av_ctc 111 pc ls e μ = some (.inr e, μ) := if_pos rfl
theorem ctc_112 (pc : Nat) (ls : List (Option av_V)) (e : Nat × Nat) (μ : av_M) : av_ctc 112 pc ls e μ = some (.inr e, μ) := if_pos rfl
theorem ctc_113 (pc : Nat) (ls : List (Option av_V)) (e : Nat × Nat) (μ : av_M) : av_ctc 113 pc ls e μ = some (.inr e, μ) := if_pos rfl
theorem ctc_114 (pc : Nat) (ls : List (Option av_V)) (e : Nat × Nat) (μ : av_M) : av_ctc 114 pc ls e μ = some (.inr e, μ) := if_pos rfl
theorem ctc_115 (pc : Nat) (ls : List (Option av_V)) (e : Nat × Nat) (μ : av_M) : av_ctc 115 pc ls e μ = some (.inr e, μ) := if_pos rfl
theorem ctc_116 (pc : Nat) (ls : List (Option av_V)) (e : Nat × Nat) (μ : av_M) : av_ctc 116 pc ls e μ = some (.inr e, μ) := if_pos rfl
theorem ctc_117 (pc : Nat) (ls : List (Option av_V)) (e : Nat × Nat) (μ : av_M) : av_ctc 117 pc ls e μ = some (.inr e, μ) := if_pos rfl
theorem ctc_118 (pc : Nat) (ls : List (Option av_V)) (e : Nat × Nat) (μ : av_M) : av_ctc 118 pc ls e μ = some (.inr e, μ) := if_pos rfl
theorem ctc_119 (pc : Nat) (ls : List (Option av_V)) (e : Nat × Nat) (μ : av_M) : av_ctc 119 pc ls e μ = some (.inr e, μ) := if_pos rfl
theorem ctc_120 (pc : Nat) (ls : List (Option av_V)) (e : Nat × Nat) (μ : av_M) : av_ctc 120 pc ls e μ = some (.inr e, μ) := if_pos rfl
theorem ctc_121 (pc : Nat) (ls : List (Option av_V)) (e : Nat × Nat) (μ : av_M) : av_ctc 121 pc ls e μ = some (.inr e, μ) := if_pos rfl
theorem ctc_122 (pc : Nat) (ls : List (Option av_V)) (e : Nat × Nat) (μ : av_M) : av_ctc 122 pc ls e μ = some (.inr e, μ) := if_pos rfl
theorem ctc_123 (pc : Nat) (ls : List (Option av_V)) (e : Nat × Nat) (μ : av_M) : av_ctc 123 pc ls e μ = some (.inr e, μ) := if_pos rfl
theorem ctc_124 (pc : Nat) (ls : List (Option av_V)) (e : Nat × Nat) (μ : av_M) : av_ctc 124 pc ls e μ = some (.inr e, μ) := if_pos rfl
theorem ctc_125 (pc : Nat) (ls : List (Option av_V)) (e : Nat × Nat) (μ : av_M) : av_ctc 125 pc ls e μ = some (.inr e, μ) := if_pos rfl
theorem ctc_126 (pc : Nat) (ls : List (Option av_V)) (e : Nat × Nat) (μ : av_M) : av_ctc 126 pc ls e μ = some (.inr e, μ) := if_pos rfl
theorem ctc_127 (pc : Nat) (ls : List (Option av_V)) (e : Nat × Nat) (μ : av_M) : av_ctc 127 pc ls e μ = some (.inr e, μ) := if_pos rfl
theorem ctc_128 (pc : Nat) (ls : List (Option av_V)) (e : Nat × Nat) (μ : av_M) : av_ctc 128 pc ls e μ = some (.inr e, μ) := if_pos rfl
theorem ctc_129 (pc : Nat) (ls : List (Option av_V)) (e : Nat × Nat) (μ : av_M) : av_ctc 129 pc ls e μ = some (.inr e, μ) := if_pos rfl
theorem ctc_130 (pc : Nat) (ls : List (Option av_V)) (e : Nat × Nat) (μ : av_M) : av_ctc 130 pc ls e μ = some (.inr e, μ) := if_pos rfl
theorem ctc_131 (pc : Nat) (ls : List (Option av_V)) (e : Nat × Nat) (μ : av_M) : av_ctc 131 pc ls e μ = some (.inr e, μ) := if_pos rfl
theorem ctc_132 (pc : Nat) (ls : List (Option av_V)) (e : Nat × Nat) (μ : av_M) : av_ctc 132 pc ls e μ = some (.inr e, μ) := if_pos rfl
theorem ctc_133 (pc : Nat) (ls : List (Option av_V)) (e : Nat × Nat) (μ : av_M) : av_ctc 133 pc ls e μ = some (.inr e, μ) := if_pos rfl
theorem ctc_134 (pc : Nat) (ls : List (Option av_V)) (e : Nat × Nat) (μ : av_M) : av_ctc 134 pc ls e μ = some (.inr e, μ) := if_pos rfl
theorem ctc_135 (pc : Nat) (ls : List (Option av_V)) (e : Nat × Nat) (μ : av_M) : av_ctc 135 pc ls e μ = some (.inr e, μ) := if_pos rfl
theorem ctc_136 (pc : Nat) (ls : List (Option av_V)) (e : Nat × Nat) (μ : av_M) : av_ctc 136 pc ls e μ = some (.inr e, μ) := if_pos rfl
theorem ctc_137 (pc : Nat) (ls : List (Option av_V)) (e : Nat × Nat) (μ : av_M) : av_ctc 137 pc ls e μ = some (.inr e, μ) := if_pos rfl
theorem ctc_138 (pc : Nat) (ls : List (Option av_V)) (e : Nat × Nat) (μ : av_M) : av_ctc 138 pc ls e μ = some (.inr e, μ) := if_pos rfl
theorem ctc_139 (pc : Nat) (ls : List (Option av_V)) (e : Nat × Nat) (μ : av_M) : av_ctc 139 pc ls e μ = some (.inr e, μ) := if_pos rfl
theorem ctc_140 (pc : Nat) (ls : List (Option av_V)) (e : Nat × Nat) (μ : av_M) : av_ctc 140 pc ls e μ = some (.inr e, μ) := if_pos rfl
theorem ctc_141 (pc : Nat) (ls : List (Option av_V)) (e : Nat × Nat) (μ : av_M) : av_ctc 141 pc ls e μ = some (.inr e, μ) := if_pos rfl
theorem ctc_142 (pc : Nat) (ls : List (Option av_V)) (e : Nat × Nat) (μ : av_M) : av_ctc 142 pc ls e μ = some (.inr e, μ) := if_pos rfl
theorem ctc_143 (pc : Nat) (ls : List (Option av_V)) (e : Nat × Nat) (μ : av_M) : av_ctc 143 pc ls e μ = some (.inr e, μ) := if_pos rfl
theorem ctc_144 (pc : Nat) (ls : List (Option av_V)) (e : Nat × Nat) (μ : av_M) : av_ctc 144 pc ls e μ = some (.inr e, μ) := if_pos rfl
theorem ctc_145 (pc : Nat) (ls : List (Option av_V)) (e : Nat × Nat) (μ : av_M) : av_ctc 145 pc ls e μ = some (.inr e, μ) := if_pos rfl
theorem ctc_146 (pc : Nat) (ls : List (Option av_V)) (e : Nat × Nat) (μ : av_M) : av_ctc 146 pc ls e μ = some (.inr e, μ) := if_pos rfl
theorem ctc_147 (pc : Nat) (ls : List (Option av_V)) (e : Nat × Nat) (μ : av_M) : av_ctc 147 pc ls e μ = some (.inr e, μ) := if_pos rfl
theorem ctc_148 (pc : Nat) (ls : List (Option av_V)) (e : Nat × Nat) (μ : av_M) : av_ctc 148 pc ls e μ = some (.inr e, μ) := if_pos rfl
theorem ctc_149 (pc : Nat) (ls : List (Option av_V)) (e : Nat × Nat) (μ : av_M) : av_ctc 149 pc ls e μ = some (.inr e, μ) := if_pos rfl
theorem ix {n m : Nat} (h : n < m) (hm : m ≤ 65536) : av_outD (nI n) m = false := by
  have h1 : (nI n).toInt = n := Int32.toInt_ofNat_of_lt (by omega)
  have h2 : (nI n).toNatClampNeg = n := by
    show (nI n).toInt.toNat = n
    rw [h1]; rfl
  have h3 : ¬ (nI n < 0) := by
    rw [Int32.lt_iff_toInt_lt, h1]
    show ¬ ((n : Int) < 0)
    omega
  unfold av_outD
  rw [h2]
  simp [h3]
  omega
theorem tn {n : Nat} (h : n < 65536) : (nI n).toNatClampNeg = n := by
  have h1 : (nI n).toInt = n := Int32.toInt_ofNat_of_lt (by omega)
  show (nI n).toInt.toNat = n
  rw [h1]; rfl
theorem iI_le {a b : Nat} (ha : a < 65536) (hb : b < 65536) : (nI a ≤ nI b) = (a ≤ b) := by
  rw [Int32.le_iff_toInt_le, show (nI a).toInt = a from Int32.toInt_ofNat_of_lt (by omega), show (nI b).toInt = b from Int32.toInt_ofNat_of_lt (by omega)]
  exact propext Int.ofNat_le
theorem iI_lt {a b : Nat} (ha : a < 65536) (hb : b < 65536) : (nI a < nI b) = (a < b) := by
  rw [Int32.lt_iff_toInt_lt, show (nI a).toInt = a from Int32.toInt_ofNat_of_lt (by omega), show (nI b).toInt = b from Int32.toInt_ofNat_of_lt (by omega)]
  exact propext Int.ofNat_lt
theorem iI_eq {a b : Nat} (ha : a < 65536) (hb : b < 65536) : (nI a = nI b) = (a = b) := by
  refine propext ⟨fun h => ?_, fun h => by rw [h]⟩
  have := congrArg Int32.toInt h
  rw [show (nI a).toInt = a from Int32.toInt_ofNat_of_lt (by omega), show (nI b).toInt = b from Int32.toInt_ofNat_of_lt (by omega)] at this
  omega
theorem iI_add (a b : Nat) : nI a + nI b = nI (a + b) := (Int32.ofNat_add a b).symm
theorem iI_mul (a b : Nat) : nI a * nI b = nI (a * b) := (Int32.ofNat_mul a b).symm
theorem iI_0 : (0 : Int32) = nI 0 := rfl
theorem iI_1 : (1 : Int32) = nI 1 := rfl
def bc1 (i : Int32) : Int32 := i - ((i.toUInt32 >>> ((1 : Int32).toUInt32 &&& Int32.toUInt32 31)).toInt32 &&& 1431655765)
def bc2 (i : Int32) : Int32 := (i &&& 858993459) + ((i.toUInt32 >>> ((2 : Int32).toUInt32 &&& Int32.toUInt32 31)).toInt32 &&& 858993459)
def bc3 (i : Int32) : Int32 := (i + (i.toUInt32 >>> ((4 : Int32).toUInt32 &&& Int32.toUInt32 31)).toInt32) &&& 252645135
def bc4 (i : Int32) : Int32 := i + (i.toUInt32 >>> ((8 : Int32).toUInt32 &&& Int32.toUInt32 31)).toInt32
def bc5 (i : Int32) : Int32 := (i + (i.toUInt32 >>> ((16 : Int32).toUInt32 &&& Int32.toUInt32 31)).toInt32) &&& 63
def bc (i : Int32) : Int32 := bc5 (bc4 (bc3 (bc2 (bc1 i))))
theorem m_167 (a : Int32) (μ : av_M) : av_cal 167 [.inl a] μ = some (.inl (some (.inl (bc a))), μ) := by
  show av_run 167 0 [some (.inl a)] [] μ = _
  simp only [s_167_0, s_167_1, s_167_2, s_167_3, s_167_4, s_167_7, s_167_8, s_167_9, s_167_10, s_167_11, s_167_14, s_167_15, s_167_16, s_167_17, s_167_18, s_167_21, s_167_22, s_167_23, s_167_24, s_167_25, s_167_26, s_167_27, s_167_28, s_167_29, s_167_32, s_167_33, s_167_34, s_167_35, s_167_36, s_167_38, s_167_39, s_167_40, s_167_41, s_167_42, s_167_43, s_167_45, s_167_46, s_167_47, s_167_48, s_167_49, s_167_51, s_167_52]
  rfl
theorem iI_s (e : Nat) : nI e + 1 = nI (e + 1) := iI_add e 1
section M1
variable (N L c s : Nat) (x : Nat → Nat) (o : Int64)
/-- Bookie.syncAll -/
def F1 (k : Nat) : Nat → Nat → Int32 → mG → Int32 × mG
  | 0, _, n, g => (n, g)
  | d + 1, e, n, g => F1 k d (e + 1) (n + bc (g 1 k e &&& (g 2 k e ^^^ (-1)))) (gu g 2 k e (g 1 k e))
theorem l_1 (k : Nat) : ∀ (d e : Nat) (n : Int32) (g : mG), e + d = 10 → av_run 1 4 [some (.inr (.inr (some (26, k)))), some (.inl n), some (.inl (nI e))] [] (mm N L c s x o g) = some (.inl (some (.inl (F1 k d e n g).1)), mm N L c s x o (F1 k d e n g).2) := by
  intro d
  induction d with
  | zero =>
    intro e n g he
    have h1 : ((10 : Int32) ≤ nI e) = (10 ≤ e) := iI_le (a := 10) (by omega) (by omega)
    have h2 : (10 ≤ e) = True := eq_true (by omega)
    rw [s_1_4]
    simp only [s_1_0, s_1_1, s_1_2, s_1_3, s_1_5, s_1_7, s_1_10, s_1_11, s_1_12, s_1_15, s_1_16, s_1_17, s_1_18, s_1_21, s_1_22, s_1_23, s_1_24, s_1_25, s_1_26, s_1_29, s_1_30, s_1_31, s_1_32, s_1_35, s_1_36, s_1_37, s_1_40, s_1_41, s_1_42, s_1_43, s_1_46, s_1_49, s_1_50, ctc_1, kd_0, kd_1, kd_2, kd_3, kd_4, kd_5, kd_6, kd_7, kd_8, kd_9, kd_10, kd_11, kd_12, kd_13, kd_14, kd_15, kd_16, kd_17, kd_18, kd_19, kd_20, kd_21, kd_22, kd_23, kd_24, kd_25, kd_26, kd_27, kd_28, kd_29, kd_30, kd_31, kd_32, kd_33, kd_34, kd_35, kd_36, kd_37, kd_38, kd_39, kd_40, kd_41, kd_42, kd_43, kd_44, kd_45, kd_46, kd_47, kd_48, kd_49, kd_50, kd_51, kd_52, kd_53, kd_54, kd_55, kd_56, kd_57, kd_58, kd_59, kd_60, kd_61, kd_62, kd_63, kd_64, kd_65, kd_66, v_0, v_1, v_2, v_3, v_4, v_5, v_7_0, v_7_1, v_9, v_10, v_11, v_12, v_13, v_14, v_15, v_16, v_17, v_20_0, v_20_1, v_20_2, v_22, v_23_0, v_23_1, v_23_2, v_23_3, v_24_0, v_26_0, v_26_1, v_28_0, v_28_1, v_28_2, v_28_3, v_28_4, v_28_5, v_28_6, v_29, v_36, v_37, v_38, v_39, v_40, v_41, v_42, v_43, v_44, v_45, v_46, v_47, v_48, v_49, v_50, v_51, v_52, v_53, v_54, v_55, v_56, v_57, v_58, v_59, v_60, v_61, v_62, v_63, v_64_0, v_64_1, v_64_2, v_65_0, v_65_1, v_65_2, v_65_3, v_65_4, v_65_5, v_65_6, v_65_7, v_65_8, v_65_14, v_65_37, v_26_2, v_26_3, v_28_7, v_28_8, v_28_9, v_28_10, v_7_2, v_7_3, v_7_4, v_20_3, v_20_4, v_20_5, v_24_1, v_24_2, v_24_3, v_24_4, v_23_4, v_23_5, v_8_0, v_21_0, v_64_3, v_64_4, v_64_5, v_64_6, v_64_7, v_65_9, v_65_10, v_65_11, v_65_12, v_65_13, v_65_15, v_65_16, v_65_17, v_65_18, v_65_19, v_65_20, v_65_21, v_65_22, v_65_23, v_65_24, v_65_25, v_65_26, v_65_27, v_65_28, v_65_29, v_65_30, v_65_31, v_65_32, v_65_33, v_65_34, v_65_35, v_65_36, v_65_38, v_6, v_18, v_19, v_25, v_27, v_66, n_0, n_25, n_1, n_2, n_3, n_4, n_5, n_6, n_9, n_10, n_11, n_12, n_13, n_14, n_15, n_16, n_17, n_18, n_19, n_22, n_27, n_29, n_66, n_36, n_37, n_38, n_39, n_40, n_41, n_42, n_43, n_44, n_45, n_46, n_47, n_48, n_49, n_50, n_51, n_52, n_53, n_54, n_55, n_56, n_57, n_58, n_59, n_60, n_61, n_62, n_63, mi_0, mi_1, mi_2, mi_3, mi_4, mi_5, mi_7_0, mi_7_1, mi_9, mi_10, mi_11, mi_12, mi_13, mi_14, mi_15, mi_16, mi_17, mi_20_0, mi_20_1, mi_20_2, mi_22, mi_23_0, mi_23_1, mi_23_2, mi_23_3, mi_24_0, mi_26_0, mi_26_1, mi_28_0, mi_28_1, mi_28_2, mi_28_3, mi_28_4, mi_28_5, mi_28_6, mi_29, mi_36, mi_37, mi_38, mi_39, mi_40, mi_41, mi_42, mi_43, mi_44, mi_45, mi_46, mi_47, mi_48, mi_49, mi_50, mi_51, mi_52, mi_53, mi_54, mi_55, mi_56, mi_57, mi_58, mi_59, mi_60, mi_61, mi_62, mi_63, mi_64_0, mi_64_1, mi_64_2, mi_65_0, mi_65_1, mi_65_2, mi_65_3, mi_65_4, mi_65_5, mi_65_6, mi_65_7, mi_65_8, mi_65_14, mi_65_37, mm_out, wt_0, wt_1, wt_2, wt_3, isI_1, isL_1, isZ_1, av_bind_ret, av_bind_thr, Option.toList_some, Option.toList_none, List.cons_append, List.nil_append, ↓reduceIte, Nat.reduceAdd, Nat.reduceLeDiff, Nat.reduceLT, Nat.reduceEqDiff, and_self, true_and, and_true, or_true, true_or, or_false, false_or, w_0, w_1, w_2, w_3, w_4, w_5, w_7_0, w_7_1, w_9, w_10, w_11, w_12, w_13, w_14, w_15, w_16, w_17, w_20_0, w_20_1, w_20_2, w_22, w_23_0, w_23_1, w_23_2, w_23_3, w_24_0, w_26_0, w_26_1, w_28_0, w_28_1, w_28_2, w_28_3, w_28_4, w_28_5, w_28_6, w_29, w_36, w_37, w_38, w_39, w_40, w_41, w_42, w_43, w_44, w_45, w_46, w_47, w_48, w_49, w_50, w_51, w_52, w_53, w_54, w_55, w_56, w_57, w_58, w_59, w_60, w_61, w_62, w_63, w_64_0, w_64_1, w_64_2, w_65_0, w_65_1, w_65_2, w_65_3, w_65_4, w_65_5, w_65_6, w_65_7, w_65_8, w_65_14, w_65_37, h1, h2]
    rfl
  | succ d ih =>
    intro e n g he
    have h1 : ((10 : Int32) ≤ nI e) = (10 ≤ e) := iI_le (a := 10) (by omega) (by omega)
    have h2 : (10 ≤ e) = False := eq_false (by omega)
    have h3 : av_outD (nI e) 10 = false := ix (by omega) (by omega)
    have h4 : (nI e).toNatClampNeg = e := tn (by omega)
    rw [s_1_4]
    simp only [s_1_0, s_1_1, s_1_2, s_1_3, s_1_5, s_1_7, s_1_10, s_1_11, s_1_12, s_1_15, s_1_16, s_1_17, s_1_18, s_1_21, s_1_22, s_1_23, s_1_24, s_1_25, s_1_26, s_1_29, s_1_30, s_1_31, s_1_32, s_1_35, s_1_36, s_1_37, s_1_40, s_1_41, s_1_42, s_1_43, s_1_46, s_1_49, s_1_50, ctc_1, kd_0, kd_1, kd_2, kd_3, kd_4, kd_5, kd_6, kd_7, kd_8, kd_9, kd_10, kd_11, kd_12, kd_13, kd_14, kd_15, kd_16, kd_17, kd_18, kd_19, kd_20, kd_21, kd_22, kd_23, kd_24, kd_25, kd_26, kd_27, kd_28, kd_29, kd_30, kd_31, kd_32, kd_33, kd_34, kd_35, kd_36, kd_37, kd_38, kd_39, kd_40, kd_41, kd_42, kd_43, kd_44, kd_45, kd_46, kd_47, kd_48, kd_49, kd_50, kd_51, kd_52, kd_53, kd_54, kd_55, kd_56, kd_57, kd_58, kd_59, kd_60, kd_61, kd_62, kd_63, kd_64, kd_65, kd_66, v_0, v_1, v_2, v_3, v_4, v_5, v_7_0, v_7_1, v_9, v_10, v_11, v_12, v_13, v_14, v_15, v_16, v_17, v_20_0, v_20_1, v_20_2, v_22, v_23_0, v_23_1, v_23_2, v_23_3, v_24_0, v_26_0, v_26_1, v_28_0, v_28_1, v_28_2, v_28_3, v_28_4, v_28_5, v_28_6, v_29, v_36, v_37, v_38, v_39, v_40, v_41, v_42, v_43, v_44, v_45, v_46, v_47, v_48, v_49, v_50, v_51, v_52, v_53, v_54, v_55, v_56, v_57, v_58, v_59, v_60, v_61, v_62, v_63, v_64_0, v_64_1, v_64_2, v_65_0, v_65_1, v_65_2, v_65_3, v_65_4, v_65_5, v_65_6, v_65_7, v_65_8, v_65_14, v_65_37, v_26_2, v_26_3, v_28_7, v_28_8, v_28_9, v_28_10, v_7_2, v_7_3, v_7_4, v_20_3, v_20_4, v_20_5, v_24_1, v_24_2, v_24_3, v_24_4, v_23_4, v_23_5, v_8_0, v_21_0, v_64_3, v_64_4, v_64_5, v_64_6, v_64_7, v_65_9, v_65_10, v_65_11, v_65_12, v_65_13, v_65_15, v_65_16, v_65_17, v_65_18, v_65_19, v_65_20, v_65_21, v_65_22, v_65_23, v_65_24, v_65_25, v_65_26, v_65_27, v_65_28, v_65_29, v_65_30, v_65_31, v_65_32, v_65_33, v_65_34, v_65_35, v_65_36, v_65_38, v_6, v_18, v_19, v_25, v_27, v_66, n_0, n_25, n_1, n_2, n_3, n_4, n_5, n_6, n_9, n_10, n_11, n_12, n_13, n_14, n_15, n_16, n_17, n_18, n_19, n_22, n_27, n_29, n_66, n_36, n_37, n_38, n_39, n_40, n_41, n_42, n_43, n_44, n_45, n_46, n_47, n_48, n_49, n_50, n_51, n_52, n_53, n_54, n_55, n_56, n_57, n_58, n_59, n_60, n_61, n_62, n_63, mi_0, mi_1, mi_2, mi_3, mi_4, mi_5, mi_7_0, mi_7_1, mi_9, mi_10, mi_11, mi_12, mi_13, mi_14, mi_15, mi_16, mi_17, mi_20_0, mi_20_1, mi_20_2, mi_22, mi_23_0, mi_23_1, mi_23_2, mi_23_3, mi_24_0, mi_26_0, mi_26_1, mi_28_0, mi_28_1, mi_28_2, mi_28_3, mi_28_4, mi_28_5, mi_28_6, mi_29, mi_36, mi_37, mi_38, mi_39, mi_40, mi_41, mi_42, mi_43, mi_44, mi_45, mi_46, mi_47, mi_48, mi_49, mi_50, mi_51, mi_52, mi_53, mi_54, mi_55, mi_56, mi_57, mi_58, mi_59, mi_60, mi_61, mi_62, mi_63, mi_64_0, mi_64_1, mi_64_2, mi_65_0, mi_65_1, mi_65_2, mi_65_3, mi_65_4, mi_65_5, mi_65_6, mi_65_7, mi_65_8, mi_65_14, mi_65_37, mm_out, wt_0, wt_1, wt_2, wt_3, isI_1, isL_1, isZ_1, av_bind_ret, av_bind_thr, Option.toList_some, Option.toList_none, List.cons_append, List.nil_append, ↓reduceIte, Nat.reduceAdd, Nat.reduceLeDiff, Nat.reduceLT, Nat.reduceEqDiff, and_self, true_and, and_true, or_true, true_or, or_false, false_or, w_0, w_1, w_2, w_3, w_4, w_5, w_7_0, w_7_1, w_9, w_10, w_11, w_12, w_13, w_14, w_15, w_16, w_17, w_20_0, w_20_1, w_20_2, w_22, w_23_0, w_23_1, w_23_2, w_23_3, w_24_0, w_26_0, w_26_1, w_28_0, w_28_1, w_28_2, w_28_3, w_28_4, w_28_5, w_28_6, w_29, w_36, w_37, w_38, w_39, w_40, w_41, w_42, w_43, w_44, w_45, w_46, w_47, w_48, w_49, w_50, w_51, w_52, w_53, w_54, w_55, w_56, w_57, w_58, w_59, w_60, w_61, w_62, w_63, w_64_0, w_64_1, w_64_2, w_65_0, w_65_1, w_65_2, w_65_3, w_65_4, w_65_5, w_65_6, w_65_7, w_65_8, w_65_14, w_65_37, h1, h2, h3, h4, m_167, iI_s]
    rw [ih (e + 1) _ _ (by omega)]
    rfl
theorem m_1 (k : Nat) (g : mG) : av_cal 1 [.inr (.inr (some (26, k)))] (mm N L c s x o g) = some (.inl (some (.inl (F1 k 10 0 0 g).1)), mm N L c s x o (F1 k 10 0 0 g).2) := by
  show av_run 1 0 [some (.inr (.inr (some (26, k)))), none, none] [] _ = _
  simp only [s_1_0, s_1_1, s_1_2, s_1_3]
  exact l_1 N L c s x o k 10 0 0 g rfl
end M1
