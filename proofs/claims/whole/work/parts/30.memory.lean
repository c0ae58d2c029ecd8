/-! the memory after the constructors: one function g holds every int; by a program of mine -/
def mi (f k : Nat) : Bool := match f with
  | 0 => true
  | 1 => true
  | 2 => true
  | 3 => true
  | 4 => true
  | 5 => true
  | 7 => k == 0 || k == 1
  | 9 => true
  | 10 => true
  | 11 => true
  | 12 => true
  | 13 => true
  | 14 => true
  | 15 => true
  | 16 => true
  | 17 => true
  | 20 => k == 0 || k == 1 || k == 2
  | 22 => true
  | 23 => k == 0 || k == 1 || k == 2 || k == 3
  | 24 => k == 0
  | 26 => k == 0 || k == 1
  | 28 => k == 0 || k == 1 || k == 2 || k == 3 || k == 4 || k == 5 || k == 6
  | 29 => true
  | 36 => true
  | 37 => true
  | 38 => true
  | 39 => true
  | 40 => true
  | 41 => true
  | 42 => true
  | 43 => true
  | 44 => true
  | 45 => true
  | 46 => true
  | 47 => true
  | 48 => true
  | 49 => true
  | 50 => true
  | 51 => true
  | 52 => true
  | 53 => true
  | 54 => true
  | 55 => true
  | 56 => true
  | 57 => true
  | 58 => true
  | 59 => true
  | 60 => true
  | 61 => true
  | 62 => true
  | 63 => true
  | 64 => k == 0 || k == 1 || k == 2
  | 65 => k == 0 || k == 1 || k == 2 || k == 3 || k == 4 || k == 5 || k == 6 || k == 7 || k == 8 || k == 14 || k == 37
  | _ => false
def mr (N : Nat) (o : Int64) (f i k : Nat) : av_V := match f with
  | 6 => if k < 2 then .inr (.inr (some (7, (2 * i + k)))) else .inr (.inr none)
  | 7 => match k with
    | 2 => .inr (.inr (some (8, i)))
    | 3 => .inr (.inr (some (9, i)))
    | 4 => .inr (.inr (some (10, i)))
    | _ => .inr (.inr none)
  | 8 => match k with
    | 0 => .inr (.inr (some (22, (2 + i))))
    | _ => .inr (.inr none)
  | 18 => if k < 10 then .inr (.inr (some (20, k))) else .inr (.inr none)
  | 19 => if k < 2 then .inr (.inr (some (21, k))) else .inr (.inr none)
  | 20 => match k with
    | 3 => .inr (.inr (some (11, i)))
    | 4 => .inr (.inr (some (12, i)))
    | 5 => .inr (.inr (some (13, i)))
    | _ => .inr (.inr none)
  | 21 => match k with
    | 0 => .inr (.inr (some (22, i)))
    | _ => .inr (.inr none)
  | 23 => match k with
    | 4 => .inr (.inr (some (18, 0)))
    | 5 => .inr (.inr (some (19, 0)))
    | _ => .inr (.inr none)
  | 24 => match k with
    | 1 => .inr (.inr (some (14, 0)))
    | 2 => .inr (.inr (some (15, 0)))
    | 3 => .inr (.inr (some (16, 0)))
    | 4 => .inr (.inr (some (17, 0)))
    | _ => .inr (.inr none)
  | 25 => if k < N then .inr (.inr (some (26, k))) else .inr (.inr none)
  | 26 => match k with
    | 2 => .inr (.inr (some (1, i)))
    | 3 => .inr (.inr (some (2, i)))
    | _ => .inr (.inr none)
  | 27 => if k < 3 then .inr (.inr (some (28, k))) else .inr (.inr none)
  | 28 => match k with
    | 7 => .inr (.inr (some (3, i)))
    | 8 => .inr (.inr (some (4, i)))
    | 9 => .inr (.inr (some (5, i)))
    | 10 => .inr (.inr (some (6, i)))
    | _ => .inr (.inr none)
  | 64 => match k with
    | 3 => .inr (.inr (some (23, 0)))
    | 4 => .inr (.inr (some (24, 0)))
    | 5 => .inr (.inr (some (25, 0)))
    | 6 => .inr (.inr (some (27, 0)))
    | 7 => .inr (.inr (some (29, 0)))
    | _ => .inr (.inr none)
  | 65 => match k with
    | 9 => .inr (.inr (some (36, 0)))
    | 10 => .inr (.inr (some (37, 0)))
    | 11 => .inr (.inr (some (38, 0)))
    | 12 => .inr (.inr (some (39, 0)))
    | 13 => .inr (.inr (some (40, 0)))
    | 15 => .inr (.inr (some (41, 0)))
    | 16 => .inr (.inr (some (42, 0)))
    | 17 => .inr (.inr (some (43, 0)))
    | 18 => .inr (.inr (some (44, 0)))
    | 19 => .inr (.inr (some (45, 0)))
    | 20 => .inr (.inr (some (46, 0)))
    | 21 => .inr (.inr (some (47, 0)))
    | 22 => .inr (.inr (some (48, 0)))
    | 23 => .inr (.inr (some (49, 0)))
    | 24 => .inr (.inr (some (50, 0)))
    | 25 => .inr (.inr (some (51, 0)))
    | 26 => .inr (.inr (some (52, 0)))
    | 27 => .inr (.inr (some (53, 0)))
    | 28 => .inr (.inr (some (54, 0)))
    | 29 => .inr (.inr (some (55, 0)))
    | 30 => .inr (.inr (some (56, 0)))
    | 31 => .inr (.inr (some (57, 0)))
    | 32 => .inr (.inr (some (58, 0)))
    | 33 => .inr (.inr (some (59, 0)))
    | 34 => .inr (.inr (some (60, 0)))
    | 35 => .inr (.inr (some (61, 0)))
    | 36 => .inr (.inr (some (62, 0)))
    | 38 => .inr (.inr (some (63, 0)))
    | _ => .inr (.inr none)
  | 66 => if i = 0 ∧ k = 0 then .inr (.inl o) else .inr (.inl 0)
  | _ => .inr (.inr none)
def mn (N : Nat) (x : Nat → Nat) (f : Nat) : Nat := match f with
  | 0 => 1
  | 1 => N
  | 2 => N
  | 3 => 3
  | 4 => 3
  | 5 => 3
  | 6 => 3
  | 7 => 6
  | 8 => 6
  | 9 => 6
  | 10 => 6
  | 11 => 10
  | 12 => 10
  | 13 => 10
  | 14 => 1
  | 15 => 1
  | 16 => 1
  | 17 => 1
  | 18 => 1
  | 19 => 1
  | 20 => 10
  | 21 => 2
  | 22 => 8
  | 23 => 1
  | 24 => 1
  | 25 => 1
  | 26 => N
  | 27 => 1
  | 28 => 3
  | 29 => 1
  | 30 => x 30
  | 31 => x 31
  | 32 => x 32
  | 33 => x 33
  | 34 => x 34
  | 35 => x 35
  | 36 => 1
  | 37 => 1
  | 38 => 1
  | 39 => 1
  | 40 => 1
  | 41 => 1
  | 42 => 1
  | 43 => 1
  | 44 => 1
  | 45 => 1
  | 46 => 1
  | 47 => 1
  | 48 => 1
  | 49 => 1
  | 50 => 1
  | 51 => 1
  | 52 => 1
  | 53 => 1
  | 54 => 1
  | 55 => 1
  | 56 => 1
  | 57 => 1
  | 58 => 1
  | 59 => 1
  | 60 => 1
  | 61 => 1
  | 62 => 1
  | 63 => 1
  | 64 => 1
  | 65 => 1
  | 66 => 1
  | _ => 0
def mlen (N L f : Nat) : Nat := match f with
  | 0 => L
  | 1 => 10
  | 2 => 10
  | 3 => 6
  | 4 => 6
  | 5 => 6
  | 6 => 2
  | 9 => 4
  | 10 => 80
  | 11 => 4
  | 12 => 6
  | 13 => 4
  | 14 => 61
  | 15 => 61
  | 16 => 61
  | 17 => 80
  | 18 => 10
  | 19 => 2
  | 22 => 10
  | 25 => N
  | 27 => 3
  | 29 => 4
  | 36 => 40
  | 37 => 10
  | 38 => 10
  | 39 => 40
  | 40 => 160
  | 41 => 61
  | 42 => 61
  | 43 => 61
  | 44 => 80
  | 45 => 4
  | 46 => 6
  | 47 => 480
  | 48 => 480
  | 49 => 60
  | 50 => 3
  | 51 => 3
  | 52 => 3
  | 53 => 3
  | 54 => 3
  | 55 => 18
  | 56 => 3
  | 57 => 18
  | 58 => 18
  | 59 => 480
  | 60 => 480
  | 61 => 24
  | 62 => 6
  | 63 => 70
  | 66 => 1
  | _ => 0
abbrev mG : Type := Nat → Nat → Nat → Int32
def gu (g : mG) (f i k : Nat) (v : Int32) : mG := fun f' i' k' => if f' = f ∧ i' = i ∧ k' = k then v else g f' i' k'
def mm (N L c s : Nat) (x : Nat → Nat) (o : Int64) (g : mG) : av_M := ((c, s), (mn N x, ((fun f _ => mlen N L f), (fun f i k => if mi f k = true then .inl (g f i k) else mr N o f i k))))
section MM
variable (N L c s : Nat) (x : Nat → Nat) (o : Int64) (g : mG)
theorem mm_wr (f i k : Nat) (v : Int32) (h : mi f k = true) : av_wr (mm N L c s x o g) f i k (.inl v) = mm N L c s x o (gu g f i k v) := by
  unfold av_wr mm gu
  refine congrArg (fun z => ((c, s), (mn N x, ((fun f _ => mlen N L f), z)))) ?_
  funext f' i' k'
  dsimp only
  by_cases hq : f' = f ∧ i' = i ∧ k' = k
  · obtain ⟨rfl, rfl, rfl⟩ := hq
    rw [if_pos ⟨rfl, rfl, rfl⟩, if_pos h, if_pos ⟨rfl, rfl, rfl⟩]
  · rw [if_neg hq, if_neg hq]
theorem mm_out (v : Int64) : av_wr (mm N L c s x o g) 66 0 0 (.inr (.inl v)) = mm N L c s x v g := by
  unfold av_wr mm
  refine congrArg (fun z => ((c, s), (mn N x, ((fun f _ => mlen N L f), z)))) ?_
  funext f' i' k'
  dsimp only
  by_cases h66 : f' = 66
  · subst h66
    simp only [mi, mr, true_and]
    by_cases hq : i' = 0 ∧ k' = 0
    · simp [hq]
    · simp [hq]
  · have e1 : mr N o f' i' k' = mr N v f' i' k' := by
      unfold mr
      split <;> first | rfl | (exact absurd rfl h66)
    rw [if_neg (fun q => h66 q.1), e1]
def mx (x : Nat → Nat) (f : Nat) : Nat → Nat := fun f' => if f' = f then x f + 1 else x f'
theorem mm_exn (f : Nat) (h : 30 ≤ f ∧ f ≤ 35) : av_mk (mm N L c s x o g) f 0 6 (fun _ => .inr (.inr none)) = mm N L (c + 1) (s + 6) (mx x f) o g := by
  have hf : f = 30 ∨ f = 31 ∨ f = 32 ∨ f = 33 ∨ f = 34 ∨ f = 35 := by omega
  have e1 : (fun f' => if f' = f then mn N x f + 1 else mn N x f') = mn N (mx x f) := by
    funext f'
    by_cases h' : f' = f
    · subst h'
      rw [if_pos rfl]
      rcases hf with rfl | rfl | rfl | rfl | rfl | rfl <;> simp [mn, mx]
    · rw [if_neg h']
      unfold mn mx
      split <;> first | rfl | rw [if_neg h']
  have e2 : ∀ i', mlen N L f = 0 ∧ ∀ k', mi f k' = false ∧ mr N o f i' k' = .inr (.inr none) := by
    rcases hf with rfl | rfl | rfl | rfl | rfl | rfl <;> exact fun i' => ⟨rfl, fun k' => ⟨rfl, rfl⟩⟩
  unfold av_mk mm
  dsimp only
  rw [e1]
  have e3 : ∀ (a a' : Nat → Nat → Nat) (b b' : Nat → Nat → Nat → av_V), a = a' → b = b' → (((c + 1, s + 6), (mn N (mx x f), (a, b))) : av_M) = ((c + 1, s + 6), (mn N (mx x f), (a', b'))) := fun a a' b b' h1 h2 => by rw [h1, h2]
  refine e3 _ _ _ _ ?_ ?_
  · funext f' i'
    split
    · rename_i hq
      rw [hq.1, (e2 i').1]
    · rfl
  · funext f' i' k'
    split
    · rename_i hq
      rw [hq.1, ((e2 i').2 k').1, ((e2 i').2 k').2]
      rfl
    · rfl
theorem mm_cnt (f : Nat) : av_cnt (mm N L c s x o g) f = mn N x f := rfl
theorem gu_same (f i k : Nat) (v : Int32) : gu g f i k v f i k = v := if_pos ⟨rfl, rfl, rfl⟩
theorem gu_ne (f i k f' i' k' : Nat) (v : Int32) (h : ¬ (f' = f ∧ i' = i ∧ k' = k)) : gu g f i k v f' i' k' = g f' i' k' := if_neg h
theorem v_0 (i k : Nat) : av_val (mm N L c s x o g) 0 i k = .inl (g 0 i k) := rfl
theorem v_1 (i k : Nat) : av_val (mm N L c s x o g) 1 i k = .inl (g 1 i k) := rfl
theorem v_2 (i k : Nat) : av_val (mm N L c s x o g) 2 i k = .inl (g 2 i k) := rfl
theorem v_3 (i k : Nat) : av_val (mm N L c s x o g) 3 i k = .inl (g 3 i k) := rfl
theorem v_4 (i k : Nat) : av_val (mm N L c s x o g) 4 i k = .inl (g 4 i k) := rfl
theorem v_5 (i k : Nat) : av_val (mm N L c s x o g) 5 i k = .inl (g 5 i k) := rfl
theorem v_7_0 (i : Nat) : av_val (mm N L c s x o g) 7 i 0 = .inl (g 7 i 0) := rfl
theorem v_7_1 (i : Nat) : av_val (mm N L c s x o g) 7 i 1 = .inl (g 7 i 1) := rfl
theorem v_9 (i k : Nat) : av_val (mm N L c s x o g) 9 i k = .inl (g 9 i k) := rfl
theorem v_10 (i k : Nat) : av_val (mm N L c s x o g) 10 i k = .inl (g 10 i k) := rfl
theorem v_11 (i k : Nat) : av_val (mm N L c s x o g) 11 i k = .inl (g 11 i k) := rfl
theorem v_12 (i k : Nat) : av_val (mm N L c s x o g) 12 i k = .inl (g 12 i k) := rfl
theorem v_13 (i k : Nat) : av_val (mm N L c s x o g) 13 i k = .inl (g 13 i k) := rfl
theorem v_14 (i k : Nat) : av_val (mm N L c s x o g) 14 i k = .inl (g 14 i k) := rfl
theorem v_15 (i k : Nat) : av_val (mm N L c s x o g) 15 i k = .inl (g 15 i k) := rfl
theorem v_16 (i k : Nat) : av_val (mm N L c s x o g) 16 i k = .inl (g 16 i k) := rfl
theorem v_17 (i k : Nat) : av_val (mm N L c s x o g) 17 i k = .inl (g 17 i k) := rfl
theorem v_20_0 (i : Nat) : av_val (mm N L c s x o g) 20 i 0 = .inl (g 20 i 0) := rfl
theorem v_20_1 (i : Nat) : av_val (mm N L c s x o g) 20 i 1 = .inl (g 20 i 1) := rfl
theorem v_20_2 (i : Nat) : av_val (mm N L c s x o g) 20 i 2 = .inl (g 20 i 2) := rfl
theorem v_22 (i k : Nat) : av_val (mm N L c s x o g) 22 i k = .inl (g 22 i k) := rfl
theorem v_23_0 (i : Nat) : av_val (mm N L c s x o g) 23 i 0 = .inl (g 23 i 0) := rfl
theorem v_23_1 (i : Nat) : av_val (mm N L c s x o g) 23 i 1 = .inl (g 23 i 1) := rfl
theorem v_23_2 (i : Nat) : av_val (mm N L c s x o g) 23 i 2 = .inl (g 23 i 2) := rfl
theorem v_23_3 (i : Nat) : av_val (mm N L c s x o g) 23 i 3 = .inl (g 23 i 3) := rfl
theorem v_24_0 (i : Nat) : av_val (mm N L c s x o g) 24 i 0 = .inl (g 24 i 0) := rfl
theorem v_26_0 (i : Nat) : av_val (mm N L c s x o g) 26 i 0 = .inl (g 26 i 0) := rfl
theorem v_26_1 (i : Nat) : av_val (mm N L c s x o g) 26 i 1 = .inl (g 26 i 1) := rfl
theorem v_28_0 (i : Nat) : av_val (mm N L c s x o g) 28 i 0 = .inl (g 28 i 0) := rfl
theorem v_28_1 (i : Nat) : av_val (mm N L c s x o g) 28 i 1 = .inl (g 28 i 1) := rfl
theorem v_28_2 (i : Nat) : av_val (mm N L c s x o g) 28 i 2 = .inl (g 28 i 2) := rfl
theorem v_28_3 (i : Nat) : av_val (mm N L c s x o g) 28 i 3 = .inl (g 28 i 3) := rfl
theorem v_28_4 (i : Nat) : av_val (mm N L c s x o g) 28 i 4 = .inl (g 28 i 4) := rfl
theorem v_28_5 (i : Nat) : av_val (mm N L c s x o g) 28 i 5 = .inl (g 28 i 5) := rfl
theorem v_28_6 (i : Nat) : av_val (mm N L c s x o g) 28 i 6 = .inl (g 28 i 6) := rfl
theorem v_29 (i k : Nat) : av_val (mm N L c s x o g) 29 i k = .inl (g 29 i k) := rfl
theorem v_36 (i k : Nat) : av_val (mm N L c s x o g) 36 i k = .inl (g 36 i k) := rfl
theorem v_37 (i k : Nat) : av_val (mm N L c s x o g) 37 i k = .inl (g 37 i k) := rfl
theorem v_38 (i k : Nat) : av_val (mm N L c s x o g) 38 i k = .inl (g 38 i k) := rfl
theorem v_39 (i k : Nat) : av_val (mm N L c s x o g) 39 i k = .inl (g 39 i k) := rfl
theorem v_40 (i k : Nat) : av_val (mm N L c s x o g) 40 i k = .inl (g 40 i k) := rfl
theorem v_41 (i k : Nat) : av_val (mm N L c s x o g) 41 i k = .inl (g 41 i k) := rfl
theorem v_42 (i k : Nat) : av_val (mm N L c s x o g) 42 i k = .inl (g 42 i k) := rfl
theorem v_43 (i k : Nat) : av_val (mm N L c s x o g) 43 i k = .inl (g 43 i k) := rfl
theorem v_44 (i k : Nat) : av_val (mm N L c s x o g) 44 i k = .inl (g 44 i k) := rfl
theorem v_45 (i k : Nat) : av_val (mm N L c s x o g) 45 i k = .inl (g 45 i k) := rfl
theorem v_46 (i k : Nat) : av_val (mm N L c s x o g) 46 i k = .inl (g 46 i k) := rfl
theorem v_47 (i k : Nat) : av_val (mm N L c s x o g) 47 i k = .inl (g 47 i k) := rfl
theorem v_48 (i k : Nat) : av_val (mm N L c s x o g) 48 i k = .inl (g 48 i k) := rfl
theorem v_49 (i k : Nat) : av_val (mm N L c s x o g) 49 i k = .inl (g 49 i k) := rfl
theorem v_50 (i k : Nat) : av_val (mm N L c s x o g) 50 i k = .inl (g 50 i k) := rfl
theorem v_51 (i k : Nat) : av_val (mm N L c s x o g) 51 i k = .inl (g 51 i k) := rfl
theorem v_52 (i k : Nat) : av_val (mm N L c s x o g) 52 i k = .inl (g 52 i k) := rfl
theorem v_53 (i k : Nat) : av_val (mm N L c s x o g) 53 i k = .inl (g 53 i k) := rfl
theorem v_54 (i k : Nat) : av_val (mm N L c s x o g) 54 i k = .inl (g 54 i k) := rfl
theorem v_55 (i k : Nat) : av_val (mm N L c s x o g) 55 i k = .inl (g 55 i k) := rfl
theorem v_56 (i k : Nat) : av_val (mm N L c s x o g) 56 i k = .inl (g 56 i k) := rfl
theorem v_57 (i k : Nat) : av_val (mm N L c s x o g) 57 i k = .inl (g 57 i k) := rfl
theorem v_58 (i k : Nat) : av_val (mm N L c s x o g) 58 i k = .inl (g 58 i k) := rfl
theorem v_59 (i k : Nat) : av_val (mm N L c s x o g) 59 i k = .inl (g 59 i k) := rfl
theorem v_60 (i k : Nat) : av_val (mm N L c s x o g) 60 i k = .inl (g 60 i k) := rfl
theorem v_61 (i k : Nat) : av_val (mm N L c s x o g) 61 i k = .inl (g 61 i k) := rfl
theorem v_62 (i k : Nat) : av_val (mm N L c s x o g) 62 i k = .inl (g 62 i k) := rfl
theorem v_63 (i k : Nat) : av_val (mm N L c s x o g) 63 i k = .inl (g 63 i k) := rfl
theorem v_64_0 (i : Nat) : av_val (mm N L c s x o g) 64 i 0 = .inl (g 64 i 0) := rfl
theorem v_64_1 (i : Nat) : av_val (mm N L c s x o g) 64 i 1 = .inl (g 64 i 1) := rfl
theorem v_64_2 (i : Nat) : av_val (mm N L c s x o g) 64 i 2 = .inl (g 64 i 2) := rfl
theorem v_65_0 (i : Nat) : av_val (mm N L c s x o g) 65 i 0 = .inl (g 65 i 0) := rfl
theorem v_65_1 (i : Nat) : av_val (mm N L c s x o g) 65 i 1 = .inl (g 65 i 1) := rfl
theorem v_65_2 (i : Nat) : av_val (mm N L c s x o g) 65 i 2 = .inl (g 65 i 2) := rfl
theorem v_65_3 (i : Nat) : av_val (mm N L c s x o g) 65 i 3 = .inl (g 65 i 3) := rfl
theorem v_65_4 (i : Nat) : av_val (mm N L c s x o g) 65 i 4 = .inl (g 65 i 4) := rfl
theorem v_65_5 (i : Nat) : av_val (mm N L c s x o g) 65 i 5 = .inl (g 65 i 5) := rfl
theorem v_65_6 (i : Nat) : av_val (mm N L c s x o g) 65 i 6 = .inl (g 65 i 6) := rfl
theorem v_65_7 (i : Nat) : av_val (mm N L c s x o g) 65 i 7 = .inl (g 65 i 7) := rfl
theorem v_65_8 (i : Nat) : av_val (mm N L c s x o g) 65 i 8 = .inl (g 65 i 8) := rfl
theorem v_65_14 (i : Nat) : av_val (mm N L c s x o g) 65 i 14 = .inl (g 65 i 14) := rfl
theorem v_65_37 (i : Nat) : av_val (mm N L c s x o g) 65 i 37 = .inl (g 65 i 37) := rfl
theorem v_26_2 (i : Nat) : av_val (mm N L c s x o g) 26 i 2 = .inr (.inr (some (1, i))) := rfl
theorem v_26_3 (i : Nat) : av_val (mm N L c s x o g) 26 i 3 = .inr (.inr (some (2, i))) := rfl
theorem v_28_7 (i : Nat) : av_val (mm N L c s x o g) 28 i 7 = .inr (.inr (some (3, i))) := rfl
theorem v_28_8 (i : Nat) : av_val (mm N L c s x o g) 28 i 8 = .inr (.inr (some (4, i))) := rfl
theorem v_28_9 (i : Nat) : av_val (mm N L c s x o g) 28 i 9 = .inr (.inr (some (5, i))) := rfl
theorem v_28_10 (i : Nat) : av_val (mm N L c s x o g) 28 i 10 = .inr (.inr (some (6, i))) := rfl
theorem v_7_2 (i : Nat) : av_val (mm N L c s x o g) 7 i 2 = .inr (.inr (some (8, i))) := rfl
theorem v_7_3 (i : Nat) : av_val (mm N L c s x o g) 7 i 3 = .inr (.inr (some (9, i))) := rfl
theorem v_7_4 (i : Nat) : av_val (mm N L c s x o g) 7 i 4 = .inr (.inr (some (10, i))) := rfl
theorem v_20_3 (i : Nat) : av_val (mm N L c s x o g) 20 i 3 = .inr (.inr (some (11, i))) := rfl
theorem v_20_4 (i : Nat) : av_val (mm N L c s x o g) 20 i 4 = .inr (.inr (some (12, i))) := rfl
theorem v_20_5 (i : Nat) : av_val (mm N L c s x o g) 20 i 5 = .inr (.inr (some (13, i))) := rfl
theorem v_24_1 (i : Nat) : av_val (mm N L c s x o g) 24 i 1 = .inr (.inr (some (14, 0))) := rfl
theorem v_24_2 (i : Nat) : av_val (mm N L c s x o g) 24 i 2 = .inr (.inr (some (15, 0))) := rfl
theorem v_24_3 (i : Nat) : av_val (mm N L c s x o g) 24 i 3 = .inr (.inr (some (16, 0))) := rfl
theorem v_24_4 (i : Nat) : av_val (mm N L c s x o g) 24 i 4 = .inr (.inr (some (17, 0))) := rfl
theorem v_23_4 (i : Nat) : av_val (mm N L c s x o g) 23 i 4 = .inr (.inr (some (18, 0))) := rfl
theorem v_23_5 (i : Nat) : av_val (mm N L c s x o g) 23 i 5 = .inr (.inr (some (19, 0))) := rfl
theorem v_8_0 (i : Nat) : av_val (mm N L c s x o g) 8 i 0 = .inr (.inr (some (22, (2 + i)))) := rfl
theorem v_21_0 (i : Nat) : av_val (mm N L c s x o g) 21 i 0 = .inr (.inr (some (22, i))) := rfl
theorem v_64_3 (i : Nat) : av_val (mm N L c s x o g) 64 i 3 = .inr (.inr (some (23, 0))) := rfl
theorem v_64_4 (i : Nat) : av_val (mm N L c s x o g) 64 i 4 = .inr (.inr (some (24, 0))) := rfl
theorem v_64_5 (i : Nat) : av_val (mm N L c s x o g) 64 i 5 = .inr (.inr (some (25, 0))) := rfl
theorem v_64_6 (i : Nat) : av_val (mm N L c s x o g) 64 i 6 = .inr (.inr (some (27, 0))) := rfl
theorem v_64_7 (i : Nat) : av_val (mm N L c s x o g) 64 i 7 = .inr (.inr (some (29, 0))) := rfl
theorem v_65_9 (i : Nat) : av_val (mm N L c s x o g) 65 i 9 = .inr (.inr (some (36, 0))) := rfl
theorem v_65_10 (i : Nat) : av_val (mm N L c s x o g) 65 i 10 = .inr (.inr (some (37, 0))) := rfl
theorem v_65_11 (i : Nat) : av_val (mm N L c s x o g) 65 i 11 = .inr (.inr (some (38, 0))) := rfl
theorem v_65_12 (i : Nat) : av_val (mm N L c s x o g) 65 i 12 = .inr (.inr (some (39, 0))) := rfl
theorem v_65_13 (i : Nat) : av_val (mm N L c s x o g) 65 i 13 = .inr (.inr (some (40, 0))) := rfl
theorem v_65_15 (i : Nat) : av_val (mm N L c s x o g) 65 i 15 = .inr (.inr (some (41, 0))) := rfl
theorem v_65_16 (i : Nat) : av_val (mm N L c s x o g) 65 i 16 = .inr (.inr (some (42, 0))) := rfl
theorem v_65_17 (i : Nat) : av_val (mm N L c s x o g) 65 i 17 = .inr (.inr (some (43, 0))) := rfl
theorem v_65_18 (i : Nat) : av_val (mm N L c s x o g) 65 i 18 = .inr (.inr (some (44, 0))) := rfl
theorem v_65_19 (i : Nat) : av_val (mm N L c s x o g) 65 i 19 = .inr (.inr (some (45, 0))) := rfl
theorem v_65_20 (i : Nat) : av_val (mm N L c s x o g) 65 i 20 = .inr (.inr (some (46, 0))) := rfl
theorem v_65_21 (i : Nat) : av_val (mm N L c s x o g) 65 i 21 = .inr (.inr (some (47, 0))) := rfl
theorem v_65_22 (i : Nat) : av_val (mm N L c s x o g) 65 i 22 = .inr (.inr (some (48, 0))) := rfl
theorem v_65_23 (i : Nat) : av_val (mm N L c s x o g) 65 i 23 = .inr (.inr (some (49, 0))) := rfl
theorem v_65_24 (i : Nat) : av_val (mm N L c s x o g) 65 i 24 = .inr (.inr (some (50, 0))) := rfl
theorem v_65_25 (i : Nat) : av_val (mm N L c s x o g) 65 i 25 = .inr (.inr (some (51, 0))) := rfl
theorem v_65_26 (i : Nat) : av_val (mm N L c s x o g) 65 i 26 = .inr (.inr (some (52, 0))) := rfl
theorem v_65_27 (i : Nat) : av_val (mm N L c s x o g) 65 i 27 = .inr (.inr (some (53, 0))) := rfl
theorem v_65_28 (i : Nat) : av_val (mm N L c s x o g) 65 i 28 = .inr (.inr (some (54, 0))) := rfl
theorem v_65_29 (i : Nat) : av_val (mm N L c s x o g) 65 i 29 = .inr (.inr (some (55, 0))) := rfl
theorem v_65_30 (i : Nat) : av_val (mm N L c s x o g) 65 i 30 = .inr (.inr (some (56, 0))) := rfl
theorem v_65_31 (i : Nat) : av_val (mm N L c s x o g) 65 i 31 = .inr (.inr (some (57, 0))) := rfl
theorem v_65_32 (i : Nat) : av_val (mm N L c s x o g) 65 i 32 = .inr (.inr (some (58, 0))) := rfl
theorem v_65_33 (i : Nat) : av_val (mm N L c s x o g) 65 i 33 = .inr (.inr (some (59, 0))) := rfl
theorem v_65_34 (i : Nat) : av_val (mm N L c s x o g) 65 i 34 = .inr (.inr (some (60, 0))) := rfl
theorem v_65_35 (i : Nat) : av_val (mm N L c s x o g) 65 i 35 = .inr (.inr (some (61, 0))) := rfl
theorem v_65_36 (i : Nat) : av_val (mm N L c s x o g) 65 i 36 = .inr (.inr (some (62, 0))) := rfl
theorem v_65_38 (i : Nat) : av_val (mm N L c s x o g) 65 i 38 = .inr (.inr (some (63, 0))) := rfl
theorem v_6 (i k : Nat) (h : k < 2) : av_val (mm N L c s x o g) 6 i k = .inr (.inr (some (7, (2 * i + k)))) := if_pos h
theorem v_18 (i k : Nat) (h : k < 10) : av_val (mm N L c s x o g) 18 i k = .inr (.inr (some (20, k))) := if_pos h
theorem v_19 (i k : Nat) (h : k < 2) : av_val (mm N L c s x o g) 19 i k = .inr (.inr (some (21, k))) := if_pos h
theorem v_25 (i k : Nat) (h : k < N) : av_val (mm N L c s x o g) 25 i k = .inr (.inr (some (26, k))) := if_pos h
theorem v_27 (i k : Nat) (h : k < 3) : av_val (mm N L c s x o g) 27 i k = .inr (.inr (some (28, k))) := if_pos h
theorem v_66 : av_val (mm N L c s x o g) 66 0 0 = .inr (.inl o) := rfl
theorem n_0 (i : Nat) : av_len (mm N L c s x o g) 0 i = L := rfl
theorem n_1 (i : Nat) : av_len (mm N L c s x o g) 1 i = 10 := rfl
theorem n_2 (i : Nat) : av_len (mm N L c s x o g) 2 i = 10 := rfl
theorem n_3 (i : Nat) : av_len (mm N L c s x o g) 3 i = 6 := rfl
theorem n_4 (i : Nat) : av_len (mm N L c s x o g) 4 i = 6 := rfl
theorem n_5 (i : Nat) : av_len (mm N L c s x o g) 5 i = 6 := rfl
theorem n_6 (i : Nat) : av_len (mm N L c s x o g) 6 i = 2 := rfl
theorem n_9 (i : Nat) : av_len (mm N L c s x o g) 9 i = 4 := rfl
theorem n_10 (i : Nat) : av_len (mm N L c s x o g) 10 i = 80 := rfl
theorem n_11 (i : Nat) : av_len (mm N L c s x o g) 11 i = 4 := rfl
theorem n_12 (i : Nat) : av_len (mm N L c s x o g) 12 i = 6 := rfl
theorem n_13 (i : Nat) : av_len (mm N L c s x o g) 13 i = 4 := rfl
theorem n_14 (i : Nat) : av_len (mm N L c s x o g) 14 i = 61 := rfl
theorem n_15 (i : Nat) : av_len (mm N L c s x o g) 15 i = 61 := rfl
theorem n_16 (i : Nat) : av_len (mm N L c s x o g) 16 i = 61 := rfl
theorem n_17 (i : Nat) : av_len (mm N L c s x o g) 17 i = 80 := rfl
theorem n_18 (i : Nat) : av_len (mm N L c s x o g) 18 i = 10 := rfl
theorem n_19 (i : Nat) : av_len (mm N L c s x o g) 19 i = 2 := rfl
theorem n_22 (i : Nat) : av_len (mm N L c s x o g) 22 i = 10 := rfl
theorem n_25 (i : Nat) : av_len (mm N L c s x o g) 25 i = N := rfl
theorem n_27 (i : Nat) : av_len (mm N L c s x o g) 27 i = 3 := rfl
theorem n_29 (i : Nat) : av_len (mm N L c s x o g) 29 i = 4 := rfl
theorem n_36 (i : Nat) : av_len (mm N L c s x o g) 36 i = 40 := rfl
theorem n_37 (i : Nat) : av_len (mm N L c s x o g) 37 i = 10 := rfl
theorem n_38 (i : Nat) : av_len (mm N L c s x o g) 38 i = 10 := rfl
theorem n_39 (i : Nat) : av_len (mm N L c s x o g) 39 i = 40 := rfl
theorem n_40 (i : Nat) : av_len (mm N L c s x o g) 40 i = 160 := rfl
theorem n_41 (i : Nat) : av_len (mm N L c s x o g) 41 i = 61 := rfl
theorem n_42 (i : Nat) : av_len (mm N L c s x o g) 42 i = 61 := rfl
theorem n_43 (i : Nat) : av_len (mm N L c s x o g) 43 i = 61 := rfl
theorem n_44 (i : Nat) : av_len (mm N L c s x o g) 44 i = 80 := rfl
theorem n_45 (i : Nat) : av_len (mm N L c s x o g) 45 i = 4 := rfl
theorem n_46 (i : Nat) : av_len (mm N L c s x o g) 46 i = 6 := rfl
theorem n_47 (i : Nat) : av_len (mm N L c s x o g) 47 i = 480 := rfl
theorem n_48 (i : Nat) : av_len (mm N L c s x o g) 48 i = 480 := rfl
theorem n_49 (i : Nat) : av_len (mm N L c s x o g) 49 i = 60 := rfl
theorem n_50 (i : Nat) : av_len (mm N L c s x o g) 50 i = 3 := rfl
theorem n_51 (i : Nat) : av_len (mm N L c s x o g) 51 i = 3 := rfl
theorem n_52 (i : Nat) : av_len (mm N L c s x o g) 52 i = 3 := rfl
theorem n_53 (i : Nat) : av_len (mm N L c s x o g) 53 i = 3 := rfl
theorem n_54 (i : Nat) : av_len (mm N L c s x o g) 54 i = 3 := rfl
theorem n_55 (i : Nat) : av_len (mm N L c s x o g) 55 i = 18 := rfl
theorem n_56 (i : Nat) : av_len (mm N L c s x o g) 56 i = 3 := rfl
theorem n_57 (i : Nat) : av_len (mm N L c s x o g) 57 i = 18 := rfl
theorem n_58 (i : Nat) : av_len (mm N L c s x o g) 58 i = 18 := rfl
theorem n_59 (i : Nat) : av_len (mm N L c s x o g) 59 i = 480 := rfl
theorem n_60 (i : Nat) : av_len (mm N L c s x o g) 60 i = 480 := rfl
theorem n_61 (i : Nat) : av_len (mm N L c s x o g) 61 i = 24 := rfl
theorem n_62 (i : Nat) : av_len (mm N L c s x o g) 62 i = 6 := rfl
theorem n_63 (i : Nat) : av_len (mm N L c s x o g) 63 i = 70 := rfl
theorem n_66 (i : Nat) : av_len (mm N L c s x o g) 66 i = 1 := rfl
end MM
theorem kd_0 : av_kd 0 = 19 := rfl
theorem kd_1 : av_kd 1 = 20 := rfl
theorem kd_2 : av_kd 2 = 20 := rfl
theorem kd_3 : av_kd 3 = 20 := rfl
theorem kd_4 : av_kd 4 = 20 := rfl
theorem kd_5 : av_kd 5 = 20 := rfl
theorem kd_6 : av_kd 6 = 32 := rfl
theorem kd_7 : av_kd 7 = 2 := rfl
theorem kd_8 : av_kd 8 = 6 := rfl
theorem kd_9 : av_kd 9 = 20 := rfl
theorem kd_10 : av_kd 10 = 20 := rfl
theorem kd_11 : av_kd 11 = 20 := rfl
theorem kd_12 : av_kd 12 = 20 := rfl
theorem kd_13 : av_kd 13 = 20 := rfl
theorem kd_14 : av_kd 14 = 20 := rfl
theorem kd_15 : av_kd 15 = 20 := rfl
theorem kd_16 : av_kd 16 = 20 := rfl
theorem kd_17 : av_kd 17 = 20 := rfl
theorem kd_18 : av_kd 18 = 33 := rfl
theorem kd_19 : av_kd 19 = 36 := rfl
theorem kd_20 : av_kd 20 = 3 := rfl
theorem kd_21 : av_kd 21 = 6 := rfl
theorem kd_22 : av_kd 22 = 20 := rfl
theorem kd_23 : av_kd 23 = 5 := rfl
theorem kd_24 : av_kd 24 = 4 := rfl
theorem kd_25 : av_kd 25 = 30 := rfl
theorem kd_26 : av_kd 26 = 0 := rfl
theorem kd_27 : av_kd 27 = 31 := rfl
theorem kd_28 : av_kd 28 = 1 := rfl
theorem kd_29 : av_kd 29 = 20 := rfl
theorem kd_30 : av_kd 30 = 9 := rfl
theorem kd_31 : av_kd 31 = 10 := rfl
theorem kd_32 : av_kd 32 = 11 := rfl
theorem kd_33 : av_kd 33 = 11 := rfl
theorem kd_34 : av_kd 34 = 12 := rfl
theorem kd_35 : av_kd 35 = 13 := rfl
theorem kd_36 : av_kd 36 = 20 := rfl
theorem kd_37 : av_kd 37 = 20 := rfl
theorem kd_38 : av_kd 38 = 20 := rfl
theorem kd_39 : av_kd 39 = 20 := rfl
theorem kd_40 : av_kd 40 = 21 := rfl
theorem kd_41 : av_kd 41 = 20 := rfl
theorem kd_42 : av_kd 42 = 20 := rfl
theorem kd_43 : av_kd 43 = 20 := rfl
theorem kd_44 : av_kd 44 = 20 := rfl
theorem kd_45 : av_kd 45 = 20 := rfl
theorem kd_46 : av_kd 46 = 21 := rfl
theorem kd_47 : av_kd 47 = 20 := rfl
theorem kd_48 : av_kd 48 = 21 := rfl
theorem kd_49 : av_kd 49 = 21 := rfl
theorem kd_50 : av_kd 50 = 21 := rfl
theorem kd_51 : av_kd 51 = 20 := rfl
theorem kd_52 : av_kd 52 = 20 := rfl
theorem kd_53 : av_kd 53 = 20 := rfl
theorem kd_54 : av_kd 54 = 20 := rfl
theorem kd_55 : av_kd 55 = 20 := rfl
theorem kd_56 : av_kd 56 = 20 := rfl
theorem kd_57 : av_kd 57 = 20 := rfl
theorem kd_58 : av_kd 58 = 20 := rfl
theorem kd_59 : av_kd 59 = 21 := rfl
theorem kd_60 : av_kd 60 = 20 := rfl
theorem kd_61 : av_kd 61 = 20 := rfl
theorem kd_62 : av_kd 62 = 20 := rfl
theorem kd_63 : av_kd 63 = 20 := rfl
theorem kd_64 : av_kd 64 = 7 := rfl
theorem kd_65 : av_kd 65 = 8 := rfl
theorem kd_66 : av_kd 66 = 22 := rfl
theorem mi_0 (k : Nat) : mi 0 k = true := rfl
theorem mi_1 (k : Nat) : mi 1 k = true := rfl
theorem mi_2 (k : Nat) : mi 2 k = true := rfl
theorem mi_3 (k : Nat) : mi 3 k = true := rfl
theorem mi_4 (k : Nat) : mi 4 k = true := rfl
theorem mi_5 (k : Nat) : mi 5 k = true := rfl
theorem mi_7_0 : mi 7 0 = true := rfl
theorem mi_7_1 : mi 7 1 = true := rfl
theorem mi_9 (k : Nat) : mi 9 k = true := rfl
theorem mi_10 (k : Nat) : mi 10 k = true := rfl
theorem mi_11 (k : Nat) : mi 11 k = true := rfl
theorem mi_12 (k : Nat) : mi 12 k = true := rfl
theorem mi_13 (k : Nat) : mi 13 k = true := rfl
theorem mi_14 (k : Nat) : mi 14 k = true := rfl
theorem mi_15 (k : Nat) : mi 15 k = true := rfl
theorem mi_16 (k : Nat) : mi 16 k = true := rfl
theorem mi_17 (k : Nat) : mi 17 k = true := rfl
theorem mi_20_0 : mi 20 0 = true := rfl
theorem mi_20_1 : mi 20 1 = true := rfl
theorem mi_20_2 : mi 20 2 = true := rfl
theorem mi_22 (k : Nat) : mi 22 k = true := rfl
theorem mi_23_0 : mi 23 0 = true := rfl
theorem mi_23_1 : mi 23 1 = true := rfl
theorem mi_23_2 : mi 23 2 = true := rfl
theorem mi_23_3 : mi 23 3 = true := rfl
theorem mi_24_0 : mi 24 0 = true := rfl
theorem mi_26_0 : mi 26 0 = true := rfl
theorem mi_26_1 : mi 26 1 = true := rfl
theorem mi_28_0 : mi 28 0 = true := rfl
theorem mi_28_1 : mi 28 1 = true := rfl
theorem mi_28_2 : mi 28 2 = true := rfl
theorem mi_28_3 : mi 28 3 = true := rfl
theorem mi_28_4 : mi 28 4 = true := rfl
theorem mi_28_5 : mi 28 5 = true := rfl
theorem mi_28_6 : mi 28 6 = true := rfl
theorem mi_29 (k : Nat) : mi 29 k = true := rfl
theorem mi_36 (k : Nat) : mi 36 k = true := rfl
theorem mi_37 (k : Nat) : mi 37 k = true := rfl
theorem mi_38 (k : Nat) : mi 38 k = true := rfl
theorem mi_39 (k : Nat) : mi 39 k = true := rfl
theorem mi_40 (k : Nat) : mi 40 k = true := rfl
theorem mi_41 (k : Nat) : mi 41 k = true := rfl
theorem mi_42 (k : Nat) : mi 42 k = true := rfl
theorem mi_43 (k : Nat) : mi 43 k = true := rfl
theorem mi_44 (k : Nat) : mi 44 k = true := rfl
theorem mi_45 (k : Nat) : mi 45 k = true := rfl
theorem mi_46 (k : Nat) : mi 46 k = true := rfl
theorem mi_47 (k : Nat) : mi 47 k = true := rfl
theorem mi_48 (k : Nat) : mi 48 k = true := rfl
theorem mi_49 (k : Nat) : mi 49 k = true := rfl
theorem mi_50 (k : Nat) : mi 50 k = true := rfl
theorem mi_51 (k : Nat) : mi 51 k = true := rfl
theorem mi_52 (k : Nat) : mi 52 k = true := rfl
theorem mi_53 (k : Nat) : mi 53 k = true := rfl
theorem mi_54 (k : Nat) : mi 54 k = true := rfl
theorem mi_55 (k : Nat) : mi 55 k = true := rfl
theorem mi_56 (k : Nat) : mi 56 k = true := rfl
theorem mi_57 (k : Nat) : mi 57 k = true := rfl
theorem mi_58 (k : Nat) : mi 58 k = true := rfl
theorem mi_59 (k : Nat) : mi 59 k = true := rfl
theorem mi_60 (k : Nat) : mi 60 k = true := rfl
theorem mi_61 (k : Nat) : mi 61 k = true := rfl
theorem mi_62 (k : Nat) : mi 62 k = true := rfl
theorem mi_63 (k : Nat) : mi 63 k = true := rfl
theorem mi_64_0 : mi 64 0 = true := rfl
theorem mi_64_1 : mi 64 1 = true := rfl
theorem mi_64_2 : mi 64 2 = true := rfl
theorem mi_65_0 : mi 65 0 = true := rfl
theorem mi_65_1 : mi 65 1 = true := rfl
theorem mi_65_2 : mi 65 2 = true := rfl
theorem mi_65_3 : mi 65 3 = true := rfl
theorem mi_65_4 : mi 65 4 = true := rfl
theorem mi_65_5 : mi 65 5 = true := rfl
theorem mi_65_6 : mi 65 6 = true := rfl
theorem mi_65_7 : mi 65 7 = true := rfl
theorem mi_65_8 : mi 65 8 = true := rfl
theorem mi_65_14 : mi 65 14 = true := rfl
theorem mi_65_37 : mi 65 37 = true := rfl
theorem wt_0 : av_wt [] = 0 := rfl
theorem wt_1 (a : Int32) (r : List av_V) : av_wt (.inl a :: r) = 1 + av_wt r := rfl
theorem wt_2 (a : Int64) (r : List av_V) : av_wt (.inr (.inl a) :: r) = 2 + av_wt r := rfl
theorem wt_3 (a : Option (Nat × Nat)) (r : List av_V) : av_wt (.inr (.inr a) :: r) = 1 + av_wt r := rfl
theorem isI_1 (v : Int32) : av_isI (.inl v) = true := rfl
theorem isL_1 (v : Int64) : av_isL (.inr (.inl v)) = true := rfl
theorem isZ_1 (v : Int32) : av_isZ (.inl v) = (v == 0 || v == 1) := rfl
theorem hh_0 : ∀ y, y < 150 → tl_hh y = [] := by decide +kernel
