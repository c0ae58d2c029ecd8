/-! one call of the law, from its first instruction to the end of the loop -/
def stp (N L w q a V i pc : Nat) (g : mG) : Prop := ∀ (c s : Nat) (x : Nat → Nat) (o : Int64) (l5 l6 : Option av_V), ∃ c2 s2 x2 o2 l5' l6' g2, c2 ≤ c + 1 ∧ s2 ≤ s + 6 ∧ nxt N w q a V g g2 ∧ av_run 169 pc [some (.inr (.inr (some (0, 0)))), some (.inr (.inr (some (64, 0)))), some (.inr (.inr (some (65, 0)))), some (.inr (.inr (some (66, 0)))), some (.inl (nI i)), l5, l6] [] (mm N L c s x o g) = av_run 169 1600 [some (.inr (.inr (some (0, 0)))), some (.inr (.inr (some (64, 0)))), some (.inr (.inr (some (65, 0)))), some (.inr (.inr (some (66, 0)))), some (.inl (nI i)), l5', l6'] [] (mm N L c2 s2 x2 o2 g2)
theorem cd_150 {f : Nat} (h : ¬ cd 150 f = 0) : f = 30 ∨ f = 31 := by
  by_cases h30 : f = 30
  · exact Or.inl h30
  by_cases h31 : f = 31
  · exact Or.inr (h31)
  refine absurd ?_ h
  unfold cd
  split
  all_goals first | rfl | skip
  all_goals first | (exfalso; omega) | skip
  all_goals (split <;> first | rfl | (exfalso; omega))
theorem cd_151 {f : Nat} (h : ¬ cd 151 f = 0) : f = 30 ∨ f = 31 := by
  by_cases h30 : f = 30
  · exact Or.inl h30
  by_cases h31 : f = 31
  · exact Or.inr (h31)
  refine absurd ?_ h
  unfold cd
  split
  all_goals first | rfl | skip
  all_goals first | (exfalso; omega) | skip
  all_goals (split <;> first | rfl | (exfalso; omega))
theorem cd_152 {f : Nat} (h : ¬ cd 152 f = 0) : f = 30 ∨ f = 31 ∨ f = 32 ∨ f = 33 := by
  by_cases h30 : f = 30
  · exact Or.inl h30
  by_cases h31 : f = 31
  · exact Or.inr (Or.inl h31)
  by_cases h32 : f = 32
  · exact Or.inr (Or.inr (Or.inl h32))
  by_cases h33 : f = 33
  · exact Or.inr (Or.inr (Or.inr (h33)))
  refine absurd ?_ h
  unfold cd
  split
  all_goals first | rfl | skip
  all_goals first | (exfalso; omega) | skip
  all_goals (split <;> first | rfl | (exfalso; omega))
theorem cd_153 {f : Nat} (h : ¬ cd 153 f = 0) : f = 30 ∨ f = 31 := by
  by_cases h30 : f = 30
  · exact Or.inl h30
  by_cases h31 : f = 31
  · exact Or.inr (h31)
  refine absurd ?_ h
  unfold cd
  split
  all_goals first | rfl | skip
  all_goals first | (exfalso; omega) | skip
  all_goals (split <;> first | rfl | (exfalso; omega))
theorem cd_154 {f : Nat} (h : ¬ cd 154 f = 0) : f = 30 ∨ f = 31 ∨ f = 33 := by
  by_cases h30 : f = 30
  · exact Or.inl h30
  by_cases h31 : f = 31
  · exact Or.inr (Or.inl h31)
  by_cases h33 : f = 33
  · exact Or.inr (Or.inr (h33))
  refine absurd ?_ h
  unfold cd
  split
  all_goals first | rfl | skip
  all_goals first | (exfalso; omega) | skip
  all_goals (split <;> first | rfl | (exfalso; omega))
theorem cd_155 {f : Nat} (h : ¬ cd 155 f = 0) : f = 30 ∨ f = 31 ∨ f = 33 ∨ f = 34 := by
  by_cases h30 : f = 30
  · exact Or.inl h30
  by_cases h31 : f = 31
  · exact Or.inr (Or.inl h31)
  by_cases h33 : f = 33
  · exact Or.inr (Or.inr (Or.inl h33))
  by_cases h34 : f = 34
  · exact Or.inr (Or.inr (Or.inr (h34)))
  refine absurd ?_ h
  unfold cd
  split
  all_goals first | rfl | skip
  all_goals first | (exfalso; omega) | skip
  all_goals (split <;> first | rfl | (exfalso; omega))
theorem cd_156 {f : Nat} (h : ¬ cd 156 f = 0) : f = 30 ∨ f = 31 ∨ f = 34 := by
  by_cases h30 : f = 30
  · exact Or.inl h30
  by_cases h31 : f = 31
  · exact Or.inr (Or.inl h31)
  by_cases h34 : f = 34
  · exact Or.inr (Or.inr (h34))
  refine absurd ?_ h
  unfold cd
  split
  all_goals first | rfl | skip
  all_goals first | (exfalso; omega) | skip
  all_goals (split <;> first | rfl | (exfalso; omega))
theorem cd_157 {f : Nat} (h : ¬ cd 157 f = 0) : f = 30 ∨ f = 31 := by
  by_cases h30 : f = 30
  · exact Or.inl h30
  by_cases h31 : f = 31
  · exact Or.inr (h31)
  refine absurd ?_ h
  unfold cd
  split
  all_goals first | rfl | skip
  all_goals first | (exfalso; omega) | skip
  all_goals (split <;> first | rfl | (exfalso; omega))
theorem cd_158 {f : Nat} (h : ¬ cd 158 f = 0) : f = 30 ∨ f = 31 := by
  by_cases h30 : f = 30
  · exact Or.inl h30
  by_cases h31 : f = 31
  · exact Or.inr (h31)
  refine absurd ?_ h
  unfold cd
  split
  all_goals first | rfl | skip
  all_goals first | (exfalso; omega) | skip
  all_goals (split <;> first | rfl | (exfalso; omega))
theorem cd_159 {f : Nat} (h : ¬ cd 159 f = 0) : f = 30 ∨ f = 31 := by
  by_cases h30 : f = 30
  · exact Or.inl h30
  by_cases h31 : f = 31
  · exact Or.inr (h31)
  refine absurd ?_ h
  unfold cd
  split
  all_goals first | rfl | skip
  all_goals first | (exfalso; omega) | skip
  all_goals (split <;> first | rfl | (exfalso; omega))
theorem cd_160 {f : Nat} (h : ¬ cd 160 f = 0) : f = 30 ∨ f = 31 ∨ f = 35 := by
  by_cases h30 : f = 30
  · exact Or.inl h30
  by_cases h31 : f = 31
  · exact Or.inr (Or.inl h31)
  by_cases h35 : f = 35
  · exact Or.inr (Or.inr (h35))
  refine absurd ?_ h
  unfold cd
  split
  all_goals first | rfl | skip
  all_goals first | (exfalso; omega) | skip
  all_goals (split <;> first | rfl | (exfalso; omega))
theorem cd_161 {f : Nat} (h : ¬ cd 161 f = 0) : f = 30 ∨ f = 31 ∨ f = 35 := by
  by_cases h30 : f = 30
  · exact Or.inl h30
  by_cases h31 : f = 31
  · exact Or.inr (Or.inl h31)
  by_cases h35 : f = 35
  · exact Or.inr (Or.inr (h35))
  refine absurd ?_ h
  unfold cd
  split
  all_goals first | rfl | skip
  all_goals first | (exfalso; omega) | skip
  all_goals (split <;> first | rfl | (exfalso; omega))
theorem cd_162 {f : Nat} (h : ¬ cd 162 f = 0) : f = 30 ∨ f = 31 ∨ f = 33 := by
  by_cases h30 : f = 30
  · exact Or.inl h30
  by_cases h31 : f = 31
  · exact Or.inr (Or.inl h31)
  by_cases h33 : f = 33
  · exact Or.inr (Or.inr (h33))
  refine absurd ?_ h
  unfold cd
  split
  all_goals first | rfl | skip
  all_goals first | (exfalso; omega) | skip
  all_goals (split <;> first | rfl | (exfalso; omega))
theorem cd_163 {f : Nat} (h : ¬ cd 163 f = 0) : f = 30 ∨ f = 31 ∨ f = 33 := by
  by_cases h30 : f = 30
  · exact Or.inl h30
  by_cases h31 : f = 31
  · exact Or.inr (Or.inl h31)
  by_cases h33 : f = 33
  · exact Or.inr (Or.inr (h33))
  refine absurd ?_ h
  unfold cd
  split
  all_goals first | rfl | skip
  all_goals first | (exfalso; omega) | skip
  all_goals (split <;> first | rfl | (exfalso; omega))
theorem cd_164 {f : Nat} (h : ¬ cd 164 f = 0) : f = 30 ∨ f = 31 := by
  by_cases h30 : f = 30
  · exact Or.inl h30
  by_cases h31 : f = 31
  · exact Or.inr (h31)
  refine absurd ?_ h
  unfold cd
  split
  all_goals first | rfl | skip
  all_goals first | (exfalso; omega) | skip
  all_goals (split <;> first | rfl | (exfalso; omega))
theorem cd_165 {f : Nat} (h : ¬ cd 165 f = 0) : f = 30 ∨ f = 31 := by
  by_cases h30 : f = 30
  · exact Or.inl h30
  by_cases h31 : f = 31
  · exact Or.inr (h31)
  refine absurd ?_ h
  unfold cd
  split
  all_goals first | rfl | skip
  all_goals first | (exfalso; omega) | skip
  all_goals (split <;> first | rfl | (exfalso; omega))
theorem cd_166 {f : Nat} (h : ¬ cd 166 f = 0) : f = 30 ∨ f = 31 := by
  by_cases h30 : f = 30
  · exact Or.inl h30
  by_cases h31 : f = 31
  · exact Or.inr (h31)
  refine absurd ?_ h
  unfold cd
  split
  all_goals first | rfl | skip
  all_goals first | (exfalso; omega) | skip
  all_goals (split <;> first | rfl | (exfalso; omega))
section O17
variable {N w q a V : Nat} {g : mG} (L : Nat)
theorem st_150 (i : Nat) (hi : i + 6 ≤ L) (hL : L ≤ 4000) (h : opI N L 51 98 [.inl (g 0 0 (i + 1))] (cd 150) (nxt N w q a V g) g) : stp N L w q a V i 196 g := by
  intro c s x o l5 l6
  rcases h with ⟨v, g1, g2, h1, h2, h3, h4, h5⟩ | ⟨f, v, g1, g2, h0, h1, h2, h3, h4, h5⟩
  · exact ⟨c, s, x, v.toInt64, _, _, g2, by omega, by omega, h5, lw_150 N L i hi hL l5 l6 c s c s x x o v.toInt64 g g1 g2 0 v (h_150 N L c s x o (g 0 0 (i + 1)) v g g1 (h1 c s x o)) (h2 c s x v.toInt64) h4 (fun _ => rfl) h3⟩
  · rcases cd_150 h0 with rfl | rfl
    · exact ⟨c + 1, s + 6, mx x 30, o, _, _, g2, by omega, by omega, h5, lw_150 N L i hi hL l5 l6 c s (c + 1) (s + 6) x (mx x 30) o o g g1 g2 1 v (ht_150_30 (g 0 0 (i + 1)) _ _ (x 30) (h1 c s x o)) (h2 _ _ _ _) (h4.trans (by decide)) (fun k => absurd k (by decide)) h3⟩
    · exact ⟨c + 1, s + 6, mx x 31, o, _, _, g2, by omega, by omega, h5, lw_150 N L i hi hL l5 l6 c s (c + 1) (s + 6) x (mx x 31) o o g g1 g2 2 v (ht_150_31 (g 0 0 (i + 1)) _ _ (x 31) (h1 c s x o)) (h2 _ _ _ _) (h4.trans (by decide)) (fun k => absurd k (by decide)) h3⟩
theorem st_151 (i : Nat) (hi : i + 6 ≤ L) (hL : L ≤ 4000) (h : opI N L 55 109 [.inl (g 0 0 (i + 1)), .inl (g 0 0 (i + 2))] (cd 151) (nxt N w q a V g) g) : stp N L w q a V i 252 g := by
  intro c s x o l5 l6
  rcases h with ⟨v, g1, g2, h1, h2, h3, h4, h5⟩ | ⟨f, v, g1, g2, h0, h1, h2, h3, h4, h5⟩
  · exact ⟨c, s, x, v.toInt64, _, _, g2, by omega, by omega, h5, lw_151 N L i hi hL l5 l6 c s c s x x o v.toInt64 g g1 g2 0 v (h_151 N L c s x o (g 0 0 (i + 1)) (g 0 0 (i + 2)) v g g1 (h1 c s x o)) (h2 c s x v.toInt64) h4 (fun _ => rfl) h3⟩
  · rcases cd_151 h0 with rfl | rfl
    · exact ⟨c + 1, s + 6, mx x 30, o, _, _, g2, by omega, by omega, h5, lw_151 N L i hi hL l5 l6 c s (c + 1) (s + 6) x (mx x 30) o o g g1 g2 1 v (ht_151_30 (g 0 0 (i + 1)) (g 0 0 (i + 2)) _ _ (x 30) (h1 c s x o)) (h2 _ _ _ _) (h4.trans (by decide)) (fun k => absurd k (by decide)) h3⟩
    · exact ⟨c + 1, s + 6, mx x 31, o, _, _, g2, by omega, by omega, h5, lw_151 N L i hi hL l5 l6 c s (c + 1) (s + 6) x (mx x 31) o o g g1 g2 2 v (ht_151_31 (g 0 0 (i + 1)) (g 0 0 (i + 2)) _ _ (x 31) (h1 c s x o)) (h2 _ _ _ _) (h4.trans (by decide)) (fun k => absurd k (by decide)) h3⟩
theorem st_152 (i : Nat) (hi : i + 6 ≤ L) (hL : L ≤ 4000) (h : opI N L 62 112 [.inl (g 0 0 (i + 1)), .inl (g 0 0 (i + 2))] (cd 152) (nxt N w q a V g) g) : stp N L w q a V i 320 g := by
  intro c s x o l5 l6
  rcases h with ⟨v, g1, g2, h1, h2, h3, h4, h5⟩ | ⟨f, v, g1, g2, h0, h1, h2, h3, h4, h5⟩
  · exact ⟨c, s, x, v.toInt64, _, _, g2, by omega, by omega, h5, lw_152 N L i hi hL l5 l6 c s c s x x o v.toInt64 g g1 g2 0 v (h_152 N L c s x o (g 0 0 (i + 1)) (g 0 0 (i + 2)) v g g1 (h1 c s x o)) (h2 c s x v.toInt64) h4 (fun _ => rfl) h3⟩
  · rcases cd_152 h0 with rfl | rfl | rfl | rfl
    · exact ⟨c + 1, s + 6, mx x 30, o, _, _, g2, by omega, by omega, h5, lw_152 N L i hi hL l5 l6 c s (c + 1) (s + 6) x (mx x 30) o o g g1 g2 1 v (ht_152_30 (g 0 0 (i + 1)) (g 0 0 (i + 2)) _ _ (x 30) (h1 c s x o)) (h2 _ _ _ _) (h4.trans (by decide)) (fun k => absurd k (by decide)) h3⟩
    · exact ⟨c + 1, s + 6, mx x 31, o, _, _, g2, by omega, by omega, h5, lw_152 N L i hi hL l5 l6 c s (c + 1) (s + 6) x (mx x 31) o o g g1 g2 2 v (ht_152_31 (g 0 0 (i + 1)) (g 0 0 (i + 2)) _ _ (x 31) (h1 c s x o)) (h2 _ _ _ _) (h4.trans (by decide)) (fun k => absurd k (by decide)) h3⟩
    · exact ⟨c + 1, s + 6, mx x 32, o, _, _, g2, by omega, by omega, h5, lw_152 N L i hi hL l5 l6 c s (c + 1) (s + 6) x (mx x 32) o o g g1 g2 3 v (ht_152_32 (g 0 0 (i + 1)) (g 0 0 (i + 2)) _ _ (x 32) (h1 c s x o)) (h2 _ _ _ _) (h4.trans (by decide)) (fun k => absurd k (by decide)) h3⟩
    · exact ⟨c + 1, s + 6, mx x 33, o, _, _, g2, by omega, by omega, h5, lw_152 N L i hi hL l5 l6 c s (c + 1) (s + 6) x (mx x 33) o o g g1 g2 3 v (ht_152_33 (g 0 0 (i + 1)) (g 0 0 (i + 2)) _ _ (x 33) (h1 c s x o)) (h2 _ _ _ _) (h4.trans (by decide)) (fun k => absurd k (by decide)) h3⟩
theorem st_153 (i : Nat) (hi : i + 6 ≤ L) (hL : L ≤ 4000) (h : opI N L 66 102 [.inl (g 0 0 (i + 1))] (cd 153) (nxt N w q a V g) g) : stp N L w q a V i 388 g := by
  intro c s x o l5 l6
  rcases h with ⟨v, g1, g2, h1, h2, h3, h4, h5⟩ | ⟨f, v, g1, g2, h0, h1, h2, h3, h4, h5⟩
  · exact ⟨c, s, x, v.toInt64, _, _, g2, by omega, by omega, h5, lw_153 N L i hi hL l5 l6 c s c s x x o v.toInt64 g g1 g2 0 v (h_153 N L c s x o (g 0 0 (i + 1)) v g g1 (h1 c s x o)) (h2 c s x v.toInt64) h4 (fun _ => rfl) h3⟩
  · rcases cd_153 h0 with rfl | rfl
    · exact ⟨c + 1, s + 6, mx x 30, o, _, _, g2, by omega, by omega, h5, lw_153 N L i hi hL l5 l6 c s (c + 1) (s + 6) x (mx x 30) o o g g1 g2 1 v (ht_153_30 (g 0 0 (i + 1)) _ _ (x 30) (h1 c s x o)) (h2 _ _ _ _) (h4.trans (by decide)) (fun k => absurd k (by decide)) h3⟩
    · exact ⟨c + 1, s + 6, mx x 31, o, _, _, g2, by omega, by omega, h5, lw_153 N L i hi hL l5 l6 c s (c + 1) (s + 6) x (mx x 31) o o g g1 g2 2 v (ht_153_31 (g 0 0 (i + 1)) _ _ (x 31) (h1 c s x o)) (h2 _ _ _ _) (h4.trans (by decide)) (fun k => absurd k (by decide)) h3⟩
theorem st_154 (i : Nat) (hi : i + 6 ≤ L) (hL : L ≤ 4000) (h : opI N L 67 116 [.inl (g 0 0 (i + 1))] (cd 154) (nxt N w q a V g) g) : stp N L w q a V i 444 g := by
  intro c s x o l5 l6
  rcases h with ⟨v, g1, g2, h1, h2, h3, h4, h5⟩ | ⟨f, v, g1, g2, h0, h1, h2, h3, h4, h5⟩
  · exact ⟨c, s, x, v.toInt64, _, _, g2, by omega, by omega, h5, lw_154 N L i hi hL l5 l6 c s c s x x o v.toInt64 g g1 g2 0 v (h_154 N L c s x o (g 0 0 (i + 1)) v g g1 (h1 c s x o)) (h2 c s x v.toInt64) h4 (fun _ => rfl) h3⟩
  · rcases cd_154 h0 with rfl | rfl | rfl
    · exact ⟨c + 1, s + 6, mx x 30, o, _, _, g2, by omega, by omega, h5, lw_154 N L i hi hL l5 l6 c s (c + 1) (s + 6) x (mx x 30) o o g g1 g2 1 v (ht_154_30 (g 0 0 (i + 1)) _ _ (x 30) (h1 c s x o)) (h2 _ _ _ _) (h4.trans (by decide)) (fun k => absurd k (by decide)) h3⟩
    · exact ⟨c + 1, s + 6, mx x 31, o, _, _, g2, by omega, by omega, h5, lw_154 N L i hi hL l5 l6 c s (c + 1) (s + 6) x (mx x 31) o o g g1 g2 2 v (ht_154_31 (g 0 0 (i + 1)) _ _ (x 31) (h1 c s x o)) (h2 _ _ _ _) (h4.trans (by decide)) (fun k => absurd k (by decide)) h3⟩
    · exact ⟨c + 1, s + 6, mx x 33, o, _, _, g2, by omega, by omega, h5, lw_154 N L i hi hL l5 l6 c s (c + 1) (s + 6) x (mx x 33) o o g g1 g2 3 v (ht_154_33 (g 0 0 (i + 1)) _ _ (x 33) (h1 c s x o)) (h2 _ _ _ _) (h4.trans (by decide)) (fun k => absurd k (by decide)) h3⟩
theorem st_155 (i : Nat) (hi : i + 6 ≤ L) (hL : L ≤ 4000) (h : opI N L 72 121 [.inl (g 0 0 (i + 1)), .inl (g 0 0 (i + 2))] (cd 155) (nxt N w q a V g) g) : stp N L w q a V i 500 g := by
  intro c s x o l5 l6
  rcases h with ⟨v, g1, g2, h1, h2, h3, h4, h5⟩ | ⟨f, v, g1, g2, h0, h1, h2, h3, h4, h5⟩
  · exact ⟨c, s, x, v.toInt64, _, _, g2, by omega, by omega, h5, lw_155 N L i hi hL l5 l6 c s c s x x o v.toInt64 g g1 g2 0 v (h_155 N L c s x o (g 0 0 (i + 1)) (g 0 0 (i + 2)) v g g1 (h1 c s x o)) (h2 c s x v.toInt64) h4 (fun _ => rfl) h3⟩
  · rcases cd_155 h0 with rfl | rfl | rfl | rfl
    · exact ⟨c + 1, s + 6, mx x 30, o, _, _, g2, by omega, by omega, h5, lw_155 N L i hi hL l5 l6 c s (c + 1) (s + 6) x (mx x 30) o o g g1 g2 1 v (ht_155_30 (g 0 0 (i + 1)) (g 0 0 (i + 2)) _ _ (x 30) (h1 c s x o)) (h2 _ _ _ _) (h4.trans (by decide)) (fun k => absurd k (by decide)) h3⟩
    · exact ⟨c + 1, s + 6, mx x 31, o, _, _, g2, by omega, by omega, h5, lw_155 N L i hi hL l5 l6 c s (c + 1) (s + 6) x (mx x 31) o o g g1 g2 2 v (ht_155_31 (g 0 0 (i + 1)) (g 0 0 (i + 2)) _ _ (x 31) (h1 c s x o)) (h2 _ _ _ _) (h4.trans (by decide)) (fun k => absurd k (by decide)) h3⟩
    · exact ⟨c + 1, s + 6, mx x 33, o, _, _, g2, by omega, by omega, h5, lw_155 N L i hi hL l5 l6 c s (c + 1) (s + 6) x (mx x 33) o o g g1 g2 3 v (ht_155_33 (g 0 0 (i + 1)) (g 0 0 (i + 2)) _ _ (x 33) (h1 c s x o)) (h2 _ _ _ _) (h4.trans (by decide)) (fun k => absurd k (by decide)) h3⟩
    · exact ⟨c + 1, s + 6, mx x 34, o, _, _, g2, by omega, by omega, h5, lw_155 N L i hi hL l5 l6 c s (c + 1) (s + 6) x (mx x 34) o o g g1 g2 4 v (ht_155_34 (g 0 0 (i + 1)) (g 0 0 (i + 2)) _ _ (x 34) (h1 c s x o)) (h2 _ _ _ _) (h4.trans (by decide)) (fun k => absurd k (by decide)) h3⟩
theorem st_156 (i : Nat) (hi : i + 6 ≤ L) (hL : L ≤ 4000) (h : opI N L 76 122 [.inl (g 0 0 (i + 1)), .inl (g 0 0 (i + 2)), .inl (g 0 0 (i + 3)), .inl (g 0 0 (i + 4))] (cd 156) (nxt N w q a V g) g) : stp N L w q a V i 568 g := by
  intro c s x o l5 l6
  rcases h with ⟨v, g1, g2, h1, h2, h3, h4, h5⟩ | ⟨f, v, g1, g2, h0, h1, h2, h3, h4, h5⟩
  · exact ⟨c, s, x, v.toInt64, _, _, g2, by omega, by omega, h5, lw_156 N L i hi hL l5 l6 c s c s x x o v.toInt64 g g1 g2 0 v (h_156 N L c s x o (g 0 0 (i + 1)) (g 0 0 (i + 2)) (g 0 0 (i + 3)) (g 0 0 (i + 4)) v g g1 (h1 c s x o)) (h2 c s x v.toInt64) h4 (fun _ => rfl) h3⟩
  · rcases cd_156 h0 with rfl | rfl | rfl
    · exact ⟨c + 1, s + 6, mx x 30, o, _, _, g2, by omega, by omega, h5, lw_156 N L i hi hL l5 l6 c s (c + 1) (s + 6) x (mx x 30) o o g g1 g2 1 v (ht_156_30 (g 0 0 (i + 1)) (g 0 0 (i + 2)) (g 0 0 (i + 3)) (g 0 0 (i + 4)) _ _ (x 30) (h1 c s x o)) (h2 _ _ _ _) (h4.trans (by decide)) (fun k => absurd k (by decide)) h3⟩
    · exact ⟨c + 1, s + 6, mx x 31, o, _, _, g2, by omega, by omega, h5, lw_156 N L i hi hL l5 l6 c s (c + 1) (s + 6) x (mx x 31) o o g g1 g2 2 v (ht_156_31 (g 0 0 (i + 1)) (g 0 0 (i + 2)) (g 0 0 (i + 3)) (g 0 0 (i + 4)) _ _ (x 31) (h1 c s x o)) (h2 _ _ _ _) (h4.trans (by decide)) (fun k => absurd k (by decide)) h3⟩
    · exact ⟨c + 1, s + 6, mx x 34, o, _, _, g2, by omega, by omega, h5, lw_156 N L i hi hL l5 l6 c s (c + 1) (s + 6) x (mx x 34) o o g g1 g2 3 v (ht_156_34 (g 0 0 (i + 1)) (g 0 0 (i + 2)) (g 0 0 (i + 3)) (g 0 0 (i + 4)) _ _ (x 34) (h1 c s x o)) (h2 _ _ _ _) (h4.trans (by decide)) (fun k => absurd k (by decide)) h3⟩
theorem st_157 (i : Nat) (hi : i + 6 ≤ L) (hL : L ≤ 4000) (h : opV N L 78 124 [.inl (g 0 0 (i + 1)), .inl (g 0 0 (i + 2)), .inl (g 0 0 (i + 3))] (cd 157) (nxt N w q a V g) g) : stp N L w q a V i 660 g := by
  intro c s x o l5 l6
  rcases h with ⟨g1, g2, h1, h2, h3, h4, h5⟩ | ⟨f, g1, g2, h0, h1, h2, h3, h4, h5⟩
  · exact ⟨c, s, x, o, _, _, g2, by omega, by omega, h5, lw_157 N L i hi hL l5 l6 c s c s x x o o g g1 g2 0 (h_157 N L c s x o (g 0 0 (i + 1)) (g 0 0 (i + 2)) (g 0 0 (i + 3)) g g1 (h1 c s x o)) (h2 c s x o) h4 trivial h3⟩
  · rcases cd_157 h0 with rfl | rfl
    · exact ⟨c + 1, s + 6, mx x 30, o, _, _, g2, by omega, by omega, h5, lw_157 N L i hi hL l5 l6 c s (c + 1) (s + 6) x (mx x 30) o o g g1 g2 1 (ht_157_30 (g 0 0 (i + 1)) (g 0 0 (i + 2)) (g 0 0 (i + 3)) _ _ (x 30) (h1 c s x o)) (h2 _ _ _ _) (h4.trans (by decide)) trivial h3⟩
    · exact ⟨c + 1, s + 6, mx x 31, o, _, _, g2, by omega, by omega, h5, lw_157 N L i hi hL l5 l6 c s (c + 1) (s + 6) x (mx x 31) o o g g1 g2 2 (ht_157_31 (g 0 0 (i + 1)) (g 0 0 (i + 2)) (g 0 0 (i + 3)) _ _ (x 31) (h1 c s x o)) (h2 _ _ _ _) (h4.trans (by decide)) trivial h3⟩
theorem st_158 (i : Nat) (hi : i + 6 ≤ L) (hL : L ≤ 4000) (h : opV N L 79 127 [.inl (g 0 0 (i + 1)), .inl (g 0 0 (i + 2)), .inl (g 0 0 (i + 3))] (cd 158) (nxt N w q a V g) g) : stp N L w q a V i 720 g := by
  intro c s x o l5 l6
  rcases h with ⟨g1, g2, h1, h2, h3, h4, h5⟩ | ⟨f, g1, g2, h0, h1, h2, h3, h4, h5⟩
  · exact ⟨c, s, x, o, _, _, g2, by omega, by omega, h5, lw_158 N L i hi hL l5 l6 c s c s x x o o g g1 g2 0 (h_158 N L c s x o (g 0 0 (i + 1)) (g 0 0 (i + 2)) (g 0 0 (i + 3)) g g1 (h1 c s x o)) (h2 c s x o) h4 trivial h3⟩
  · rcases cd_158 h0 with rfl | rfl
    · exact ⟨c + 1, s + 6, mx x 30, o, _, _, g2, by omega, by omega, h5, lw_158 N L i hi hL l5 l6 c s (c + 1) (s + 6) x (mx x 30) o o g g1 g2 1 (ht_158_30 (g 0 0 (i + 1)) (g 0 0 (i + 2)) (g 0 0 (i + 3)) _ _ (x 30) (h1 c s x o)) (h2 _ _ _ _) (h4.trans (by decide)) trivial h3⟩
    · exact ⟨c + 1, s + 6, mx x 31, o, _, _, g2, by omega, by omega, h5, lw_158 N L i hi hL l5 l6 c s (c + 1) (s + 6) x (mx x 31) o o g g1 g2 2 (ht_158_31 (g 0 0 (i + 1)) (g 0 0 (i + 2)) (g 0 0 (i + 3)) _ _ (x 31) (h1 c s x o)) (h2 _ _ _ _) (h4.trans (by decide)) trivial h3⟩
theorem st_159 (i : Nat) (hi : i + 6 ≤ L) (hL : L ≤ 4000) (h : opV N L 81 128 [.inl (g 0 0 (i + 1)), .inl (g 0 0 (i + 2)), .inl (g 0 0 (i + 3)), .inl (g 0 0 (i + 4))] (cd 159) (nxt N w q a V g) g) : stp N L w q a V i 780 g := by
  intro c s x o l5 l6
  rcases h with ⟨g1, g2, h1, h2, h3, h4, h5⟩ | ⟨f, g1, g2, h0, h1, h2, h3, h4, h5⟩
  · exact ⟨c, s, x, o, _, _, g2, by omega, by omega, h5, lw_159 N L i hi hL l5 l6 c s c s x x o o g g1 g2 0 (h_159 N L c s x o (g 0 0 (i + 1)) (g 0 0 (i + 2)) (g 0 0 (i + 3)) (g 0 0 (i + 4)) g g1 (h1 c s x o)) (h2 c s x o) h4 trivial h3⟩
  · rcases cd_159 h0 with rfl | rfl
    · exact ⟨c + 1, s + 6, mx x 30, o, _, _, g2, by omega, by omega, h5, lw_159 N L i hi hL l5 l6 c s (c + 1) (s + 6) x (mx x 30) o o g g1 g2 1 (ht_159_30 (g 0 0 (i + 1)) (g 0 0 (i + 2)) (g 0 0 (i + 3)) (g 0 0 (i + 4)) _ _ (x 30) (h1 c s x o)) (h2 _ _ _ _) (h4.trans (by decide)) trivial h3⟩
    · exact ⟨c + 1, s + 6, mx x 31, o, _, _, g2, by omega, by omega, h5, lw_159 N L i hi hL l5 l6 c s (c + 1) (s + 6) x (mx x 31) o o g g1 g2 2 (ht_159_31 (g 0 0 (i + 1)) (g 0 0 (i + 2)) (g 0 0 (i + 3)) (g 0 0 (i + 4)) _ _ (x 31) (h1 c s x o)) (h2 _ _ _ _) (h4.trans (by decide)) trivial h3⟩
theorem st_160 (i : Nat) (hi : i + 6 ≤ L) (hL : L ≤ 4000) (h : opI N L 82 129 [.inl (g 0 0 (i + 1)), .inl (g 0 0 (i + 2))] (cd 160) (nxt N w q a V g) g) : stp N L w q a V i 852 g := by
  intro c s x o l5 l6
  rcases h with ⟨v, g1, g2, h1, h2, h3, h4, h5⟩ | ⟨f, v, g1, g2, h0, h1, h2, h3, h4, h5⟩
  · exact ⟨c, s, x, v.toInt64, _, _, g2, by omega, by omega, h5, lw_160 N L i hi hL l5 l6 c s c s x x o v.toInt64 g g1 g2 0 v (h_160 N L c s x o (g 0 0 (i + 1)) (g 0 0 (i + 2)) v g g1 (h1 c s x o)) (h2 c s x v.toInt64) h4 (fun _ => rfl) h3⟩
  · rcases cd_160 h0 with rfl | rfl | rfl
    · exact ⟨c + 1, s + 6, mx x 30, o, _, _, g2, by omega, by omega, h5, lw_160 N L i hi hL l5 l6 c s (c + 1) (s + 6) x (mx x 30) o o g g1 g2 1 v (ht_160_30 (g 0 0 (i + 1)) (g 0 0 (i + 2)) _ _ (x 30) (h1 c s x o)) (h2 _ _ _ _) (h4.trans (by decide)) (fun k => absurd k (by decide)) h3⟩
    · exact ⟨c + 1, s + 6, mx x 31, o, _, _, g2, by omega, by omega, h5, lw_160 N L i hi hL l5 l6 c s (c + 1) (s + 6) x (mx x 31) o o g g1 g2 2 v (ht_160_31 (g 0 0 (i + 1)) (g 0 0 (i + 2)) _ _ (x 31) (h1 c s x o)) (h2 _ _ _ _) (h4.trans (by decide)) (fun k => absurd k (by decide)) h3⟩
    · exact ⟨c + 1, s + 6, mx x 35, o, _, _, g2, by omega, by omega, h5, lw_160 N L i hi hL l5 l6 c s (c + 1) (s + 6) x (mx x 35) o o g g1 g2 3 v (ht_160_35 (g 0 0 (i + 1)) (g 0 0 (i + 2)) _ _ (x 35) (h1 c s x o)) (h2 _ _ _ _) (h4.trans (by decide)) (fun k => absurd k (by decide)) h3⟩
theorem st_161 (i : Nat) (hi : i + 6 ≤ L) (hL : L ≤ 4000) (h : opI N L 87 133 [.inl (g 0 0 (i + 1)), .inl (g 0 0 (i + 2)), .inl (g 0 0 (i + 3)), .inl (g 0 0 (i + 4)), .inl (if g 0 0 (i + 5) = 0 then 0 else 1)] (cd 161) (nxt N w q a V g) g) : stp N L w q a V i 920 g := by
  intro c s x o l5 l6
  rcases h with ⟨v, g1, g2, h1, h2, h3, h4, h5⟩ | ⟨f, v, g1, g2, h0, h1, h2, h3, h4, h5⟩
  · exact ⟨c, s, x, v.toInt64, _, _, g2, by omega, by omega, h5, lw_161 N L i hi hL l5 l6 c s c s x x o v.toInt64 g g1 g2 0 v (h_161 N L c s x o (g 0 0 (i + 1)) (g 0 0 (i + 2)) (g 0 0 (i + 3)) (g 0 0 (i + 4)) (if g 0 0 (i + 5) = 0 then 0 else 1) v g g1 (h1 c s x o)) (h2 c s x v.toInt64) h4 (fun _ => rfl) h3⟩
  · rcases cd_161 h0 with rfl | rfl | rfl
    · exact ⟨c + 1, s + 6, mx x 30, o, _, _, g2, by omega, by omega, h5, lw_161 N L i hi hL l5 l6 c s (c + 1) (s + 6) x (mx x 30) o o g g1 g2 1 v (ht_161_30 (g 0 0 (i + 1)) (g 0 0 (i + 2)) (g 0 0 (i + 3)) (g 0 0 (i + 4)) (if g 0 0 (i + 5) = 0 then 0 else 1) _ _ (x 30) (h1 c s x o)) (h2 _ _ _ _) (h4.trans (by decide)) (fun k => absurd k (by decide)) h3⟩
    · exact ⟨c + 1, s + 6, mx x 31, o, _, _, g2, by omega, by omega, h5, lw_161 N L i hi hL l5 l6 c s (c + 1) (s + 6) x (mx x 31) o o g g1 g2 2 v (ht_161_31 (g 0 0 (i + 1)) (g 0 0 (i + 2)) (g 0 0 (i + 3)) (g 0 0 (i + 4)) (if g 0 0 (i + 5) = 0 then 0 else 1) _ _ (x 31) (h1 c s x o)) (h2 _ _ _ _) (h4.trans (by decide)) (fun k => absurd k (by decide)) h3⟩
    · exact ⟨c + 1, s + 6, mx x 35, o, _, _, g2, by omega, by omega, h5, lw_161 N L i hi hL l5 l6 c s (c + 1) (s + 6) x (mx x 35) o o g g1 g2 3 v (ht_161_35 (g 0 0 (i + 1)) (g 0 0 (i + 2)) (g 0 0 (i + 3)) (g 0 0 (i + 4)) (if g 0 0 (i + 5) = 0 then 0 else 1) _ _ (x 35) (h1 c s x o)) (h2 _ _ _ _) (h4.trans (by decide)) (fun k => absurd k (by decide)) h3⟩
theorem st_162 (i : Nat) (hi : i + 6 ≤ L) (hL : L ≤ 4000) (h : opI N L 89 134 [.inl (g 0 0 (i + 1))] (cd 162) (nxt N w q a V g) g) : stp N L w q a V i 1040 g := by
  intro c s x o l5 l6
  rcases h with ⟨v, g1, g2, h1, h2, h3, h4, h5⟩ | ⟨f, v, g1, g2, h0, h1, h2, h3, h4, h5⟩
  · exact ⟨c, s, x, v.toInt64, _, _, g2, by omega, by omega, h5, lw_162 N L i hi hL l5 l6 c s c s x x o v.toInt64 g g1 g2 0 v (h_162 N L c s x o (g 0 0 (i + 1)) v g g1 (h1 c s x o)) (h2 c s x v.toInt64) h4 (fun _ => rfl) h3⟩
  · rcases cd_162 h0 with rfl | rfl | rfl
    · exact ⟨c + 1, s + 6, mx x 30, o, _, _, g2, by omega, by omega, h5, lw_162 N L i hi hL l5 l6 c s (c + 1) (s + 6) x (mx x 30) o o g g1 g2 1 v (ht_162_30 (g 0 0 (i + 1)) _ _ (x 30) (h1 c s x o)) (h2 _ _ _ _) (h4.trans (by decide)) (fun k => absurd k (by decide)) h3⟩
    · exact ⟨c + 1, s + 6, mx x 31, o, _, _, g2, by omega, by omega, h5, lw_162 N L i hi hL l5 l6 c s (c + 1) (s + 6) x (mx x 31) o o g g1 g2 2 v (ht_162_31 (g 0 0 (i + 1)) _ _ (x 31) (h1 c s x o)) (h2 _ _ _ _) (h4.trans (by decide)) (fun k => absurd k (by decide)) h3⟩
    · exact ⟨c + 1, s + 6, mx x 33, o, _, _, g2, by omega, by omega, h5, lw_162 N L i hi hL l5 l6 c s (c + 1) (s + 6) x (mx x 33) o o g g1 g2 3 v (ht_162_33 (g 0 0 (i + 1)) _ _ (x 33) (h1 c s x o)) (h2 _ _ _ _) (h4.trans (by decide)) (fun k => absurd k (by decide)) h3⟩
theorem st_163 (i : Nat) (hi : i + 6 ≤ L) (hL : L ≤ 4000) (h : opI N L 90 135 [.inl (g 0 0 (i + 1))] (cd 163) (nxt N w q a V g) g) : stp N L w q a V i 1096 g := by
  intro c s x o l5 l6
  rcases h with ⟨v, g1, g2, h1, h2, h3, h4, h5⟩ | ⟨f, v, g1, g2, h0, h1, h2, h3, h4, h5⟩
  · exact ⟨c, s, x, v.toInt64, _, _, g2, by omega, by omega, h5, lw_163 N L i hi hL l5 l6 c s c s x x o v.toInt64 g g1 g2 0 v (h_163 N L c s x o (g 0 0 (i + 1)) v g g1 (h1 c s x o)) (h2 c s x v.toInt64) h4 (fun _ => rfl) h3⟩
  · rcases cd_163 h0 with rfl | rfl | rfl
    · exact ⟨c + 1, s + 6, mx x 30, o, _, _, g2, by omega, by omega, h5, lw_163 N L i hi hL l5 l6 c s (c + 1) (s + 6) x (mx x 30) o o g g1 g2 1 v (ht_163_30 (g 0 0 (i + 1)) _ _ (x 30) (h1 c s x o)) (h2 _ _ _ _) (h4.trans (by decide)) (fun k => absurd k (by decide)) h3⟩
    · exact ⟨c + 1, s + 6, mx x 31, o, _, _, g2, by omega, by omega, h5, lw_163 N L i hi hL l5 l6 c s (c + 1) (s + 6) x (mx x 31) o o g g1 g2 2 v (ht_163_31 (g 0 0 (i + 1)) _ _ (x 31) (h1 c s x o)) (h2 _ _ _ _) (h4.trans (by decide)) (fun k => absurd k (by decide)) h3⟩
    · exact ⟨c + 1, s + 6, mx x 33, o, _, _, g2, by omega, by omega, h5, lw_163 N L i hi hL l5 l6 c s (c + 1) (s + 6) x (mx x 33) o o g g1 g2 3 v (ht_163_33 (g 0 0 (i + 1)) _ _ (x 33) (h1 c s x o)) (h2 _ _ _ _) (h4.trans (by decide)) (fun k => absurd k (by decide)) h3⟩
theorem st_164 (i : Nat) (hi : i + 6 ≤ L) (hL : L ≤ 4000) (h : opV N L 92 138 [.inl (g 0 0 (i + 1)), .inl (if g 0 0 (i + 2) = 0 then 0 else 1)] (cd 164) (nxt N w q a V g) g) : stp N L w q a V i 1152 g := by
  intro c s x o l5 l6
  rcases h with ⟨g1, g2, h1, h2, h3, h4, h5⟩ | ⟨f, g1, g2, h0, h1, h2, h3, h4, h5⟩
  · exact ⟨c, s, x, o, _, _, g2, by omega, by omega, h5, lw_164 N L i hi hL l5 l6 c s c s x x o o g g1 g2 0 (h_164 N L c s x o (g 0 0 (i + 1)) (if g 0 0 (i + 2) = 0 then 0 else 1) g g1 (h1 c s x o)) (h2 c s x o) h4 trivial h3⟩
  · rcases cd_164 h0 with rfl | rfl
    · exact ⟨c + 1, s + 6, mx x 30, o, _, _, g2, by omega, by omega, h5, lw_164 N L i hi hL l5 l6 c s (c + 1) (s + 6) x (mx x 30) o o g g1 g2 1 (ht_164_30 (g 0 0 (i + 1)) (if g 0 0 (i + 2) = 0 then 0 else 1) _ _ (x 30) (h1 c s x o)) (h2 _ _ _ _) (h4.trans (by decide)) trivial h3⟩
    · exact ⟨c + 1, s + 6, mx x 31, o, _, _, g2, by omega, by omega, h5, lw_164 N L i hi hL l5 l6 c s (c + 1) (s + 6) x (mx x 31) o o g g1 g2 2 (ht_164_31 (g 0 0 (i + 1)) (if g 0 0 (i + 2) = 0 then 0 else 1) _ _ (x 31) (h1 c s x o)) (h2 _ _ _ _) (h4.trans (by decide)) trivial h3⟩
theorem st_165 (i : Nat) (hi : i + 6 ≤ L) (hL : L ≤ 4000) (h : opV N L 93 139 [.inl (g 0 0 (i + 1))] (cd 165) (nxt N w q a V g) g) : stp N L w q a V i 1216 g := by
  intro c s x o l5 l6
  rcases h with ⟨g1, g2, h1, h2, h3, h4, h5⟩ | ⟨f, g1, g2, h0, h1, h2, h3, h4, h5⟩
  · exact ⟨c, s, x, o, _, _, g2, by omega, by omega, h5, lw_165 N L i hi hL l5 l6 c s c s x x o o g g1 g2 0 (h_165 N L c s x o (g 0 0 (i + 1)) g g1 (h1 c s x o)) (h2 c s x o) h4 trivial h3⟩
  · rcases cd_165 h0 with rfl | rfl
    · exact ⟨c + 1, s + 6, mx x 30, o, _, _, g2, by omega, by omega, h5, lw_165 N L i hi hL l5 l6 c s (c + 1) (s + 6) x (mx x 30) o o g g1 g2 1 (ht_165_30 (g 0 0 (i + 1)) _ _ (x 30) (h1 c s x o)) (h2 _ _ _ _) (h4.trans (by decide)) trivial h3⟩
    · exact ⟨c + 1, s + 6, mx x 31, o, _, _, g2, by omega, by omega, h5, lw_165 N L i hi hL l5 l6 c s (c + 1) (s + 6) x (mx x 31) o o g g1 g2 2 (ht_165_31 (g 0 0 (i + 1)) _ _ (x 31) (h1 c s x o)) (h2 _ _ _ _) (h4.trans (by decide)) trivial h3⟩
theorem st_166 (i : Nat) (hi : i + 6 ≤ L) (hL : L ≤ 4000) (h : opV N L 94 140 [.inl (g 0 0 (i + 1)), .inl (if g 0 0 (i + 2) = 0 then 0 else 1)] (cd 166) (nxt N w q a V g) g) : stp N L w q a V i 1252 g := by
  intro c s x o l5 l6
  rcases h with ⟨g1, g2, h1, h2, h3, h4, h5⟩ | ⟨f, g1, g2, h0, h1, h2, h3, h4, h5⟩
  · exact ⟨c, s, x, o, _, _, g2, by omega, by omega, h5, lw_166 N L i hi hL l5 l6 c s c s x x o o g g1 g2 0 (h_166 N L c s x o (g 0 0 (i + 1)) (if g 0 0 (i + 2) = 0 then 0 else 1) g g1 (h1 c s x o)) (h2 c s x o) h4 trivial h3⟩
  · rcases cd_166 h0 with rfl | rfl
    · exact ⟨c + 1, s + 6, mx x 30, o, _, _, g2, by omega, by omega, h5, lw_166 N L i hi hL l5 l6 c s (c + 1) (s + 6) x (mx x 30) o o g g1 g2 1 (ht_166_30 (g 0 0 (i + 1)) (if g 0 0 (i + 2) = 0 then 0 else 1) _ _ (x 30) (h1 c s x o)) (h2 _ _ _ _) (h4.trans (by decide)) trivial h3⟩
    · exact ⟨c + 1, s + 6, mx x 31, o, _, _, g2, by omega, by omega, h5, lw_166 N L i hi hL l5 l6 c s (c + 1) (s + 6) x (mx x 31) o o g g1 g2 2 (ht_166_31 (g 0 0 (i + 1)) (if g 0 0 (i + 2) = 0 then 0 else 1) _ _ (x 31) (h1 c s x o)) (h2 _ _ _ _) (h4.trans (by decide)) trivial h3⟩
theorem st_o17 (i : Nat) (hi : i + 6 ≤ L) (hL : L ≤ 4000) (h : opO N L 37 141 [.inl (g 0 0 (i + 1))] (nxt N w q a V g) g) : stp N L w q a V i 1316 g := by
  intro c s x o l5 l6
  obtain ⟨v, g2, h1, h2, h3⟩ := h
  exact ⟨c, s, x, o, _, _, g2, by omega, by omega, h3, lw_o17 N L i hi hL l5 l6 c s x o g g g2 v (h1 c s x o) (h2 c s x o) (fun _ => rfl)⟩
theorem st_o18 (i : Nat) (hi : i + 6 ≤ L) (hL : L ≤ 4000) (h : opO N L 38 142 [.inl (g 0 0 (i + 1)), .inl (g 0 0 (i + 2))] (nxt N w q a V g) g) : stp N L w q a V i 1341 g := by
  intro c s x o l5 l6
  obtain ⟨v, g2, h1, h2, h3⟩ := h
  exact ⟨c, s, x, o, _, _, g2, by omega, by omega, h3, lw_o18 N L i hi hL l5 l6 c s x o g g g2 v (h1 c s x o) (h2 c s x o) (fun _ => rfl)⟩
theorem st_o19 (i : Nat) (hi : i + 6 ≤ L) (hL : L ≤ 4000) (h : opO N L 40 143 [.inl (g 0 0 (i + 1)), .inl (g 0 0 (i + 2))] (nxt N w q a V g) g) : stp N L w q a V i 1378 g := by
  intro c s x o l5 l6
  obtain ⟨v, g2, h1, h2, h3⟩ := h
  exact ⟨c, s, x, o, _, _, g2, by omega, by omega, h3, lw_o19 N L i hi hL l5 l6 c s x o g g g2 v (h1 c s x o) (h2 c s x o) (fun _ => rfl)⟩
theorem st_o20 (i : Nat) (hi : i + 6 ≤ L) (hL : L ≤ 4000) (h : opO N L 44 144 [.inl (g 0 0 (i + 1)), .inl (g 0 0 (i + 2))] (nxt N w q a V g) g) : stp N L w q a V i 1415 g := by
  intro c s x o l5 l6
  obtain ⟨v, g2, h1, h2, h3⟩ := h
  exact ⟨c, s, x, o, _, _, g2, by omega, by omega, h3, lw_o20 N L i hi hL l5 l6 c s x o g g g2 v (h1 c s x o) (h2 c s x o) (fun _ => rfl)⟩
theorem st_o21 (i : Nat) (hi : i + 6 ≤ L) (hL : L ≤ 4000) (h : opO N L 47 145 [.inl (g 0 0 (i + 1)), .inl (g 0 0 (i + 2))] (nxt N w q a V g) g) : stp N L w q a V i 1452 g := by
  intro c s x o l5 l6
  obtain ⟨v, g2, h1, h2, h3⟩ := h
  exact ⟨c, s, x, o, _, _, g2, by omega, by omega, h3, lw_o21 N L i hi hL l5 l6 c s x o g g g2 v (h1 c s x o) (h2 c s x o) (fun _ => rfl)⟩
theorem st_o22 (i : Nat) (hi : i + 6 ≤ L) (hL : L ≤ 4000) (h : opO N L 48 146 [.inl (g 0 0 (i + 1))] (nxt N w q a V g) g) : stp N L w q a V i 1489 g := by
  intro c s x o l5 l6
  obtain ⟨v, g2, h1, h2, h3⟩ := h
  exact ⟨c, s, x, o, _, _, g2, by omega, by omega, h3, lw_o22 N L i hi hL l5 l6 c s x o g g g2 v (h1 c s x o) (h2 c s x o) (fun _ => rfl)⟩
theorem st_o23 (i : Nat) (hi : i + 6 ≤ L) (hL : L ≤ 4000) (h : opO N L 49 147 [.inl (g 0 0 (i + 1)), .inl (g 0 0 (i + 2)), .inl (g 0 0 (i + 3))] (nxt N w q a V g) g) : stp N L w q a V i 1514 g := by
  intro c s x o l5 l6
  obtain ⟨v, g2, h1, h2, h3⟩ := h
  exact ⟨c, s, x, o, _, _, g2, by omega, by omega, h3, lw_o23 N L i hi hL l5 l6 c s x o g g g2 v (h1 c s x o) (h2 c s x o) (fun _ => rfl)⟩
theorem st_o24 (i : Nat) (hi : i + 6 ≤ L) (hL : L ≤ 4000) (h : opO N L 50 148 [.inl (g 0 0 (i + 1)), .inl (g 0 0 (i + 2))] (nxt N w q a V g) g) : stp N L w q a V i 1563 g := by
  intro c s x o l5 l6
  obtain ⟨v, g2, h1, h2, h3⟩ := h
  exact ⟨c, s, x, o, _, _, g2, by omega, by omega, h3, lw_o24 N L i hi hL l5 l6 c s x o g g g2 v (h1 c s x o) (h2 c s x o) (fun _ => rfl)⟩
end O17
