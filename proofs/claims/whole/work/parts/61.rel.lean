/-! class and model say the same: the relation between their ints, with what holds throughout -/
def rP (N w q a : Nat) (g : mG) : Prop := g 64 0 0 = nI w ∧ g 64 0 1 = nI q ∧ g 64 0 2 = nI a ∧ g 65 0 1 = nI N ∧ g 65 0 2 = nI w ∧ g 65 0 3 = nI q ∧ g 65 0 4 = nI a
def rM (V n z : Nat) (g : mG) : Prop := g 23 0 0 = nI V ∧ g 65 0 5 = nI V ∧ g 23 0 1 = g 65 0 6 ∧ g 23 0 2 = nI n ∧ g 65 0 7 = nI n ∧ g 23 0 3 = nI z ∧ g 65 0 8 = nI z
/-- a ledger's state, its number of entries once closed, its ensemble, its write sets, its greatest sequences -/
def rLs (l m st : Nat) (g : mG) : Prop := m ≤ 6 ∧ st ≤ 2 ∧ g 20 l 0 = nI st ∧ g 37 0 l = nI st ∧ g 20 l 1 = nI m - 1 ∧ g 38 0 l = nI m - 1 ∧ (¬ st = 2 → m = 0) ∧ ∀ p, p < 4 → g 13 l p = if st = 2 then g 39 0 (4 * l + p) else 0
def rLe (N w l : Nat) (g : mG) : Prop := g 20 l 2 = nI w ∧ (∀ i, i < w → ∃ k, k < N ∧ g 11 l i = nI k ∧ g 36 0 (4 * l + i) = nI k) ∧ (∀ i j, i < w → j < w → g 36 0 (4 * l + i) = g 36 0 (4 * l + j) → i = j) ∧ ∀ i, w ≤ i → i < 4 → g 11 l i = -1
def inW (w q l e k : Nat) (g : mG) : Prop := ∃ i, i < q ∧ g 36 0 (4 * l + (e + i) % w) = nI k
def rLw (w q l : Nat) (g : mG) : Prop := ∀ e, e < 6 → m6 (g 12 l e) ∧ ∀ k, k < 6 → (bt (g 12 l e) k ↔ inW w q l e k g)
def rL (N w q l : Nat) (g : mG) : Prop := (∃ m st, rLs l m st g) ∧ rLe N w l g ∧ rLw w q l g
/-- a ledger that is not there yet -/
def rE (l : Nat) (g : mG) : Prop := g 20 l 0 = 0 ∧ g 20 l 1 = -1 ∧ g 20 l 2 = 0 ∧ (∀ i, i < 4 → g 11 l i = -1) ∧ (∀ e, e < 6 → g 12 l e = 0) ∧ (∀ p, p < 4 → g 13 l p = 0) ∧ ∀ e, e < 8 → g 17 0 (8 * l + e) = 0
def rC (n z : Nat) (g : mG) : Prop := (∀ l, l + 1 < n → g 37 0 l = 2) ∧ ∀ l, l < z → g 37 0 l = 2
def rS (M : Nat) (g : mG) : Prop := g 24 0 0 = nI M ∧ g 65 0 14 = nI M ∧ (∀ i, i < 61 → g 14 0 i = g 41 0 i ∧ g 15 0 i = g 42 0 i ∧ g 16 0 i = g 43 0 i ∧ ∃ p, p < 4 ∧ g 14 0 i = nI p) ∧ ∀ t, t < 80 → g 17 0 t = g 44 0 t ∧ ∃ j, j ≤ M ∧ g 17 0 t = nI j
def rH (g : mG) : Prop := ∀ p, p < 4 → g 29 0 p = g 45 0 p
def rKu (k : Nat) (g : mG) : Prop := (g 26 k 0 = 0 ∨ g 26 k 0 = 1) ∧ g 46 0 k = g 26 k 0 ∧ m10 (g 26 k 1) ∧ ∀ l, l < 10 → (bt (g 26 k 1) l ↔ ¬ g 49 0 (10 * k + l) = 0)
def rKe (k l e : Nat) (g : mG) : Prop := g 47 0 (80 * k + 8 * l + e) = (if bt (g 1 k l) e then g 17 0 (8 * l + e) else 0) ∧ g 48 0 (80 * k + 8 * l + e) = bI (bt (g 2 k l) e) ∧ (bt (g 2 k l) e → bt (g 1 k l) e) ∧ (bt (g 1 k l) e → bt (g 12 l e) k ∧ ¬ g 17 0 (8 * l + e) = 0)
def rKh (k : Nat) (g : mG) : Prop := ∀ l, l < 10 → m6 (g 1 k l) ∧ m6 (g 2 k l) ∧ ∀ e, e < 8 → rKe k l e g
/-- a broker: its state, its ledger, what it was told, what was replied -/
def rBs (b n V ph l v : Nat) (g : mG) : Prop := ph ≤ 3 ∧ l < 10 ∧ v ≤ V ∧ (g 28 b 0 = 0 ∨ g 28 b 0 = 1) ∧ g 50 0 b = g 28 b 0 ∧ (g 28 b 0 = 0 → ph = 0) ∧ g 28 b 1 = nI ph ∧ g 51 0 b = nI ph ∧ g 28 b 2 = nI v ∧ g 52 0 b = nI v ∧ g 53 0 b = nI l ∧ (ph = 1 ∨ ph = 3 → l < n ∧ g 28 b 3 = nI l) ∧ (¬ (ph = 1 ∨ ph = 3) → g 28 b 3 = -1)
def rBw (b ph l e : Nat) (g : mG) : Prop := e ≤ 6 ∧ g 28 b 4 = nI e ∧ g 54 0 b = nI e ∧ (¬ ph = 3 → e = 0) ∧ g 28 b 5 = nI (F106 b g e 0) ∧ (∀ i, i < 6 → g 3 b i = g 55 0 (6 * b + i) ∧ m6 (g 3 b i) ∧ (e ≤ i → g 3 b i = 0)) ∧ (ph = 3 → ∀ i, i < 6 → (i < e → ¬ g 17 0 (8 * l + i) = 0) ∧ (e ≤ i → g 17 0 (8 * l + i) = 0))
def rBr (b ph l : Nat) (g : mG) : Prop := g 28 b 6 = g 56 0 b ∧ m6 (g 28 b 6) ∧ (¬ ph = 1 → g 28 b 6 = 0) ∧ ∀ k, k < 6 → g 4 b k = g 57 0 (6 * b + k) ∧ m6 (g 4 b k) ∧ m6 (g 58 0 (6 * b + k)) ∧ g 5 b k = g 57 0 (6 * b + k) ||| g 58 0 (6 * b + k) ∧ (¬ bt (g 28 b 6) k → g 4 b k = 0) ∧ (¬ ph = 1 → g 5 b k = 0 ∧ g 58 0 (6 * b + k) = 0) ∧ ∀ i, i < 6 → bt (g 5 b k) i → bt (g 12 l i) k ∧ ¬ g 17 0 (8 * l + i) = 0
def rB (n V b : Nat) (g : mG) : Prop := ∃ ph l v e, rBs b n V ph l v g ∧ rBw b ph l e g ∧ rBr b ph l g
def rWo (g : mG) : Prop := ∀ b b', b < 3 → b' < 3 → ¬ b = b' → g 51 0 b = 3 → g 51 0 b' = 3 → ¬ g 53 0 b = g 53 0 b'
/-- a broker that is up to date: ready only when the newest ledger is closed; else its ledger is the newest -/
def rU (g : mG) : Prop := ∀ b, b < 3 → g 52 0 b = g 65 0 5 → (g 51 0 b = 2 → ∀ m, m < 10 → g 65 0 7 = nI (m + 1) → g 37 0 m = 2) ∧ (g 51 0 b = 1 ∨ g 51 0 b = 3 → g 65 0 7 = g 53 0 b + 1)
def rW (g : mG) : Prop := rWo g ∧ rU g
/-- a delivery: its consumers, what is acknowledged, what was sent to whom -/
def rDc (d : Nat) (g : mG) : Prop := m6 (g 7 d 0) ∧ (∀ q, q < 4 → (bt (g 7 d 0) q → ∃ r, r ≤ 1000 ∧ g 9 d q = nI r ∧ g 61 0 (4 * d + q) = nI (r + 1)) ∧ (¬ bt (g 7 d 0) q → g 61 0 (4 * d + q) = 0)) ∧ ∃ p p', p < 4 ∧ p' ≤ 4 ∧ g 7 d 1 = nI p ∧ g 62 0 d = nI p' ∧ p' % 4 = (p + 1) % 4
def rDa (d : Nat) (g : mG) : Prop := ∀ l, l < 10 → m6 (g 22 (2 + d) l) ∧ ∀ e, e < 8 → g 59 0 (80 * d + 8 * l + e) = bI (bt (g 22 (2 + d) l) e)
def rDt (d t : Nat) (g : mG) : Prop := (g 10 d t = -1 ∧ g 60 0 (80 * d + t) = 0) ∨ ∃ q, q < 4 ∧ t % 8 < 6 ∧ g 10 d t = nI q ∧ g 60 0 (80 * d + t) = nI (q + 1)
def rDs (d : Nat) (g : mG) : Prop := ∀ t, t < 80 → ¬ bt (g 22 (2 + d) (t / 8)) (t % 8) → rDt d t g
def rD (d : Nat) (g : mG) : Prop := rDc d g ∧ rDa d g ∧ rDs d g
def rV (t : Nat) (g : mG) : Prop := ∀ l, l < 10 → m6 (g 22 t l) ∧ ∀ e, e < 8 → g 40 0 (80 * t + 8 * l + e) = bI (bt (g 22 t l) e)
def pr (N w q a : Nat) : Prop := 3 ≤ N ∧ N ≤ 6 ∧ 1 ≤ w ∧ w ≤ 4 ∧ w ≤ N ∧ 1 ≤ q ∧ q ≤ w ∧ 1 ≤ a ∧ a ≤ q
/-- the ledgers -/
def rLL (N w q n z : Nat) (g : mG) : Prop := (∀ l, l < n → rL N w q l g) ∧ (∀ l, n ≤ l → l < 10 → rE l g) ∧ rC n z g
def Rel (N w q a V n z M : Nat) (g : mG) : Prop := rP N w q a g ∧ rM V n z g ∧ rLL N w q n z g ∧ rS M g ∧ rH g ∧ (∀ k, k < N → rKu k g ∧ rKh k g) ∧ (∀ b, b < 3 → rB n V b g) ∧ rW g ∧ (∀ d, d < 6 → rD d g) ∧ (∀ t, t < 2 → rV t g)
/-- numbers in their bounds -/
def nb (V n z M : Nat) : Prop := V ≤ 600 ∧ n ≤ 10 ∧ z ≤ n ∧ M ≤ 60
