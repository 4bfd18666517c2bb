abbrev zA : Type := (Int → Int) × (Int → Int → Int) × (Int → Int → Int) × (Int → Int → Int → Int)
def zsf (g : Int → Int) (k : Int) : Nat → Int
  | 0 => 0
  | n + 1 => g k + zsf g (k + 1) n
abbrev zsum (g : Int → Int) (n : Nat) : Int := zsf g 0 n
def zff (p : Int → Prop) [DecidablePred p] (k : Int) : Nat → Int
  | 0 => -1
  | n + 1 => if p k then k else zff p (k + 1) n
abbrev zfind (p : Int → Prop) [DecidablePred p] (n : Nat) : Int := zff p 0 n
theorem zsf_01 {g : Int → Int} (h : ∀ i, 0 ≤ g i ∧ g i ≤ 1) : ∀ (n : Nat) (k : Int), 0 ≤ zsf g k n ∧ zsf g k n ≤ n := by
  intro n
  induction n with
  | zero => intro k; exact ⟨Int.le_refl _, Int.le_refl _⟩
  | succ n ih =>
    intro k
    have h1 := h k
    have h2 := ih (k + 1)
    simp only [zsf]
    omega
theorem zsf_congr {g g' : Int → Int} : ∀ (n : Nat) (k : Int), (∀ i, k ≤ i → i < k + n → g i = g' i) → zsf g k n = zsf g' k n := by
  intro n
  induction n with
  | zero => intro k _; rfl
  | succ n ih =>
    intro k h
    simp only [zsf]
    rw [ih (k + 1) (fun q h1 h2 => h q (by omega) (by omega)), h k (by omega) (by omega)]
theorem zff_le {p : Int → Prop} [DecidablePred p] : ∀ (n : Nat) (k : Int), zff p k n = -1 ∨ (k ≤ zff p k n ∧ zff p k n < k + n ∧ p (zff p k n)) := by
  intro n
  induction n with
  | zero => intro k; exact Or.inl rfl
  | succ n ih =>
    intro k
    simp only [zff]
    split
    · rename_i h; exact Or.inr ⟨by omega, by omega, h⟩
    · rcases ih (k + 1) with h | ⟨h1, h2, h3⟩
      · exact Or.inl h
      · exact Or.inr ⟨by omega, by omega, h3⟩
theorem zff_none {p : Int → Prop} [DecidablePred p] : ∀ (n : Nat) (k : Int), 0 ≤ k → zff p k n = -1 → ∀ i, k ≤ i → i < k + n → ¬ p i := by
  intro n
  induction n with
  | zero => intro k _ _ i h1 h2; omega
  | succ n ih =>
    intro k k0 h i h1 h2
    simp only [zff] at h
    split at h
    · omega
    · rename_i hp
      by_cases e : i = k
      · rw [e]; exact hp
      · exact ih (k + 1) (by omega) h i (by omega) (by omega)
theorem zff_congr {p q : Int → Prop} [DecidablePred p] [DecidablePred q] : ∀ (n : Nat) (k : Int), (∀ i : Int, k ≤ i → i < k + n → (p i ↔ q i)) → zff p k n = zff q k n := by
  intro n
  induction n with
  | zero => intro k _; rfl
  | succ n ih =>
    intro k h
    simp only [zff]
    rw [ih (k + 1) (fun i h1 h2 => h i (by omega) (by omega))]
    simp only [h k (by omega) (by omega)]
abbrev zBl (A : zA) (b : Int) : Prop := 0 ≤ b ∧ b < 4 ∧ A.2.1 b 1 = 1
abbrev zRl (A : zA) (r : Int) : Prop := 0 ≤ r ∧ r < 6 ∧ A.2.2.1 r 0 = 1
abbrev zIn (A : zA) (r b : Int) : Prop := zRl A r ∧ A.2.2.1 r 1 = b
abbrev zCov (A : zA) (st : Int → Int) (r : Int) : Prop := A.2.2.1 r 4 ≠ -1 ∨ A.1 0 - A.2.2.1 r 3 ≤ st 3
abbrev zLow (A : zA) (r b : Int) : Prop := zIn A r b ∧ A.2.2.1 r 2 ≤ A.2.1 b 4
abbrev zHold (A : zA) (st : Int → Int) (r b : Int) : Prop := zLow A r b ∧ zCov A st r
def zHolder (A : zA) (st : Int → Int) (b : Int) : Int := if A.2.1 b 5 ≤ A.2.1 b 4 then -1 else zfind (fun r => zHold A st r b) 6
def zNotBehind (A : zA) (b p : Int) : Int := zsum (fun r => if zIn A r b ∧ A.2.2.1 r 2 ≤ p then 1 else 0) 6
def zReaders (A : zA) (b : Int) : Int := zsum (fun r => if zIn A r b then 1 else 0) 6
def zLowest (A : zA) (b : Int) : Int := zfind (fun r => zLow A r b) 6
def zCause (A : zA) (st : Int → Int) (b : Int) : Int :=
  if A.2.1 b 5 ≤ A.2.1 b 4 then -1 else if st 1 < A.2.1 b 6 then 0 else if st 0 < A.2.1 b 6 ∧ zHolder A st b = -1 then 1 else
  if (0 < st 2 ∧ st 2 < A.1 0 - A.2.2.2 b (A.2.1 b 4) 0) ∧ zHolder A st b = -1 then 2 else if st 6 = 1 ∧ 0 < zReaders A b ∧ zLowest A b = -1 then 3 else -1
def zOwe (A : zA) (b r j : Int) : Int :=
  if j = 2 then A.2.1 b 4 + 1 else if j = 9 then A.2.2.1 r 9 + 1 else if j = 10 then A.2.2.1 r 10 + A.2.2.2 b (A.2.1 b 4) 2 else if j = 11 then A.2.2.1 r 11 + A.2.2.2 b (A.2.1 b 4) 3 else
  if j = 12 then (if A.2.2.1 r 9 = 0 ∨ A.2.2.2 b (A.2.1 b 4) 3 < A.2.2.1 r 12 then A.2.2.2 b (A.2.1 b 4) 3 else A.2.2.1 r 12) else
  if j = 13 then (if A.2.2.1 r 9 = 0 ∨ A.2.2.1 r 13 < A.2.2.2 b (A.2.1 b 4) 3 then A.2.2.2 b (A.2.1 b 4) 3 else A.2.2.1 r 13) else
  if j = 14 then (if A.2.2.1 r 9 = 0 then A.2.1 b 4 else A.2.2.1 r 14) else if j = 15 then A.2.1 b 4 else if j = 16 + A.2.2.2 b (A.2.1 b 4) 1 then A.2.2.2 b (A.2.1 b 4) 3 else A.2.2.1 r j
def zInc (A : zA) (c : Int) : zA := (fun i => if i = 2 + c then A.1 i + 1 else A.1 i, A.2)
def zCutO (A : zA) (b : Int) : zA := (A.1, fun b' j => if b' = b then (if j = 4 then A.2.1 b 4 + 1 else if j = 6 then A.2.1 b 6 - A.2.2.2 b (A.2.1 b 4) 2 else if j = 7 then A.2.1 b 7 + 1 else A.2.1 b j) else A.2.1 b' j,
  fun r j => if zLow A r b then zOwe A b r j else A.2.2.1 r j, A.2.2.2)
def zCut1 (A : zA) (b c : Int) : zA := zCutO (zInc A c) b
def zCut (st : Int → Int) (b : Int) : Nat → zA → zA
  | 0, A => A
  | n + 1, A => if zCause A st b = -1 then A else zCut st b n (zCut1 A b (zCause A st b))
def zCutB (st : Int → Int) (b : Int) (A : zA) : zA := zCut st b (A.2.1 b 5 - A.2.1 b 4).toNat A
def zBreak (A : zA) : zA := (fun i => if i = 0 then A.1 0 + 1 else A.1 i, A.2.1,
  fun r j => if zRl A r ∧ A.2.2.1 r 4 ≠ -1 ∧ A.2.2.1 r 4 < A.1 0 + 1 then (if j = 4 then -1 else if j = 6 then A.2.2.1 r 6 + 1 else A.2.2.1 r j) else A.2.2.1 r j, A.2.2.2)
def zCuts (st : Int → Int) : Nat → zA → zA
  | 0, A => A
  | n + 1, A => if zBl (zCuts st n A) n then zCutB st n (zCuts st n A) else zCuts st n A
def zTick (st : Int → Int) (A : zA) : zA := zCuts st 4 (zBreak A)
def zTicks (st : Int → Int) : Nat → zA → zA
  | 0, A => A
  | n + 1, A => zTick st (zTicks st n A)
def KS (kd : Int → Nat × Int) (S : Int) : Prop := kd (-1) = (0, 0) ∧ kd S = (13, 0) ∧ kd (S + 1) = (101, 4) ∧ kd (S + 2) = (116, 4) ∧ kd (S + 3) = (120, 6) ∧ (∀ b, 0 ≤ b → b < 4 → kd (S + 4 + 2 * b) = (6, 0)) ∧ (∀ b, 0 ≤ b → b < 4 → kd (S + 5 + 2 * b) = (119, 512)) ∧ (∀ r, 0 ≤ r → r < 6 → kd (S + 12 + 3 * r) = (10, 0)) ∧ (∀ r, 0 ≤ r → r < 6 → kd (S + 13 + 3 * r) = (7, 0)) ∧ ∀ r, 0 ≤ r → r < 6 → kd (S + 14 + 3 * r) = (101, 10)
def MS (m : Int → Int → Int) (S : Int) : Prop := m S 2 = S + 1 ∧ m S 3 = S + 2 ∧ m S 4 = S + 3 ∧ (∀ b, 0 ≤ b → b < 4 → m (S + 2) b = S + 4 + 2 * b) ∧ (∀ r, 0 ≤ r → r < 6 → m (S + 3) r = S + 12 + 3 * r) ∧ (∀ b, 0 ≤ b → b < 4 → m (S + 4 + 2 * b) 0 = b) ∧ (∀ b, 0 ≤ b → b < 4 → m (S + 4 + 2 * b) 8 = S + 5 + 2 * b) ∧ (∀ r, 0 ≤ r → r < 6 → m (S + 12 + 3 * r) 9 = S + 13 + 3 * r) ∧ ∀ r, 0 ≤ r → r < 6 → m (S + 13 + 3 * r) 7 = S + 14 + 3 * r
def RC (A : zA) (m : Int → Int → Int) (kd : Int → Nat × Int) (S : Int) : Prop := MS m S ∧ m S 0 = A.1 0 ∧ m S 1 = A.1 1 ∧ (∀ i, 0 ≤ i → i < 4 → m (S + 1) i = A.1 (2 + i)) ∧ (∀ b j, 0 ≤ b → b < 4 → 1 ≤ j → j ≤ 7 → m (S + 4 + 2 * b) j = A.2.1 b j) ∧ (∀ r j, 0 ≤ r → r < 6 → 0 ≤ j → j ≤ 8 → m (S + 12 + 3 * r) j = A.2.2.1 r j) ∧
  (∀ r j, 0 ≤ r → r < 6 → A.2.2.1 r 0 = 1 → 0 ≤ j → j ≤ 6 → m (S + 13 + 3 * r) j = A.2.2.1 r (9 + j)) ∧ (∀ r j, 0 ≤ r → r < 6 → A.2.2.1 r 0 = 1 → 0 ≤ j → j < 10 → m (S + 14 + 3 * r) j = A.2.2.1 r (16 + j)) ∧
  ∀ b p, 0 ≤ b → b < 4 → A.2.1 b 1 = 1 → A.2.1 b 4 ≤ p → p < A.2.1 b 5 → kd (m (S + 5 + 2 * b) p) = (9, 0) ∧ ∀ j, 0 ≤ j → j < 4 → m (m (S + 5 + 2 * b) p) j = A.2.2.2 b p j
def CR (st : Int → Int) (m : Int → Int → Int) (kd : Int → Nat × Int) (y z : Int) : Prop := kd y = (11, 0) ∧ m y 0 = z ∧ kd z = (101, 7) ∧ ∀ i, 0 ≤ i → i < 7 → m z i = st i
def zsz (f : Int → Int) (p : Int) : Nat → Int
  | 0 => 0
  | n + 1 => f p + zsz f (p + 1) n
def zlive (A : zA) : Int := zsum (fun b => if A.2.1 b 1 = 1 then A.2.1 b 5 - A.2.1 b 4 else 0) 4
def zgs (A : zA) : Int := A.1 2 + A.1 3 + A.1 4 + A.1 5
def zphi (A : zA) : Int := A.2.1 0 5 + zsum (fun b => if b ≠ 0 ∧ A.2.1 b 1 = 1 then A.2.1 b 5 - A.2.1 b 3 else 0) 4
def zWb (A : zA) (b : Int) : Prop := 0 ≤ A.2.1 b 4 ∧ A.2.1 b 4 ≤ A.2.1 b 5 ∧ A.2.1 b 5 ≤ 512 ∧ 0 ≤ A.2.1 b 7 ∧ A.2.1 b 7 ≤ A.2.1 b 4 ∧ A.2.1 b 6 = zsz (fun p => A.2.2.2 b p 2) (A.2.1 b 4) (A.2.1 b 5 - A.2.1 b 4).toNat
def zWe (A : zA) (b p : Int) : Prop := 0 ≤ A.2.2.2 b p 0 ∧ A.2.2.2 b p 0 ≤ A.1 0 ∧ 0 ≤ A.2.2.2 b p 1 ∧ A.2.2.2 b p 1 ≤ 9 ∧ 1 ≤ A.2.2.2 b p 2 ∧ A.2.2.2 b p 2 ≤ 9 ∧ -99 ≤ A.2.2.2 b p 3 ∧ A.2.2.2 b p 3 ≤ 99
def zWd (A : zA) (r : Int) : Prop := 0 ≤ A.2.2.1 r 9 ∧ A.2.2.1 r 9 ≤ zgs A ∧ 0 ≤ A.2.2.1 r 10 ∧ A.2.2.1 r 10 ≤ 9 * A.2.2.1 r 9 ∧ -99 * A.2.2.1 r 9 ≤ A.2.2.1 r 11 ∧ A.2.2.1 r 11 ≤ 99 * A.2.2.1 r 9 ∧
  (A.2.2.1 r 9 = 0 → A.2.2.1 r 10 = 0 ∧ A.2.2.1 r 11 = 0 ∧ A.2.2.1 r 12 = -1000 ∧ A.2.2.1 r 13 = -1000 ∧ A.2.2.1 r 14 = -1 ∧ A.2.2.1 r 15 = -1 ∧ ∀ k, 16 ≤ k → k < 26 → A.2.2.1 r k = -1000)
def zWr (M : Int) (A : zA) (r : Int) : Prop := zBl A (A.2.2.1 r 1) ∧ A.2.1 (A.2.2.1 r 1) 4 ≤ A.2.2.1 r 2 ∧ A.2.2.1 r 2 ≤ A.2.1 (A.2.2.1 r 1) 5 ∧ 0 ≤ A.2.2.1 r 3 ∧ A.2.2.1 r 3 ≤ A.1 0 ∧ -1 ≤ A.2.2.1 r 4 ∧ A.2.2.1 r 4 ≤ A.1 0 + 60 ∧ 0 ≤ A.2.2.1 r 5 ∧ A.2.2.1 r 5 ≤ M ∧ 0 ≤ A.2.2.1 r 6 ∧ A.2.2.1 r 6 ≤ A.1 0 ∧ 0 ≤ A.2.2.1 r 7 ∧ A.2.2.1 r 7 ≤ M ∧ 0 ≤ A.2.2.1 r 8 ∧ A.2.2.1 r 8 ≤ M
def zT (A : zA) : Prop := A.2.1 0 1 = 1 ∧ A.2.1 0 2 = -1 ∧ A.2.1 0 3 = -1 ∧ ∃ rk : Int → Int, ∀ b, 0 < b → b < 4 → A.2.1 b 1 = 1 → zBl A (A.2.1 b 2) ∧ rk (A.2.1 b 2) < rk b ∧ 0 ≤ A.2.1 b 3 ∧ A.2.1 b 3 ≤ A.2.1 b 5 ∧ A.2.1 b 3 ≤ A.2.1 (A.2.1 b 2) 5
def zP (N : Int) (A : zA) : Prop := zT A ∧ zphi A ≤ A.1 1 ∧ A.1 1 ≤ N
def zW (M : Int) (A : zA) : Prop := (0 ≤ M ∧ M ≤ 500000 ∧ 0 ≤ A.1 0 ∧ A.1 0 ≤ 1000000 ∧ 0 ≤ A.1 1 ∧ A.1 1 ≤ 1000) ∧ (∀ i, 2 ≤ i → i ≤ 5 → 0 ≤ A.1 i) ∧ zgs A + zlive A ≤ M ∧ (∀ b, 0 ≤ b → b < 4 → A.2.1 b 1 = 0 ∨ A.2.1 b 1 = 1) ∧ (∀ r, 0 ≤ r → r < 6 → A.2.2.1 r 0 = 0 ∨ A.2.2.1 r 0 = 1) ∧
  (∀ b, 0 ≤ b → b < 4 → A.2.1 b 1 = 1 → zWb A b) ∧ (∀ b p, 0 ≤ b → b < 4 → A.2.1 b 1 = 1 → A.2.1 b 4 ≤ p → p < A.2.1 b 5 → zWe A b p) ∧ (∀ r, 0 ≤ r → r < 6 → A.2.2.1 r 0 = 1 → zWr M A r) ∧ ∀ r, 0 ≤ r → r < 6 → A.2.2.1 r 0 = 1 → zWd A r
def zS (st : Int → Int) : Prop := 1 ≤ st 0 ∧ st 0 ≤ 400 ∧ 1 ≤ st 1 ∧ st 1 ≤ 900 ∧ 0 ≤ st 2 ∧ st 2 ≤ 500 ∧ 0 ≤ st 3 ∧ st 3 ≤ 99 ∧ 1 ≤ st 4 ∧ st 4 ≤ 9 ∧ 1 ≤ st 5 ∧ st 5 ≤ 60 ∧ 0 ≤ st 6 ∧ st 6 ≤ 1
