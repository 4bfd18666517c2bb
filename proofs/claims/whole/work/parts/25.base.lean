/-! THE PURE LEVEL. A world is (m, kd, w): memory, kinds, (cells, cells used, slots used). -/
theorem qa_fn_eq {P : qP} {L : Nat} {args : List qV} {a : qA} {r : qR} (h : qa_ev P 0 (args ++ List.replicate (L - args.length) (9, 0)) [] a = some r) (hle : a.2.2.1 ≤ r.2.2.2.1 ∧ a.2.2.2.1 ≤ r.2.2.2.2.1 ∧ a.2.2.2.2 ≤ r.2.2.2.2.2 ∧ args.length ≤ L ∧ ∀ v ∈ args, v.1 < 2) : qa_fn P L args a = some r := by
  unfold qa_fn
  rw [h]
  simp only
  rw [if_pos hle]
/-- a loop, round by round -/
theorem qa_iter {α : Type} (F : Nat → α) (n : Nat) (h : ∀ k, k < n → F k = F (k + 1)) : F 0 = F n := by
  induction n with
  | zero => rfl
  | succ n ih => exact (ih (fun k hk => h k (by omega))).trans (h n (by omega))
/-- sums and first places -/
def zsum (g : Int → Int) : Nat → Int
  | 0 => 0
  | n + 1 => zsum g n + g n
/-- the first k below n with p, or -1 -/
def zfind (p : Int → Prop) [DecidablePred p] : Nat → Int
  | 0 => -1
  | n + 1 => if zfind p n = -1 then (if p n then n else -1) else zfind p n
/-! the reference's cells: 77 itself, 78 settings, 79 now, 80 aside, 81 undos, 82 saved, 83 isSaved, 84 accounts, 85 owedTo, 86 items, 87 text, 88 words, 89 command, 90 out -/
def KM (kd : Int → Nat × Int) : Prop := kd 77 = (15, 0) ∧ kd 78 = (101, 7) ∧ kd 79 = (101, 14622) ∧ kd 80 = (101, 14622) ∧ kd 81 = (101, 116976) ∧ kd 82 = (101, 29244) ∧ kd 83 = (103, 2) ∧ kd 84 = (101, 11) ∧ kd 85 = (101, 6) ∧ kd 86 = (101, 792) ∧ kd 87 = (102, 700) ∧ kd 88 = (102, 62) ∧ kd 89 = (101, 305) ∧ kd 90 = (102, 200)
def RM (m : Int → Int → Int) : Prop := m 77 1 = 78 ∧ m 77 2 = 79 ∧ m 77 3 = 80 ∧ m 77 4 = 81 ∧ m 77 6 = 82 ∧ m 77 7 = 83 ∧ m 77 8 = 84 ∧ m 77 12 = 85 ∧ m 77 13 = 86 ∧ m 77 15 = 87 ∧ m 77 23 = 88 ∧ m 77 25 = 89 ∧ m 77 26 = 90
/-- every number of the row is small -/
def BD (ρ : Int → Int) : Prop := ∀ i : Int, -100000000 ≤ ρ i ∧ ρ i ≤ 100000000
theorem zfind_succ (p : Int → Prop) [DecidablePred p] (n : Nat) : zfind p (n + 1) = if zfind p n = -1 then (if p n then (n : Int) else -1) else zfind p n := rfl
theorem zsum_succ (g : Int → Int) (n : Nat) : zsum g (n + 1) = zsum g n + g n := rfl
theorem qa_find {α : Type} (F : Nat → α) (R : Int → α) (p : Int → Prop) [DecidablePred p] (n : Nat) (h : ∀ k : Nat, k < n → F k = if p k then R k else F (k + 1)) : F 0 = if zfind p n = -1 then F n else R (zfind p n) := by
  induction n with
  | zero => rfl
  | succ n ih =>
    rw [ih (fun k hk => h k (by omega)), h n (by omega), zfind_succ]
    by_cases h1 : zfind p n = -1
    · rw [if_pos h1, if_pos h1]
      by_cases h2 : p n
      · rw [if_pos h2, if_pos h2, if_neg (by omega)]
      · rw [if_neg h2, if_neg h2, if_pos rfl]
    · rw [if_neg h1, if_neg h1, if_neg h1]
theorem zsum_le {g : Int → Int} (h : ∀ i, 0 ≤ g i ∧ g i ≤ 1) (n : Nat) : 0 ≤ zsum g n ∧ zsum g n ≤ n := by
  induction n with
  | zero => exact ⟨Int.le_refl _, Int.le_refl _⟩
  | succ n ih =>
    have := h n
    rw [zsum_succ]
    omega
theorem zfind_le {p : Int → Prop} [DecidablePred p] (n : Nat) : -1 ≤ zfind p n ∧ zfind p n < n ∧ (zfind p n ≠ -1 → p (zfind p n)) := by
  induction n with
  | zero => exact ⟨Int.le_refl _, (by show (-1 : Int) < ((0 : Nat) : Int); decide), fun h => absurd rfl h⟩
  | succ n ih =>
    rw [zfind_succ]
    split
    · split
      · rename_i h; exact ⟨by omega, by omega, fun _ => h⟩
      · exact ⟨by omega, by omega, fun h => absurd rfl h⟩
    · exact ⟨ih.1, by omega, ih.2.2⟩
theorem zfind_none {p : Int → Prop} [DecidablePred p] (n : Nat) (h : zfind p n = -1) : ∀ k : Int, 0 ≤ k → k < n → ¬ p k := by
  induction n with
  | zero => intro k h1 h2; omega
  | succ n ih =>
    rw [zfind_succ] at h
    split at h
    · rename_i h0
      split at h
      · omega
      · rename_i h3
        intro k h1 h2
        by_cases hk : k = n
        · rw [hk]; exact h3
        · exact ih h0 k h1 (by omega)
    · rename_i h0; exact absurd h h0
theorem zsum_congr {g g' : Int → Int} (n : Nat) (h : ∀ i : Int, 0 ≤ i → i < n → g i = g' i) : zsum g n = zsum g' n := by
  induction n with
  | zero => rfl
  | succ n ih =>
    rw [zsum_succ, zsum_succ, ih (fun i h1 h2 => h i h1 (by omega)), h n (by omega) (by omega)]
theorem qg_none (P : qP) : qa_go P none = none := rfl
theorem qg_inl (P : qP) (j : Nat) (ls st : List qV) (a : qA) : qa_go P (some (.inl (j, ls, st, a))) = qa_ev P j ls st a := rfl
theorem qg_inr (P : qP) (r : qR) : qa_go P (some (.inr r)) = some r := rfl
theorem qg_ite (P : qP) (c : Prop) (h : Decidable c) (x y : Option qO) : qa_go P (@ite _ c h x y) = @ite _ c h (qa_go P x) (qa_go P y) := by
  split <;> rfl
