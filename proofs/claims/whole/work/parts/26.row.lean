/-! what the row says: its branches 6 + 7 b + (is, first, many, total, parent, fork, cuts), its readers 34 + 26 r + (is, in, place, seen, promise, kept, broken, read, summaries; debt: many, size, sum, least, most, first, last, by key), entries' times 190 + 1804 b + k, the rest of them 7406 + 1804 b + k; st: the settings -/
abbrev zB (ρ : Int → Int) (b : Int) : Prop := 0 ≤ b ∧ b < 4 ∧ ρ (6 + 7 * b) = 1
abbrev zR (ρ : Int → Int) (r : Int) : Prop := 0 ≤ r ∧ r < 6 ∧ ρ (34 + 26 * r) = 1
abbrev zin (ρ : Int → Int) (r b : Int) : Prop := zR ρ r ∧ ρ (34 + 26 * r + 1) = b
abbrev zcov (ρ st : Int → Int) (r : Int) : Prop := ρ (34 + 26 * r + 4) ≠ -1 ∨ ρ 0 - ρ (34 + 26 * r + 3) ≤ st 3
abbrev zlow (ρ : Int → Int) (r b : Int) : Prop := zin ρ r b ∧ ρ (34 + 26 * r + 2) ≤ ρ (6 + 7 * b + 1)
abbrev zhold (ρ st : Int → Int) (r b : Int) : Prop := zlow ρ r b ∧ zcov ρ st r
def zholder (ρ st : Int → Int) (b : Int) : Int := if ρ (6 + 7 * b + 2) ≤ 0 then -1 else zfind (fun r => zhold ρ st r b) 6
def zreadersIn (ρ : Int → Int) (b : Int) : Int := zsum (fun r => if zin ρ r b then 1 else 0) 6
def zcause (ρ st : Int → Int) (b : Int) : Int :=
  if ρ (6 + 7 * b + 2) = 0 then -1 else if st 1 < ρ (6 + 7 * b + 3) then 0 else if st 0 < ρ (6 + 7 * b + 3) ∧ zholder ρ st b = -1 then 1 else
  if (0 < st 2 ∧ st 2 < ρ 0 - ρ (190 + 1804 * b)) ∧ zholder ρ st b = -1 then 2 else if st 6 = 1 ∧ 0 < zreadersIn ρ b ∧ zfind (fun r => zlow ρ r b) 6 = -1 then 3 else -1
abbrev zkey (ρ : Int → Int) (b k : Int) : Int := ρ (7406 + 1804 * b + k) / 2000
abbrev zsize (ρ : Int → Int) (b k : Int) : Int := ρ (7406 + 1804 * b + k) / 200 % 10
abbrev zval (ρ : Int → Int) (b k : Int) : Int := ρ (7406 + 1804 * b + k) % 200 - 99
abbrev zend (ρ : Int → Int) (b : Int) : Int := ρ (6 + 7 * b + 1) + ρ (6 + 7 * b + 2)
def up1 (ρ : Int → Int) (i v : Int) : Int → Int := fun j => if j = i then v else ρ j
def setC (m : Int → Int → Int) (c : Int) (ρ : Int → Int) : Int → Int → Int := fun s => if s = c then ρ else m s
theorem qa_up_eq (m : Int → Int → Int) (s i v : Int) : qa_up m s i v = setC m s (up1 (m s) i v) := by
  funext s' i'
  unfold qa_up setC up1
  by_cases h : s' = s
  · subst h
    simp
  · simp [h]
theorem setC_self (m : Int → Int → Int) (c : Int) (ρ : Int → Int) : setC m c ρ c = ρ := if_pos rfl
theorem setC_ne (m : Int → Int → Int) {c s : Int} (ρ : Int → Int) (h : s ≠ c) : setC m c ρ s = m s := if_neg h
theorem setC_two (m : Int → Int → Int) (c : Int) (ρ ρ' : Int → Int) : setC (setC m c ρ) c ρ' = setC m c ρ' := by
  funext s
  unfold setC
  split <;> rfl
theorem setC_id (m : Int → Int → Int) (c : Int) : setC m c (m c) = m := by
  funext s
  unfold setC
  split
  · rename_i h; rw [h]
  · rfl
theorem RM_setC {m : Int → Int → Int} {c : Int} {ρ : Int → Int} (h : c ≠ 77) : RM (setC m c ρ) ↔ RM m := by
  unfold RM
  rw [setC_ne m ρ (Ne.symm h)]
theorem RM_77 {m : Int → Int → Int} {i v : Int} (h : i = 0 ∨ i = 5 ∨ i = 9 ∨ i = 10 ∨ i = 11 ∨ i = 14 ∨ (16 ≤ i ∧ i ≤ 22) ∨ i = 24 ∨ i = 27) : RM (setC m 77 (up1 (m 77) i v)) ↔ RM m := by
  unfold RM
  rw [setC_self]
  unfold up1
  rw [if_neg (by omega), if_neg (by omega), if_neg (by omega), if_neg (by omega), if_neg (by omega), if_neg (by omega), if_neg (by omega), if_neg (by omega), if_neg (by omega), if_neg (by omega), if_neg (by omega), if_neg (by omega), if_neg (by omega)]
