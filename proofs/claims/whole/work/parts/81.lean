/-- an item of an entry, at place q of the items -/
def zit (m : Int → Int → Int) (q p k s v : Int) : Int → Int → Int := fun c i => if c = 86 ∧ 8 * q ≤ i ∧ i < 8 * q + 8 then (if i = 8 * q then 0 else if i = 8 * q + 1 then p else if i = 8 * q + 2 then k else if i = 8 * q + 3 then s else if i = 8 * q + 4 then v else -1) else if c = 77 ∧ i = 14 then q + 1 else m c i
theorem zit_eq {m : Int → Int → Int} {q p k s v : Int} : qa_up (qa_up (qa_up (qa_up (qa_up (qa_up (qa_up (qa_up (qa_up m 86 (8 * q) 0) 86 (8 * q + 1) p) 86 (8 * q + 2) k) 86 (8 * q + 3) s) 86 (8 * q + 4) v) 86 (8 * q + 5) (-1)) 86 (8 * q + 6) (-1)) 86 (8 * q + 7) (-1)) 77 14 (q + 1) = zit m q p k s v := by
  funext c i
  unfold qa_up zit
  by_cases hc : c = 86
  · subst hc
    by_cases hi : 8 * q ≤ i ∧ i < 8 * q + 8
    · rw [if_pos (show (86 : Int) = 86 ∧ 8 * q ≤ i ∧ i < 8 * q + 8 from ⟨rfl, hi⟩)]
      have : i = 8 * q ∨ i = 8 * q + 1 ∨ i = 8 * q + 2 ∨ i = 8 * q + 3 ∨ i = 8 * q + 4 ∨ i = 8 * q + 5 ∨ i = 8 * q + 6 ∨ i = 8 * q + 7 := by omega
      rcases this with h | h | h | h | h | h | h | h <;> simp [h] <;> omega
    · rw [if_neg (show ¬ ((86 : Int) = 86 ∧ 8 * q ≤ i ∧ i < 8 * q + 8) from fun z => hi z.2)]
      have n0 : ¬ i = 8 * q := by omega
      have n1 : ¬ i = 8 * q + 1 := by omega
      have n2 : ¬ i = 8 * q + 2 := by omega
      have n3 : ¬ i = 8 * q + 3 := by omega
      have n4 : ¬ i = 8 * q + 4 := by omega
      have n5 : ¬ i = 8 * q + 5 := by omega
      have n6 : ¬ i = 8 * q + 6 := by omega
      have n7 : ¬ i = 8 * q + 7 := by omega
      simp [n0, n1, n2, n3, n4, n5, n6, n7]
  · simp [hc]
