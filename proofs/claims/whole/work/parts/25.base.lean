theorem xl0 (t : Nat) (v : Int) (k : qI) (ls st : List qV) (a : qA) : q_load t 0 k ((t, v) :: ls) st a = k ((t, v) :: ls) ((t, v) :: st) a := by simp [q_load]
theorem xl1 (t : Nat) (v : Int) (k : qI) (l0 : qV) (ls st : List qV) (a : qA) : q_load t 1 k (l0 :: (t, v) :: ls) st a = k (l0 :: (t, v) :: ls) ((t, v) :: st) a := by simp [q_load]
theorem xl2 (t : Nat) (v : Int) (k : qI) (l0 l1 : qV) (ls st : List qV) (a : qA) : q_load t 2 k (l0 :: l1 :: (t, v) :: ls) st a = k (l0 :: l1 :: (t, v) :: ls) ((t, v) :: st) a := by simp [q_load]
theorem xl3 (t : Nat) (v : Int) (k : qI) (l0 l1 l2 : qV) (ls st : List qV) (a : qA) : q_load t 3 k (l0 :: l1 :: l2 :: (t, v) :: ls) st a = k (l0 :: l1 :: l2 :: (t, v) :: ls) ((t, v) :: st) a := by simp [q_load]
theorem xl4 (t : Nat) (v : Int) (k : qI) (l0 l1 l2 l3 : qV) (ls st : List qV) (a : qA) : q_load t 4 k (l0 :: l1 :: l2 :: l3 :: (t, v) :: ls) st a = k (l0 :: l1 :: l2 :: l3 :: (t, v) :: ls) ((t, v) :: st) a := by simp [q_load]
theorem xl5 (t : Nat) (v : Int) (k : qI) (l0 l1 l2 l3 l4 : qV) (ls st : List qV) (a : qA) : q_load t 5 k (l0 :: l1 :: l2 :: l3 :: l4 :: (t, v) :: ls) st a = k (l0 :: l1 :: l2 :: l3 :: l4 :: (t, v) :: ls) ((t, v) :: st) a := by simp [q_load]
theorem xl6 (t : Nat) (v : Int) (k : qI) (l0 l1 l2 l3 l4 l5 : qV) (ls st : List qV) (a : qA) : q_load t 6 k (l0 :: l1 :: l2 :: l3 :: l4 :: l5 :: (t, v) :: ls) st a = k (l0 :: l1 :: l2 :: l3 :: l4 :: l5 :: (t, v) :: ls) ((t, v) :: st) a := by simp [q_load]
theorem xl7 (t : Nat) (v : Int) (k : qI) (l0 l1 l2 l3 l4 l5 l6 : qV) (ls st : List qV) (a : qA) : q_load t 7 k (l0 :: l1 :: l2 :: l3 :: l4 :: l5 :: l6 :: (t, v) :: ls) st a = k (l0 :: l1 :: l2 :: l3 :: l4 :: l5 :: l6 :: (t, v) :: ls) ((t, v) :: st) a := by simp [q_load]
theorem xl8 (t : Nat) (v : Int) (k : qI) (l0 l1 l2 l3 l4 l5 l6 l7 : qV) (ls st : List qV) (a : qA) : q_load t 8 k (l0 :: l1 :: l2 :: l3 :: l4 :: l5 :: l6 :: l7 :: (t, v) :: ls) st a = k (l0 :: l1 :: l2 :: l3 :: l4 :: l5 :: l6 :: l7 :: (t, v) :: ls) ((t, v) :: st) a := by simp [q_load]
theorem xl9 (t : Nat) (v : Int) (k : qI) (l0 l1 l2 l3 l4 l5 l6 l7 l8 : qV) (ls st : List qV) (a : qA) : q_load t 9 k (l0 :: l1 :: l2 :: l3 :: l4 :: l5 :: l6 :: l7 :: l8 :: (t, v) :: ls) st a = k (l0 :: l1 :: l2 :: l3 :: l4 :: l5 :: l6 :: l7 :: l8 :: (t, v) :: ls) ((t, v) :: st) a := by simp [q_load]
theorem xl10 (t : Nat) (v : Int) (k : qI) (l0 l1 l2 l3 l4 l5 l6 l7 l8 l9 : qV) (ls st : List qV) (a : qA) : q_load t 10 k (l0 :: l1 :: l2 :: l3 :: l4 :: l5 :: l6 :: l7 :: l8 :: l9 :: (t, v) :: ls) st a = k (l0 :: l1 :: l2 :: l3 :: l4 :: l5 :: l6 :: l7 :: l8 :: l9 :: (t, v) :: ls) ((t, v) :: st) a := by simp [q_load]
theorem xs0 (t : Nat) (v : Int) (k : qI) (l : qV) (ls st : List qV) (a : qA) : q_store t 0 k (l :: ls) ((t, v) :: st) a = k ((t, v) :: ls) st a := by simp [q_store, qa_free]
theorem xs1 (t : Nat) (v : Int) (k : qI) (t1 : Nat) (v1 : Int) (l : qV) (ls st : List qV) (a : qA) : q_store t 1 k ((t1, v1) :: l :: ls) ((t, v) :: st) a = if t1 = 2 ∨ t1 = 4 then none else k ((t1, v1) :: (t, v) :: ls) st a := by
  simp only [q_store, qa_free]
  by_cases h2 : t1 = 2 <;> by_cases h4 : t1 = 4 <;> simp [h2, h4]
theorem xi1 (n : Int) (v : Int) (k : qI) (t1 : Nat) (v1 : Int) (ls st : List qV) (a : qA) : q_iinc 1 n k ((t1, v1) :: (0, v) :: ls) st a = if t1 = 2 ∨ t1 = 4 then none else if -2147483648 ≤ v + n ∧ v + n < 2147483648 then k ((t1, v1) :: (0, v + n) :: ls) st a else none := by
  simp only [q_iinc, qa_free, qa_rg]
  by_cases h2 : t1 = 2 <;> by_cases h4 : t1 = 4 <;> simp [h2, h4]
theorem xs2 (t : Nat) (v : Int) (k : qI) (l0 : qV) (t1 : Nat) (v1 : Int) (l : qV) (ls st : List qV) (a : qA) : q_store t 2 k (l0 :: (t1, v1) :: l :: ls) ((t, v) :: st) a = if t1 = 2 ∨ t1 = 4 then none else k (l0 :: (t1, v1) :: (t, v) :: ls) st a := by
  simp only [q_store, qa_free]
  by_cases h2 : t1 = 2 <;> by_cases h4 : t1 = 4 <;> simp [h2, h4]
theorem xi2 (n : Int) (v : Int) (k : qI) (l0 : qV) (t1 : Nat) (v1 : Int) (ls st : List qV) (a : qA) : q_iinc 2 n k (l0 :: (t1, v1) :: (0, v) :: ls) st a = if t1 = 2 ∨ t1 = 4 then none else if -2147483648 ≤ v + n ∧ v + n < 2147483648 then k (l0 :: (t1, v1) :: (0, v + n) :: ls) st a else none := by
  simp only [q_iinc, qa_free, qa_rg]
  by_cases h2 : t1 = 2 <;> by_cases h4 : t1 = 4 <;> simp [h2, h4]
theorem xs3 (t : Nat) (v : Int) (k : qI) (l0 l1 : qV) (t1 : Nat) (v1 : Int) (l : qV) (ls st : List qV) (a : qA) : q_store t 3 k (l0 :: l1 :: (t1, v1) :: l :: ls) ((t, v) :: st) a = if t1 = 2 ∨ t1 = 4 then none else k (l0 :: l1 :: (t1, v1) :: (t, v) :: ls) st a := by
  simp only [q_store, qa_free]
  by_cases h2 : t1 = 2 <;> by_cases h4 : t1 = 4 <;> simp [h2, h4]
theorem xi3 (n : Int) (v : Int) (k : qI) (l0 l1 : qV) (t1 : Nat) (v1 : Int) (ls st : List qV) (a : qA) : q_iinc 3 n k (l0 :: l1 :: (t1, v1) :: (0, v) :: ls) st a = if t1 = 2 ∨ t1 = 4 then none else if -2147483648 ≤ v + n ∧ v + n < 2147483648 then k (l0 :: l1 :: (t1, v1) :: (0, v + n) :: ls) st a else none := by
  simp only [q_iinc, qa_free, qa_rg]
  by_cases h2 : t1 = 2 <;> by_cases h4 : t1 = 4 <;> simp [h2, h4]
theorem xs4 (t : Nat) (v : Int) (k : qI) (l0 l1 l2 : qV) (t1 : Nat) (v1 : Int) (l : qV) (ls st : List qV) (a : qA) : q_store t 4 k (l0 :: l1 :: l2 :: (t1, v1) :: l :: ls) ((t, v) :: st) a = if t1 = 2 ∨ t1 = 4 then none else k (l0 :: l1 :: l2 :: (t1, v1) :: (t, v) :: ls) st a := by
  simp only [q_store, qa_free]
  by_cases h2 : t1 = 2 <;> by_cases h4 : t1 = 4 <;> simp [h2, h4]
theorem xi4 (n : Int) (v : Int) (k : qI) (l0 l1 l2 : qV) (t1 : Nat) (v1 : Int) (ls st : List qV) (a : qA) : q_iinc 4 n k (l0 :: l1 :: l2 :: (t1, v1) :: (0, v) :: ls) st a = if t1 = 2 ∨ t1 = 4 then none else if -2147483648 ≤ v + n ∧ v + n < 2147483648 then k (l0 :: l1 :: l2 :: (t1, v1) :: (0, v + n) :: ls) st a else none := by
  simp only [q_iinc, qa_free, qa_rg]
  by_cases h2 : t1 = 2 <;> by_cases h4 : t1 = 4 <;> simp [h2, h4]
theorem xs5 (t : Nat) (v : Int) (k : qI) (l0 l1 l2 l3 : qV) (t1 : Nat) (v1 : Int) (l : qV) (ls st : List qV) (a : qA) : q_store t 5 k (l0 :: l1 :: l2 :: l3 :: (t1, v1) :: l :: ls) ((t, v) :: st) a = if t1 = 2 ∨ t1 = 4 then none else k (l0 :: l1 :: l2 :: l3 :: (t1, v1) :: (t, v) :: ls) st a := by
  simp only [q_store, qa_free]
  by_cases h2 : t1 = 2 <;> by_cases h4 : t1 = 4 <;> simp [h2, h4]
theorem xi5 (n : Int) (v : Int) (k : qI) (l0 l1 l2 l3 : qV) (t1 : Nat) (v1 : Int) (ls st : List qV) (a : qA) : q_iinc 5 n k (l0 :: l1 :: l2 :: l3 :: (t1, v1) :: (0, v) :: ls) st a = if t1 = 2 ∨ t1 = 4 then none else if -2147483648 ≤ v + n ∧ v + n < 2147483648 then k (l0 :: l1 :: l2 :: l3 :: (t1, v1) :: (0, v + n) :: ls) st a else none := by
  simp only [q_iinc, qa_free, qa_rg]
  by_cases h2 : t1 = 2 <;> by_cases h4 : t1 = 4 <;> simp [h2, h4]
theorem xs6 (t : Nat) (v : Int) (k : qI) (l0 l1 l2 l3 l4 : qV) (t1 : Nat) (v1 : Int) (l : qV) (ls st : List qV) (a : qA) : q_store t 6 k (l0 :: l1 :: l2 :: l3 :: l4 :: (t1, v1) :: l :: ls) ((t, v) :: st) a = if t1 = 2 ∨ t1 = 4 then none else k (l0 :: l1 :: l2 :: l3 :: l4 :: (t1, v1) :: (t, v) :: ls) st a := by
  simp only [q_store, qa_free]
  by_cases h2 : t1 = 2 <;> by_cases h4 : t1 = 4 <;> simp [h2, h4]
theorem xi6 (n : Int) (v : Int) (k : qI) (l0 l1 l2 l3 l4 : qV) (t1 : Nat) (v1 : Int) (ls st : List qV) (a : qA) : q_iinc 6 n k (l0 :: l1 :: l2 :: l3 :: l4 :: (t1, v1) :: (0, v) :: ls) st a = if t1 = 2 ∨ t1 = 4 then none else if -2147483648 ≤ v + n ∧ v + n < 2147483648 then k (l0 :: l1 :: l2 :: l3 :: l4 :: (t1, v1) :: (0, v + n) :: ls) st a else none := by
  simp only [q_iinc, qa_free, qa_rg]
  by_cases h2 : t1 = 2 <;> by_cases h4 : t1 = 4 <;> simp [h2, h4]
theorem xs7 (t : Nat) (v : Int) (k : qI) (l0 l1 l2 l3 l4 l5 : qV) (t1 : Nat) (v1 : Int) (l : qV) (ls st : List qV) (a : qA) : q_store t 7 k (l0 :: l1 :: l2 :: l3 :: l4 :: l5 :: (t1, v1) :: l :: ls) ((t, v) :: st) a = if t1 = 2 ∨ t1 = 4 then none else k (l0 :: l1 :: l2 :: l3 :: l4 :: l5 :: (t1, v1) :: (t, v) :: ls) st a := by
  simp only [q_store, qa_free]
  by_cases h2 : t1 = 2 <;> by_cases h4 : t1 = 4 <;> simp [h2, h4]
theorem xi7 (n : Int) (v : Int) (k : qI) (l0 l1 l2 l3 l4 l5 : qV) (t1 : Nat) (v1 : Int) (ls st : List qV) (a : qA) : q_iinc 7 n k (l0 :: l1 :: l2 :: l3 :: l4 :: l5 :: (t1, v1) :: (0, v) :: ls) st a = if t1 = 2 ∨ t1 = 4 then none else if -2147483648 ≤ v + n ∧ v + n < 2147483648 then k (l0 :: l1 :: l2 :: l3 :: l4 :: l5 :: (t1, v1) :: (0, v + n) :: ls) st a else none := by
  simp only [q_iinc, qa_free, qa_rg]
  by_cases h2 : t1 = 2 <;> by_cases h4 : t1 = 4 <;> simp [h2, h4]
theorem xs8 (t : Nat) (v : Int) (k : qI) (l0 l1 l2 l3 l4 l5 l6 : qV) (t1 : Nat) (v1 : Int) (l : qV) (ls st : List qV) (a : qA) : q_store t 8 k (l0 :: l1 :: l2 :: l3 :: l4 :: l5 :: l6 :: (t1, v1) :: l :: ls) ((t, v) :: st) a = if t1 = 2 ∨ t1 = 4 then none else k (l0 :: l1 :: l2 :: l3 :: l4 :: l5 :: l6 :: (t1, v1) :: (t, v) :: ls) st a := by
  simp only [q_store, qa_free]
  by_cases h2 : t1 = 2 <;> by_cases h4 : t1 = 4 <;> simp [h2, h4]
theorem xi8 (n : Int) (v : Int) (k : qI) (l0 l1 l2 l3 l4 l5 l6 : qV) (t1 : Nat) (v1 : Int) (ls st : List qV) (a : qA) : q_iinc 8 n k (l0 :: l1 :: l2 :: l3 :: l4 :: l5 :: l6 :: (t1, v1) :: (0, v) :: ls) st a = if t1 = 2 ∨ t1 = 4 then none else if -2147483648 ≤ v + n ∧ v + n < 2147483648 then k (l0 :: l1 :: l2 :: l3 :: l4 :: l5 :: l6 :: (t1, v1) :: (0, v + n) :: ls) st a else none := by
  simp only [q_iinc, qa_free, qa_rg]
  by_cases h2 : t1 = 2 <;> by_cases h4 : t1 = 4 <;> simp [h2, h4]
theorem xs9 (t : Nat) (v : Int) (k : qI) (l0 l1 l2 l3 l4 l5 l6 l7 : qV) (t1 : Nat) (v1 : Int) (l : qV) (ls st : List qV) (a : qA) : q_store t 9 k (l0 :: l1 :: l2 :: l3 :: l4 :: l5 :: l6 :: l7 :: (t1, v1) :: l :: ls) ((t, v) :: st) a = if t1 = 2 ∨ t1 = 4 then none else k (l0 :: l1 :: l2 :: l3 :: l4 :: l5 :: l6 :: l7 :: (t1, v1) :: (t, v) :: ls) st a := by
  simp only [q_store, qa_free]
  by_cases h2 : t1 = 2 <;> by_cases h4 : t1 = 4 <;> simp [h2, h4]
theorem xi9 (n : Int) (v : Int) (k : qI) (l0 l1 l2 l3 l4 l5 l6 l7 : qV) (t1 : Nat) (v1 : Int) (ls st : List qV) (a : qA) : q_iinc 9 n k (l0 :: l1 :: l2 :: l3 :: l4 :: l5 :: l6 :: l7 :: (t1, v1) :: (0, v) :: ls) st a = if t1 = 2 ∨ t1 = 4 then none else if -2147483648 ≤ v + n ∧ v + n < 2147483648 then k (l0 :: l1 :: l2 :: l3 :: l4 :: l5 :: l6 :: l7 :: (t1, v1) :: (0, v + n) :: ls) st a else none := by
  simp only [q_iinc, qa_free, qa_rg]
  by_cases h2 : t1 = 2 <;> by_cases h4 : t1 = 4 <;> simp [h2, h4]
theorem xs10 (t : Nat) (v : Int) (k : qI) (l0 l1 l2 l3 l4 l5 l6 l7 l8 : qV) (t1 : Nat) (v1 : Int) (l : qV) (ls st : List qV) (a : qA) : q_store t 10 k (l0 :: l1 :: l2 :: l3 :: l4 :: l5 :: l6 :: l7 :: l8 :: (t1, v1) :: l :: ls) ((t, v) :: st) a = if t1 = 2 ∨ t1 = 4 then none else k (l0 :: l1 :: l2 :: l3 :: l4 :: l5 :: l6 :: l7 :: l8 :: (t1, v1) :: (t, v) :: ls) st a := by
  simp only [q_store, qa_free]
  by_cases h2 : t1 = 2 <;> by_cases h4 : t1 = 4 <;> simp [h2, h4]
theorem xi10 (n : Int) (v : Int) (k : qI) (l0 l1 l2 l3 l4 l5 l6 l7 l8 : qV) (t1 : Nat) (v1 : Int) (ls st : List qV) (a : qA) : q_iinc 10 n k (l0 :: l1 :: l2 :: l3 :: l4 :: l5 :: l6 :: l7 :: l8 :: (t1, v1) :: (0, v) :: ls) st a = if t1 = 2 ∨ t1 = 4 then none else if -2147483648 ≤ v + n ∧ v + n < 2147483648 then k (l0 :: l1 :: l2 :: l3 :: l4 :: l5 :: l6 :: l7 :: l8 :: (t1, v1) :: (0, v + n) :: ls) st a else none := by
  simp only [q_iinc, qa_free, qa_rg]
  by_cases h2 : t1 = 2 <;> by_cases h4 : t1 = 4 <;> simp [h2, h4]
def q_cr (k : qI) (ls r : List qV) (x : Option qR) : Option qO := match x with
  | some (.inl (some v), a') => k ls (v :: r) a'
  | some (.inl none, a') => k ls r a'
  | some (.inr E, a') => some (.inr (.inr E, a'))
  | none => none
theorem xr1 (k : qI) (ls r : List qV) (v : qV) (a : qA) : q_cr k ls r (some (.inl (some v), a)) = k ls (v :: r) a := rfl
theorem xr0 (k : qI) (ls r : List qV) (a : qA) : q_cr k ls r (some (.inl none, a)) = k ls r a := rfl
theorem xrE (k : qI) (ls r : List qV) (E : Nat) (a : qA) : q_cr k ls r (some (.inr E, a)) = some (.inr (.inr E, a)) := rfl
theorem xri (k : qI) (ls r : List qV) (c : Prop) (h : Decidable c) (x y : Option qR) : q_cr k ls r (@ite _ c h x y) = @ite _ c h (q_cr k ls r x) (q_cr k ls r y) := by split <;> rfl
theorem xc0 (f : List qV → qA → Option qR) (k : qI) (ls : List qV) (r : List qV) (a : qA) : q_call f 0 k ls (r) a = if (r.length ≤ 4 ∨ (r.length ≤ 8 ∧ ∀ v ∈ r, v.1 < 2)) then q_cr k ls r (f [] a) else none := by
  unfold q_call
  by_cases h : (r.length ≤ 4 ∨ (r.length ≤ 8 ∧ ∀ v ∈ r, v.1 < 2))
  · rw [if_pos h, if_pos ⟨by simp; try omega, h⟩]
    simp
    cases f [] a with
    | none => rfl
    | some q => obtain ⟨q1, q2⟩ := q; rcases q1 with (_ | _) | _ <;> rfl
  · rw [if_neg h, if_neg (fun z => h z.2)]
theorem xc1 (f : List qV → qA → Option qR) (k : qI) (ls : List qV) (v0 : qV) (r : List qV) (a : qA) : q_call f 1 k ls (v0 :: r) a = if (r.length ≤ 4 ∨ (r.length ≤ 8 ∧ ∀ v ∈ r, v.1 < 2)) then q_cr k ls r (f [v0] a) else none := by
  unfold q_call
  by_cases h : (r.length ≤ 4 ∨ (r.length ≤ 8 ∧ ∀ v ∈ r, v.1 < 2))
  · rw [if_pos h, if_pos ⟨by simp; try omega, h⟩]
    simp
    cases f [v0] a with
    | none => rfl
    | some q => obtain ⟨q1, q2⟩ := q; rcases q1 with (_ | _) | _ <;> rfl
  · rw [if_neg h, if_neg (fun z => h z.2)]
theorem xv1 (ci : Nat) (f : List qV → qA → Option qR) (k : qI) (ls : List qV) (o : Int) (r : List qV) (a : qA) : q_callv ci f 1 k ls ((1, o) :: r) a = if (a.2.1 o).1 = ci + 1 ∧ (r.length ≤ 4 ∨ (r.length ≤ 8 ∧ ∀ v ∈ r, v.1 < 2)) then q_cr k ls r (f [(1, o)] a) else none := by
  unfold q_callv
  rw [show ((1, o) :: r)[1 - 1]? = some ((1, o) : qV) from rfl]
  show (if (1 : Nat) = 1 ∧ (a.2.1 o).1 = ci + 1 ∧ 1 ≤ 1 then q_call f 1 k ls ((1, o) :: r) a else none) = _
  rw [xc1]
  by_cases h : (a.2.1 o).1 = ci + 1
  · rw [if_pos ⟨rfl, h, by decide⟩]
    by_cases h2 : (r.length ≤ 4 ∨ (r.length ≤ 8 ∧ ∀ v ∈ r, v.1 < 2))
    · rw [if_pos h2, if_pos ⟨h, h2⟩]
    · rw [if_neg h2, if_neg (fun z => h2 z.2)]
  · rw [if_neg (fun z => h z.2.1), if_neg (fun z => h z.1)]
theorem xc2 (f : List qV → qA → Option qR) (k : qI) (ls : List qV) (v0 v1 : qV) (r : List qV) (a : qA) : q_call f 2 k ls (v1 :: v0 :: r) a = if (r.length ≤ 4 ∨ (r.length ≤ 8 ∧ ∀ v ∈ r, v.1 < 2)) then q_cr k ls r (f [v0, v1] a) else none := by
  unfold q_call
  by_cases h : (r.length ≤ 4 ∨ (r.length ≤ 8 ∧ ∀ v ∈ r, v.1 < 2))
  · rw [if_pos h, if_pos ⟨by simp; try omega, h⟩]
    simp
    cases f [v0, v1] a with
    | none => rfl
    | some q => obtain ⟨q1, q2⟩ := q; rcases q1 with (_ | _) | _ <;> rfl
  · rw [if_neg h, if_neg (fun z => h z.2)]
theorem xv2 (ci : Nat) (f : List qV → qA → Option qR) (k : qI) (ls : List qV) (o : Int) (v1 : qV) (r : List qV) (a : qA) : q_callv ci f 2 k ls (v1 :: (1, o) :: r) a = if (a.2.1 o).1 = ci + 1 ∧ (r.length ≤ 4 ∨ (r.length ≤ 8 ∧ ∀ v ∈ r, v.1 < 2)) then q_cr k ls r (f [(1, o), v1] a) else none := by
  unfold q_callv
  rw [show (v1 :: (1, o) :: r)[2 - 1]? = some ((1, o) : qV) from rfl]
  show (if (1 : Nat) = 1 ∧ (a.2.1 o).1 = ci + 1 ∧ 1 ≤ 2 then q_call f 2 k ls (v1 :: (1, o) :: r) a else none) = _
  rw [xc2]
  by_cases h : (a.2.1 o).1 = ci + 1
  · rw [if_pos ⟨rfl, h, by decide⟩]
    by_cases h2 : (r.length ≤ 4 ∨ (r.length ≤ 8 ∧ ∀ v ∈ r, v.1 < 2))
    · rw [if_pos h2, if_pos ⟨h, h2⟩]
    · rw [if_neg h2, if_neg (fun z => h2 z.2)]
  · rw [if_neg (fun z => h z.2.1), if_neg (fun z => h z.1)]
theorem xc3 (f : List qV → qA → Option qR) (k : qI) (ls : List qV) (v0 v1 v2 : qV) (r : List qV) (a : qA) : q_call f 3 k ls (v2 :: v1 :: v0 :: r) a = if (r.length ≤ 4 ∨ (r.length ≤ 8 ∧ ∀ v ∈ r, v.1 < 2)) then q_cr k ls r (f [v0, v1, v2] a) else none := by
  unfold q_call
  by_cases h : (r.length ≤ 4 ∨ (r.length ≤ 8 ∧ ∀ v ∈ r, v.1 < 2))
  · rw [if_pos h, if_pos ⟨by simp; try omega, h⟩]
    simp
    cases f [v0, v1, v2] a with
    | none => rfl
    | some q => obtain ⟨q1, q2⟩ := q; rcases q1 with (_ | _) | _ <;> rfl
  · rw [if_neg h, if_neg (fun z => h z.2)]
theorem xv3 (ci : Nat) (f : List qV → qA → Option qR) (k : qI) (ls : List qV) (o : Int) (v1 v2 : qV) (r : List qV) (a : qA) : q_callv ci f 3 k ls (v2 :: v1 :: (1, o) :: r) a = if (a.2.1 o).1 = ci + 1 ∧ (r.length ≤ 4 ∨ (r.length ≤ 8 ∧ ∀ v ∈ r, v.1 < 2)) then q_cr k ls r (f [(1, o), v1, v2] a) else none := by
  unfold q_callv
  rw [show (v2 :: v1 :: (1, o) :: r)[3 - 1]? = some ((1, o) : qV) from rfl]
  show (if (1 : Nat) = 1 ∧ (a.2.1 o).1 = ci + 1 ∧ 1 ≤ 3 then q_call f 3 k ls (v2 :: v1 :: (1, o) :: r) a else none) = _
  rw [xc3]
  by_cases h : (a.2.1 o).1 = ci + 1
  · rw [if_pos ⟨rfl, h, by decide⟩]
    by_cases h2 : (r.length ≤ 4 ∨ (r.length ≤ 8 ∧ ∀ v ∈ r, v.1 < 2))
    · rw [if_pos h2, if_pos ⟨h, h2⟩]
    · rw [if_neg h2, if_neg (fun z => h2 z.2)]
  · rw [if_neg (fun z => h z.2.1), if_neg (fun z => h z.1)]
theorem xc4 (f : List qV → qA → Option qR) (k : qI) (ls : List qV) (v0 v1 v2 v3 : qV) (r : List qV) (a : qA) : q_call f 4 k ls (v3 :: v2 :: v1 :: v0 :: r) a = if (r.length ≤ 4 ∨ (r.length ≤ 8 ∧ ∀ v ∈ r, v.1 < 2)) then q_cr k ls r (f [v0, v1, v2, v3] a) else none := by
  unfold q_call
  by_cases h : (r.length ≤ 4 ∨ (r.length ≤ 8 ∧ ∀ v ∈ r, v.1 < 2))
  · rw [if_pos h, if_pos ⟨by simp; try omega, h⟩]
    simp
    cases f [v0, v1, v2, v3] a with
    | none => rfl
    | some q => obtain ⟨q1, q2⟩ := q; rcases q1 with (_ | _) | _ <;> rfl
  · rw [if_neg h, if_neg (fun z => h z.2)]
theorem xv4 (ci : Nat) (f : List qV → qA → Option qR) (k : qI) (ls : List qV) (o : Int) (v1 v2 v3 : qV) (r : List qV) (a : qA) : q_callv ci f 4 k ls (v3 :: v2 :: v1 :: (1, o) :: r) a = if (a.2.1 o).1 = ci + 1 ∧ (r.length ≤ 4 ∨ (r.length ≤ 8 ∧ ∀ v ∈ r, v.1 < 2)) then q_cr k ls r (f [(1, o), v1, v2, v3] a) else none := by
  unfold q_callv
  rw [show (v3 :: v2 :: v1 :: (1, o) :: r)[4 - 1]? = some ((1, o) : qV) from rfl]
  show (if (1 : Nat) = 1 ∧ (a.2.1 o).1 = ci + 1 ∧ 1 ≤ 4 then q_call f 4 k ls (v3 :: v2 :: v1 :: (1, o) :: r) a else none) = _
  rw [xc4]
  by_cases h : (a.2.1 o).1 = ci + 1
  · rw [if_pos ⟨rfl, h, by decide⟩]
    by_cases h2 : (r.length ≤ 4 ∨ (r.length ≤ 8 ∧ ∀ v ∈ r, v.1 < 2))
    · rw [if_pos h2, if_pos ⟨h, h2⟩]
    · rw [if_neg h2, if_neg (fun z => h2 z.2)]
  · rw [if_neg (fun z => h z.2.1), if_neg (fun z => h z.1)]
theorem xc5 (f : List qV → qA → Option qR) (k : qI) (ls : List qV) (v0 v1 v2 v3 v4 : qV) (r : List qV) (a : qA) : q_call f 5 k ls (v4 :: v3 :: v2 :: v1 :: v0 :: r) a = if (r.length ≤ 4 ∨ (r.length ≤ 8 ∧ ∀ v ∈ r, v.1 < 2)) then q_cr k ls r (f [v0, v1, v2, v3, v4] a) else none := by
  unfold q_call
  by_cases h : (r.length ≤ 4 ∨ (r.length ≤ 8 ∧ ∀ v ∈ r, v.1 < 2))
  · rw [if_pos h, if_pos ⟨by simp; try omega, h⟩]
    simp
    cases f [v0, v1, v2, v3, v4] a with
    | none => rfl
    | some q => obtain ⟨q1, q2⟩ := q; rcases q1 with (_ | _) | _ <;> rfl
  · rw [if_neg h, if_neg (fun z => h z.2)]
theorem xv5 (ci : Nat) (f : List qV → qA → Option qR) (k : qI) (ls : List qV) (o : Int) (v1 v2 v3 v4 : qV) (r : List qV) (a : qA) : q_callv ci f 5 k ls (v4 :: v3 :: v2 :: v1 :: (1, o) :: r) a = if (a.2.1 o).1 = ci + 1 ∧ (r.length ≤ 4 ∨ (r.length ≤ 8 ∧ ∀ v ∈ r, v.1 < 2)) then q_cr k ls r (f [(1, o), v1, v2, v3, v4] a) else none := by
  unfold q_callv
  rw [show (v4 :: v3 :: v2 :: v1 :: (1, o) :: r)[5 - 1]? = some ((1, o) : qV) from rfl]
  show (if (1 : Nat) = 1 ∧ (a.2.1 o).1 = ci + 1 ∧ 1 ≤ 5 then q_call f 5 k ls (v4 :: v3 :: v2 :: v1 :: (1, o) :: r) a else none) = _
  rw [xc5]
  by_cases h : (a.2.1 o).1 = ci + 1
  · rw [if_pos ⟨rfl, h, by decide⟩]
    by_cases h2 : (r.length ≤ 4 ∨ (r.length ≤ 8 ∧ ∀ v ∈ r, v.1 < 2))
    · rw [if_pos h2, if_pos ⟨h, h2⟩]
    · rw [if_neg h2, if_neg (fun z => h2 z.2)]
  · rw [if_neg (fun z => h z.2.1), if_neg (fun z => h z.1)]
theorem xc6 (f : List qV → qA → Option qR) (k : qI) (ls : List qV) (v0 v1 v2 v3 v4 v5 : qV) (r : List qV) (a : qA) : q_call f 6 k ls (v5 :: v4 :: v3 :: v2 :: v1 :: v0 :: r) a = if (r.length ≤ 4 ∨ (r.length ≤ 8 ∧ ∀ v ∈ r, v.1 < 2)) then q_cr k ls r (f [v0, v1, v2, v3, v4, v5] a) else none := by
  unfold q_call
  by_cases h : (r.length ≤ 4 ∨ (r.length ≤ 8 ∧ ∀ v ∈ r, v.1 < 2))
  · rw [if_pos h, if_pos ⟨by simp; try omega, h⟩]
    simp
    cases f [v0, v1, v2, v3, v4, v5] a with
    | none => rfl
    | some q => obtain ⟨q1, q2⟩ := q; rcases q1 with (_ | _) | _ <;> rfl
  · rw [if_neg h, if_neg (fun z => h z.2)]
theorem xv6 (ci : Nat) (f : List qV → qA → Option qR) (k : qI) (ls : List qV) (o : Int) (v1 v2 v3 v4 v5 : qV) (r : List qV) (a : qA) : q_callv ci f 6 k ls (v5 :: v4 :: v3 :: v2 :: v1 :: (1, o) :: r) a = if (a.2.1 o).1 = ci + 1 ∧ (r.length ≤ 4 ∨ (r.length ≤ 8 ∧ ∀ v ∈ r, v.1 < 2)) then q_cr k ls r (f [(1, o), v1, v2, v3, v4, v5] a) else none := by
  unfold q_callv
  rw [show (v5 :: v4 :: v3 :: v2 :: v1 :: (1, o) :: r)[6 - 1]? = some ((1, o) : qV) from rfl]
  show (if (1 : Nat) = 1 ∧ (a.2.1 o).1 = ci + 1 ∧ 1 ≤ 6 then q_call f 6 k ls (v5 :: v4 :: v3 :: v2 :: v1 :: (1, o) :: r) a else none) = _
  rw [xc6]
  by_cases h : (a.2.1 o).1 = ci + 1
  · rw [if_pos ⟨rfl, h, by decide⟩]
    by_cases h2 : (r.length ≤ 4 ∨ (r.length ≤ 8 ∧ ∀ v ∈ r, v.1 < 2))
    · rw [if_pos h2, if_pos ⟨h, h2⟩]
    · rw [if_neg h2, if_neg (fun z => h2 z.2)]
  · rw [if_neg (fun z => h z.2.1), if_neg (fun z => h z.1)]
theorem xc7 (f : List qV → qA → Option qR) (k : qI) (ls : List qV) (v0 v1 v2 v3 v4 v5 v6 : qV) (r : List qV) (a : qA) : q_call f 7 k ls (v6 :: v5 :: v4 :: v3 :: v2 :: v1 :: v0 :: r) a = if (r.length ≤ 4 ∨ (r.length ≤ 8 ∧ ∀ v ∈ r, v.1 < 2)) then q_cr k ls r (f [v0, v1, v2, v3, v4, v5, v6] a) else none := by
  unfold q_call
  by_cases h : (r.length ≤ 4 ∨ (r.length ≤ 8 ∧ ∀ v ∈ r, v.1 < 2))
  · rw [if_pos h, if_pos ⟨by simp; try omega, h⟩]
    simp
    cases f [v0, v1, v2, v3, v4, v5, v6] a with
    | none => rfl
    | some q => obtain ⟨q1, q2⟩ := q; rcases q1 with (_ | _) | _ <;> rfl
  · rw [if_neg h, if_neg (fun z => h z.2)]
theorem xv7 (ci : Nat) (f : List qV → qA → Option qR) (k : qI) (ls : List qV) (o : Int) (v1 v2 v3 v4 v5 v6 : qV) (r : List qV) (a : qA) : q_callv ci f 7 k ls (v6 :: v5 :: v4 :: v3 :: v2 :: v1 :: (1, o) :: r) a = if (a.2.1 o).1 = ci + 1 ∧ (r.length ≤ 4 ∨ (r.length ≤ 8 ∧ ∀ v ∈ r, v.1 < 2)) then q_cr k ls r (f [(1, o), v1, v2, v3, v4, v5, v6] a) else none := by
  unfold q_callv
  rw [show (v6 :: v5 :: v4 :: v3 :: v2 :: v1 :: (1, o) :: r)[7 - 1]? = some ((1, o) : qV) from rfl]
  show (if (1 : Nat) = 1 ∧ (a.2.1 o).1 = ci + 1 ∧ 1 ≤ 7 then q_call f 7 k ls (v6 :: v5 :: v4 :: v3 :: v2 :: v1 :: (1, o) :: r) a else none) = _
  rw [xc7]
  by_cases h : (a.2.1 o).1 = ci + 1
  · rw [if_pos ⟨rfl, h, by decide⟩]
    by_cases h2 : (r.length ≤ 4 ∨ (r.length ≤ 8 ∧ ∀ v ∈ r, v.1 < 2))
    · rw [if_pos h2, if_pos ⟨h, h2⟩]
    · rw [if_neg h2, if_neg (fun z => h2 z.2)]
  · rw [if_neg (fun z => h z.2.1), if_neg (fun z => h z.1)]
theorem xi0 (n : Int) (v : Int) (k : qI) (ls st : List qV) (a : qA) : q_iinc 0 n k ((0, v) :: ls) st a = if -2147483648 ≤ v + n ∧ v + n < 2147483648 then k ((0, v + n) :: ls) st a else none := by simp [q_iinc, qa_free]
theorem x_const (v : qV) (k : qI) (ls st : List qV) (a : qA) : q_const v k ls st a = k ls (v :: st) a := rfl
theorem x_iadd (k : qI) (ls r : List qV) (x y : Int) (a : qA) : q_iadd k ls ((0, y) :: (0, x) :: r) a = if -2147483648 ≤ x + y ∧ x + y < 2147483648 then k ls ((0, x + y) :: r) a else none := by simp [q_iadd, qa_rg]
theorem x_isub (k : qI) (ls r : List qV) (x y : Int) (a : qA) : q_isub k ls ((0, y) :: (0, x) :: r) a = if -2147483648 ≤ x - y ∧ x - y < 2147483648 then k ls ((0, x - y) :: r) a else none := by simp [q_isub, qa_rg]
theorem x_imul (k : qI) (ls r : List qV) (x y : Int) (a : qA) : q_imul k ls ((0, y) :: (0, x) :: r) a = if -2147483648 ≤ x * y ∧ x * y < 2147483648 then k ls ((0, x * y) :: r) a else none := by simp [q_imul, qa_rg]
theorem x_idiv (k : qI) (ls r : List qV) (x y : Int) (a : qA) : q_idiv k ls ((0, y) :: (0, x) :: r) a = if 0 ≤ x ∧ 0 < y then k ls ((0, x / y) :: r) a else none := by simp [q_idiv]
theorem x_irem (k : qI) (ls r : List qV) (x y : Int) (a : qA) : q_irem k ls ((0, y) :: (0, x) :: r) a = if 0 ≤ x ∧ 0 < y then k ls ((0, x % y) :: r) a else none := by simp [q_irem]
theorem x_ineg (k : qI) (ls r : List qV) (x : Int) (a : qA) : q_ineg k ls ((0, x) :: r) a = if -2147483648 ≤ -x ∧ -x < 2147483648 then k ls ((0, -x) :: r) a else none := by simp [q_ineg, qa_rg]
theorem x_dup (k : qI) (ls r : List qV) (t : Nat) (x : Int) (a : qA) : q_dup k ls ((t, x) :: r) a = if t < 2 then k ls ((t, x) :: (t, x) :: r) a else none := rfl
theorem x_dup_x1 (k : qI) (ls r : List qV) (t u : Nat) (x y : Int) (a : qA) : q_dup_x1 k ls ((t, x) :: (u, y) :: r) a = if t < 2 ∧ u < 2 then k ls ((t, x) :: (u, y) :: (t, x) :: r) a else none := rfl
theorem x_dup2 (k : qI) (ls r : List qV) (t u : Nat) (x y : Int) (a : qA) : q_dup2 k ls ((t, x) :: (u, y) :: r) a = if t < 2 ∧ u < 2 then k ls ((t, x) :: (u, y) :: (t, x) :: (u, y) :: r) a else none := rfl
theorem x_pop (k : qI) (ls r : List qV) (t : Nat) (x : Int) (a : qA) : q_pop k ls ((t, x) :: r) a = if t < 2 then k ls r a else none := rfl
theorem x_goto (T : Nat) (ls st : List qV) (a : qA) : q_goto T ls st a = some (.inl (T, ls, st, a)) := rfl
theorem x_ifeq (T : Nat) (k : qI) (ls r : List qV) (x : Int) (a : qA) : q_ifeq T k ls ((0, x) :: r) a = if x = 0 then some (.inl (T, ls, r, a)) else k ls r a := by simp [q_ifeq]
theorem x_ifne (T : Nat) (k : qI) (ls r : List qV) (x : Int) (a : qA) : q_ifne T k ls ((0, x) :: r) a = if x = 0 then k ls r a else some (.inl (T, ls, r, a)) := by simp [q_ifne]
theorem x_iflt (T : Nat) (k : qI) (ls r : List qV) (x : Int) (a : qA) : q_iflt T k ls ((0, x) :: r) a = if x < 0 then some (.inl (T, ls, r, a)) else k ls r a := by simp [q_iflt]
theorem x_ifge (T : Nat) (k : qI) (ls r : List qV) (x : Int) (a : qA) : q_ifge T k ls ((0, x) :: r) a = if x < 0 then k ls r a else some (.inl (T, ls, r, a)) := by simp [q_ifge]
theorem x_ifgt (T : Nat) (k : qI) (ls r : List qV) (x : Int) (a : qA) : q_ifgt T k ls ((0, x) :: r) a = if 0 < x then some (.inl (T, ls, r, a)) else k ls r a := by simp [q_ifgt]
theorem x_ifle (T : Nat) (k : qI) (ls r : List qV) (x : Int) (a : qA) : q_ifle T k ls ((0, x) :: r) a = if 0 < x then k ls r a else some (.inl (T, ls, r, a)) := by simp [q_ifle]
theorem x_cmpeq (T : Nat) (k : qI) (ls r : List qV) (x y : Int) (a : qA) : q_cmpeq T k ls ((0, y) :: (0, x) :: r) a = if x = y then some (.inl (T, ls, r, a)) else k ls r a := by simp [q_cmpeq]
theorem x_cmpne (T : Nat) (k : qI) (ls r : List qV) (x y : Int) (a : qA) : q_cmpne T k ls ((0, y) :: (0, x) :: r) a = if x = y then k ls r a else some (.inl (T, ls, r, a)) := by simp [q_cmpne]
theorem x_cmplt (T : Nat) (k : qI) (ls r : List qV) (x y : Int) (a : qA) : q_cmplt T k ls ((0, y) :: (0, x) :: r) a = if x < y then some (.inl (T, ls, r, a)) else k ls r a := by simp [q_cmplt]
theorem x_cmpge (T : Nat) (k : qI) (ls r : List qV) (x y : Int) (a : qA) : q_cmpge T k ls ((0, y) :: (0, x) :: r) a = if x < y then k ls r a else some (.inl (T, ls, r, a)) := by simp [q_cmpge]
theorem x_cmpgt (T : Nat) (k : qI) (ls r : List qV) (x y : Int) (a : qA) : q_cmpgt T k ls ((0, y) :: (0, x) :: r) a = if y < x then some (.inl (T, ls, r, a)) else k ls r a := by simp [q_cmpgt]
theorem x_cmple (T : Nat) (k : qI) (ls r : List qV) (x y : Int) (a : qA) : q_cmple T k ls ((0, y) :: (0, x) :: r) a = if y < x then k ls r a else some (.inl (T, ls, r, a)) := by simp [q_cmple]
theorem x_null (T : Nat) (k : qI) (ls r : List qV) (x : Int) (a : qA) : q_null T k ls ((1, x) :: r) a = if x = -1 then some (.inl (T, ls, r, a)) else k ls r a := by simp [q_null]
theorem x_nonnull (T : Nat) (k : qI) (ls r : List qV) (x : Int) (a : qA) : q_nonnull T k ls ((1, x) :: r) a = if x = -1 then k ls r a else some (.inl (T, ls, r, a)) := by simp [q_nonnull]
theorem x_acmpeq (T : Nat) (k : qI) (ls r : List qV) (x y : Int) (a : qA) : q_acmpeq T k ls ((1, y) :: (1, x) :: r) a = if -1 ≤ x ∧ -1 ≤ y then (if x = y then some (.inl (T, ls, r, a)) else k ls r a) else none := by simp [q_acmpeq]
theorem x_acmpne (T : Nat) (k : qI) (ls r : List qV) (x y : Int) (a : qA) : q_acmpne T k ls ((1, y) :: (1, x) :: r) a = if -1 ≤ x ∧ -1 ≤ y then (if x = y then k ls r a else some (.inl (T, ls, r, a))) else none := by simp [q_acmpne]
theorem x_get (ci j t : Nat) (k : qI) (ls r : List qV) (o : Int) (m : Int → Int → Int) (kd : Int → Nat × Int) (w : Nat × Nat × Nat) : q_get ci j t k ls ((1, o) :: r) (m, kd, w) = if (kd o).1 = ci + 1 then k ls ((t, m o (j : Int)) :: r) (m, kd, w) else none := by simp [q_get]
theorem x_put (ci j t : Nat) (k : qI) (ls r : List qV) (o v : Int) (m : Int → Int → Int) (kd : Int → Nat × Int) (w : Nat × Nat × Nat) : q_put ci j t k ls ((t, v) :: (1, o) :: r) (m, kd, w) = if (kd o).1 = ci + 1 then k ls r (qa_up m o (j : Int) v, kd, w) else none := by simp [q_put]
theorem x_putz (ci j : Nat) (k : qI) (ls r : List qV) (o v : Int) (m : Int → Int → Int) (kd : Int → Nat × Int) (w : Nat × Nat × Nat) : q_putz ci j k ls ((0, v) :: (1, o) :: r) (m, kd, w) = if (v = 0 ∨ v = 1) ∧ (kd o).1 = ci + 1 then k ls r (qa_up m o (j : Int) v, kd, w) else none := by simp [q_putz]
theorem x_ald (ty t : Nat) (k : qI) (ls r : List qV) (o i : Int) (m : Int → Int → Int) (kd : Int → Nat × Int) (w : Nat × Nat × Nat) : q_ald ty t k ls ((0, i) :: (1, o) :: r) (m, kd, w) = if (kd o).1 = ty ∧ 0 ≤ i ∧ i < (kd o).2 then k ls ((t, m o i) :: r) (m, kd, w) else none := by simp [q_ald]
theorem x_ast (ty t : Nat) (k : qI) (ls r : List qV) (o i v : Int) (m : Int → Int → Int) (kd : Int → Nat × Int) (w : Nat × Nat × Nat) : q_ast ty t k ls ((t, v) :: (0, i) :: (1, o) :: r) (m, kd, w) = if (kd o).1 = ty ∧ 0 ≤ i ∧ i < (kd o).2 then k ls r (qa_up m o i v, kd, w) else none := by simp [q_ast]
theorem x_bast (k : qI) (ls r : List qV) (o i v : Int) (m : Int → Int → Int) (kd : Int → Nat × Int) (w : Nat × Nat × Nat) : q_bast k ls ((0, v) :: (0, i) :: (1, o) :: r) (m, kd, w) = if (kd o).1 = 102 ∧ 0 ≤ i ∧ i < (kd o).2 then k ls r (qa_up m o i (qa_b v), kd, w) else none := by simp [q_bast]
theorem x_zast (k : qI) (ls r : List qV) (o i v : Int) (m : Int → Int → Int) (kd : Int → Nat × Int) (w : Nat × Nat × Nat) : q_zast k ls ((0, v) :: (0, i) :: (1, o) :: r) (m, kd, w) = if (v = 0 ∨ v = 1) ∧ (kd o).1 = 103 ∧ 0 ≤ i ∧ i < (kd o).2 then k ls r (qa_up m o i v, kd, w) else none := by simp [q_zast]
theorem x_aast (ci : Nat) (k : qI) (ls r : List qV) (o i v : Int) (m : Int → Int → Int) (kd : Int → Nat × Int) (w : Nat × Nat × Nat) : q_aast ci k ls ((1, v) :: (0, i) :: (1, o) :: r) (m, kd, w) = if (v = -1 ∨ (kd v).1 = ci + 1) ∧ (kd o).1 = 111 + ci ∧ 0 ≤ i ∧ i < (kd o).2 then k ls r (qa_up m o i v, kd, w) else none := by simp [q_aast]
theorem x_alen (k : qI) (ls r : List qV) (o : Int) (m : Int → Int → Int) (kd : Int → Nat × Int) (w : Nat × Nat × Nat) : q_alen k ls ((1, o) :: r) (m, kd, w) = if 100 < (kd o).1 then k ls ((0, (kd o).2) :: r) (m, kd, w) else none := by simp [q_alen]
theorem x_obj (k : qI) (ls r : List qV) (o : Int) (a : qA) : q_obj k ls ((1, o) :: r) a = if o ≠ -1 ∧ r.length ≤ 4 then k ls r a else none := by simp [q_obj]
theorem x_ret (t : Nat) (ls : List qV) (v : Int) (a : qA) : q_ret t ls [(t, v)] a = some (.inr (.inl (some (t, v)), a)) := by simp [q_ret]
theorem x_retz (ls : List qV) (v : Int) (a : qA) : q_retz ls [(0, v)] a = if v = 0 ∨ v = 1 then some (.inr (.inl (some (0, v)), a)) else none := by simp [q_retz]
theorem x_vret (ls : List qV) (a : qA) : q_vret ls [] a = some (.inr (.inl none, a)) := rfl
theorem x_throw (E : Nat) (ls st : List qV) (m : Int → Int → Int) (kd : Int → Nat × Int) (n c s : Nat) : q_throw E ls st (m, kd, n, c, s) = some (.inr (.inr E, (m, kd, n, c + 1, s + 6))) := rfl
theorem x_max (k : qI) (ls r : List qV) (x y : Int) (a : qA) : q_max k ls ((0, y) :: (0, x) :: r) a = if r.length ≤ 4 then k ls ((0, if x < y then y else x) :: r) a else none := by simp [q_max]
theorem x_min (k : qI) (ls r : List qV) (x y : Int) (a : qA) : q_min k ls ((0, y) :: (0, x) :: r) a = if r.length ≤ 4 then k ls ((0, if y < x then y else x) :: r) a else none := by simp [q_min]
theorem x_copy (ty : Nat) (k : qI) (ls r : List qV) (n dp d sp s : Int) (m : Int → Int → Int) (kd : Int → Nat × Int) (w : Nat × Nat × Nat) : q_copy ty k ls ((0, n) :: (0, dp) :: (1, d) :: (0, sp) :: (1, s) :: r) (m, kd, w) = if (kd s).1 = ty ∧ (kd d).1 = ty ∧ 0 ≤ n ∧ 0 ≤ dp ∧ 0 ≤ sp ∧ sp + n ≤ (kd s).2 ∧ dp + n ≤ (kd d).2 ∧ r.length ≤ 4 then k ls r (qa_cp m s sp d dp n, kd, w) else none := by simp [q_copy]
theorem x_i2l (k : qI) (ls r : List qV) (x : Int) (a : qA) : q_i2l k ls ((0, x) :: r) a = k ls ((2, x) :: r) a := by simp [q_i2l]
theorem qg_none (P : qP) : qa_go P none = none := rfl
theorem qg_inl (P : qP) (j : Nat) (ls st : List qV) (a : qA) : qa_go P (some (.inl (j, ls, st, a))) = qa_ev P j ls st a := rfl
theorem qg_inr (P : qP) (r : qR) : qa_go P (some (.inr r)) = some r := rfl
theorem qg_ite (P : qP) (c : Prop) (h : Decidable c) (x y : Option qO) : qa_go P (@ite _ c h x y) = @ite _ c h (qa_go P x) (qa_go P y) := by
  split <;> rfl
theorem dT_le {a b : Int} (h : a ≤ b) : (a ≤ b) = True := eq_true h
theorem dF_le {a b : Int} (h : b < a) : (a ≤ b) = False := eq_false (by omega)
theorem dT_lt {a b : Int} (h : a < b) : (a < b) = True := eq_true h
theorem dF_lt {a b : Int} (h : b ≤ a) : (a < b) = False := eq_false (by omega)
theorem dT_eq {a b : Int} (h : a = b) : (a = b) = True := eq_true h
theorem dF_eq {a b : Int} (h : a ≠ b) : (a = b) = False := eq_false h
theorem qa_up_hit (m : Int → Int → Int) (s i v : Int) : qa_up m s i v s i = v := by simp [qa_up]
theorem qa_up_at (m : Int → Int → Int) {s i v s' i' : Int} (h : s' = s ∧ i' = i) : qa_up m s i v s' i' = v := if_pos h
theorem qa_up_no (m : Int → Int → Int) {s i v s' i' : Int} (h : ¬ (s' = s ∧ i' = i)) : qa_up m s i v s' i' = m s' i' := if_neg h
theorem qa_fn_eq {P : qP} {L : Nat} {args : List qV} {a : qA} {r : qR} (h : qa_ev P 0 (args ++ List.replicate (L - args.length) (9, 0)) [] a = some r) (hle : a.2.2.1 ≤ r.2.2.2.1 ∧ a.2.2.2.1 ≤ r.2.2.2.2.1 ∧ a.2.2.2.2 ≤ r.2.2.2.2.2 ∧ args.length ≤ L ∧ ∀ v ∈ args, v.1 < 2) : qa_fn P L args a = some r := by
  unfold qa_fn
  rw [h]
  simp only
  rw [if_pos hle]
theorem qa_iter {α : Type} (F : Nat → α) (n : Nat) (h : ∀ k, k < n → F k = F (k + 1)) : F 0 = F n := by
  induction n with
  | zero => rfl
  | succ n ih => exact (ih (fun k hk => h k (by omega))).trans (h n (by omega))
theorem qa_find {α : Type} (F : Nat → α) (R : Int → α) (p : Int → Prop) [DecidablePred p] (zf : Nat → Int) (z0 : zf 0 = -1) (zs : ∀ n, zf (n + 1) = if zf n = -1 then (if p n then (n : Int) else -1) else zf n) (n : Nat) (h : ∀ k : Nat, k < n → F k = if p k then R k else F (k + 1)) : F 0 = if zf n = -1 then F n else R (zf n) := by
  induction n with
  | zero => simp [z0]
  | succ n ih =>
    rw [ih (fun k hk => h k (by omega)), h n (by omega), zs]
    by_cases h1 : zf n = -1
    · rw [if_pos h1, if_pos h1]
      by_cases h2 : p n
      · rw [if_pos h2, if_pos h2, if_neg (by omega)]
      · rw [if_neg h2, if_neg h2, if_pos rfl]
    · rw [if_neg h1, if_neg h1, if_neg h1]
