theorem w_loop {L : Nat} {xs : Nat → Int32} (hL : (L : Int) ≤ 2560) : ∀ (q k : Nat) (t6 t7 t8 : qV) (N : Int) (g : zG) (m : Int → Int → Int) (kd : Int → Nat × Int) (n c s : Nat), k + q = 513 → GI N g → zpt N g ≤ 4 * k → WI N g m kd n c s → 5 * (k : Int) ≤ L → ∃ m' kd' n' c' s', qa_ev (P_L_law L xs) 1 [(1, -17), (1, 0), (1, 77), (1, 91), (1, 92), (0, 5 * (k : Int)), t6, t7, t8] [] (m, kd, n, c, s) = some (.inl (some (0, 1)), (m', kd', n', c', s')) ∧ c' ≤ 5000 ∧ s' ≤ 1020000 ∧ n ≤ n' ∧ c ≤ c' ∧ s ≤ s' := by
  intro q
  induction q with
  | zero => intro k t6 t7 t8 N g m kd n c s h1 _ _ _ h5; omega
  | succ q ih =>
    intro k t6 t7 t8 N g m kd n c s h1 hG hz I h5
    have tn := hG.2.2.2.2.2.2.2.1.1
    have hN : 4 * N ≤ 4 * k := by
      unfold zpt at hz
      omega
    by_cases hk : 5 * (k : Int) + 5 ≤ L
    · have hi : 0 ≤ 5 * (k : Int) ∧ 5 * (k : Int) + 5 ≤ L ∧ (L : Int) ≤ 100000 := ⟨by omega, hk, by omega⟩
      have H := w_head (xs := xs) (t6 := t6) (t7 := t7) (t8 := t8) (a := (m, kd, n, c, s)) hi rfl
      obtain ⟨g', N', a6, a7, a8, m1, kd1, n1, c1, s1, E, G', Z', W', le⟩ := w_any (xs := xs) (t6 := t6) (t7 := t7) (t8 := t8) hi hG (by omega) (by omega) I (z := (xs (5 * (k : Int)).toNat).toInt % 64) (by omega)
      have T := w_tail (xs := xs) (t6 := a6) (t7 := a7) (t8 := a8) (a := (m1, kd1, n1, c1, s1)) hi
      have ek : 5 * (k : Int) + 5 = 5 * ((k + 1 : Nat) : Int) := by omega
      rw [ek] at T
      obtain ⟨m', kd', n', c', s', F, f1, f2, f3, f4, f5⟩ := ih (k + 1) a6 a7 a8 N' g' m1 kd1 n1 c1 s1 (by omega) G' (by omega) W' (by omega)
      exact ⟨m', kd', n', c', s', H.trans (E.trans (T.trans F)), f1, f2, by omega, by omega, by omega⟩
    · obtain ⟨V, cap, P, p1, p2⟩ := I.1.2.2.2.2.2.2.2.2.2
      have z0 := znull_0 m
      have z1 := zpg_0 cap
      exact ⟨m, kd, n, c, s, w_end ⟨by omega, h5, by omega, by omega⟩, by omega, by omega, Nat.le_refl _, Nat.le_refl _, Nat.le_refl _⟩
