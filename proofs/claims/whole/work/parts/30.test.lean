theorem qg_none (P : qP) : qa_go P none = none := rfl
theorem qg_inl (P : qP) (j : Nat) (ls st : List qV) (a : qA) : qa_go P (some (.inl (j, ls, st, a))) = qa_ev P j ls st a := rfl
theorem qg_inr (P : qP) (r : qR) : qa_go P (some (.inr r)) = some r := rfl
theorem qg_ite (P : qP) (c : Prop) (h : Decidable c) (x y : Option qO) : qa_go P (@ite _ c h x y) = @ite _ c h (qa_go P x) (qa_go P y) := by
  split <;> rfl
theorem t_isIn (a : qA) (r h : Int) (k1 : (a.2.1 r).1 = 10) (k2 : (a.2.1 h).1 = 6) : f_X6_isIn [(1, r), (1, h)] a = some (.inl (some (0, if a.1 r 0 = 0 then 0 else if a.1 r 1 = a.1 h 0 then 1 else 0)), a) := by
  unfold f_X6_isIn qa_fn
  simp [ev_X6_isIn_0, ev_X6_isIn_1, ev_X6_isIn_2, B_X6_isIn_0, B_X6_isIn_1, B_X6_isIn_2, q_load, q_get, q_ifeq, q_cmpne, q_const, q_goto, q_retz, qg_none, qg_inl, qg_inr, qg_ite, k1, k2]
  sorry
theorem t_at (a : qA) (b p : Int) (k1 : (a.2.1 b).1 = 6) (k2 : a.2.1 (a.1 b 8) = (119, 512)) : f_X2_at [(1, b), (0, p)] a = some (.inl (some (1, if a.1 b 4 ≤ p ∧ p < a.1 b 5 ∧ 0 ≤ p ∧ p < 512 then a.1 (a.1 b 8) p else -1)), a) := by
  unfold f_X2_at qa_fn
  simp [ev_X2_at_0, ev_X2_at_1, ev_X2_at_2, ev_X2_at_3, ev_X2_at_4, B_X2_at_0, B_X2_at_1, B_X2_at_2, B_X2_at_3, B_X2_at_4, q_load, q_store, q_get, q_ifeq, q_iflt, q_cmpne, q_cmplt, q_cmpge, q_alen, q_ald, q_const, q_goto, q_ret, qa_free, qg_none, qg_inl, qg_inr, qg_ite, k1, k2]
  sorry
