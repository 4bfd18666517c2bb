theorem c_isIn {m : Int → Int → Int} {kd : Int → Nat × Int} {w : Nat × Nat × Nat} {R H : Int} (h1 : kd R = (10, 0)) (h2 : kd H = (6, 0)) : f_X6_isIn [(1, R), (1, H)] (m, kd, w) = some (.inl (some (0, if m R 0 = 0 then 0 else if m R 1 = m H 0 then 1 else 0)), (m, kd, w)) := by
  unfold f_X6_isIn
  refine qa_fn_eq ?_ (by simp)
  simp (disch := omega) [ev_X6_isIn_0, ev_X6_isIn_1, ev_X6_isIn_2, B_X6_isIn_0, B_X6_isIn_1, B_X6_isIn_2, x_const, x_iadd, x_isub, x_imul, x_idiv, x_irem, x_ineg, x_dup, x_dup_x1, x_dup2, x_pop, x_goto, x_ifeq, x_ifne, x_iflt, x_ifge, x_ifgt, x_ifle, x_cmpeq, x_cmpne, x_cmplt, x_cmpge, x_cmpgt, x_cmple, x_null, x_nonnull, x_acmpeq, x_acmpne, x_get, x_put, x_putz, x_ald, x_ast, x_bast, x_zast, x_aast, x_alen, x_obj, x_ret, x_retz, x_vret, x_max, x_min, x_copy, x_i2l, qg_none, qg_inl, qg_inr, qg_ite, xr1, xr0, xrE, xri, xl0, xl1, xl2, xl3, xl4, xl5, xl6, xl7, xl8, xl9, xl10, xs0, xs1, xs2, xs3, xs4, xs5, xs6, xs7, xs8, xs9, xs10, xi0, xi1, xi2, xi3, xi4, xi5, xi6, xi7, xi8, xi9, xi10, xc0, xc1, xc2, xc3, xc4, xc5, xc6, xc7, xv1, xv2, xv3, xv4, xv5, xv6, xv7, dT_le, dF_le, dT_lt, dF_lt, h1, h2]
  repeat' split
  all_goals rfl
theorem c_valueOf {m : Int → Int → Int} {kd : Int → Nat × Int} {w : Nat × Nat × Nat} {st : Int → Int} {y z : Int} (hy : CR st m kd y z) (i : Int) (hi : 0 ≤ i ∧ i < 7) : f_X7_valueOf [(1, y), (0, i)] (m, kd, w) = some (.inl (some (0, st i)), (m, kd, w)) := by
  obtain ⟨y1, y2, y3, y4⟩ := id hy
  unfold f_X7_valueOf
  refine qa_fn_eq ?_ (by simp)
  simp (disch := omega) [ev_X7_valueOf_0, ev_X7_valueOf_1, ev_X7_valueOf_2, B_X7_valueOf_0, B_X7_valueOf_1, B_X7_valueOf_2, x_const, x_iadd, x_isub, x_imul, x_idiv, x_irem, x_ineg, x_dup, x_dup_x1, x_dup2, x_pop, x_goto, x_ifeq, x_ifne, x_iflt, x_ifge, x_ifgt, x_ifle, x_cmpeq, x_cmpne, x_cmplt, x_cmpge, x_cmpgt, x_cmple, x_null, x_nonnull, x_acmpeq, x_acmpne, x_get, x_put, x_putz, x_ald, x_ast, x_bast, x_zast, x_aast, x_alen, x_obj, x_ret, x_retz, x_vret, x_max, x_min, x_copy, x_i2l, qg_none, qg_inl, qg_inr, qg_ite, xr1, xr0, xrE, xri, xl0, xl1, xl2, xl3, xl4, xl5, xl6, xl7, xl8, xl9, xl10, xs0, xs1, xs2, xs3, xs4, xs5, xs6, xs7, xs8, xs9, xs10, xi0, xi1, xi2, xi3, xi4, xi5, xi6, xi7, xi8, xi9, xi10, xc0, xc1, xc2, xc3, xc4, xc5, xc6, xc7, xv1, xv2, xv3, xv4, xv5, xv6, xv7, dT_le, dF_le, dT_lt, dF_lt, y1, y2, y3, y4]
theorem c_isCovered {m : Int → Int → Int} {kd : Int → Nat × Int} {w : Nat × Nat × Nat} {R : Int} (h1 : kd R = (10, 0)) (t p : Int) (hb : -2147483648 ≤ t - m R 3 ∧ t - m R 3 < 2147483648) : f_X6_isCovered [(1, R), (0, t), (0, p)] (m, kd, w) = some (.inl (some (0, if m R 4 = -1 then (if p < t - m R 3 then 0 else 1) else 1)), (m, kd, w)) := by
  unfold f_X6_isCovered
  refine qa_fn_eq ?_ (by simp)
  simp (disch := omega) [ev_X6_isCovered_0, ev_X6_isCovered_1, ev_X6_isCovered_2, ev_X6_isCovered_3, B_X6_isCovered_0, B_X6_isCovered_1, B_X6_isCovered_2, B_X6_isCovered_3, x_const, x_iadd, x_isub, x_imul, x_idiv, x_irem, x_ineg, x_dup, x_dup_x1, x_dup2, x_pop, x_goto, x_ifeq, x_ifne, x_iflt, x_ifge, x_ifgt, x_ifle, x_cmpeq, x_cmpne, x_cmplt, x_cmpge, x_cmpgt, x_cmple, x_null, x_nonnull, x_acmpeq, x_acmpne, x_get, x_put, x_putz, x_ald, x_ast, x_bast, x_zast, x_aast, x_alen, x_obj, x_ret, x_retz, x_vret, x_max, x_min, x_copy, x_i2l, qg_none, qg_inl, qg_inr, qg_ite, xr1, xr0, xrE, xri, xl0, xl1, xl2, xl3, xl4, xl5, xl6, xl7, xl8, xl9, xl10, xs0, xs1, xs2, xs3, xs4, xs5, xs6, xs7, xs8, xs9, xs10, xi0, xi1, xi2, xi3, xi4, xi5, xi6, xi7, xi8, xi9, xi10, xc0, xc1, xc2, xc3, xc4, xc5, xc6, xc7, xv1, xv2, xv3, xv4, xv5, xv6, xv7, dT_le, dF_le, dT_lt, dF_lt, h1]
  repeat' split
  all_goals rfl
theorem c_hasPromise {m : Int → Int → Int} {kd : Int → Nat × Int} {w : Nat × Nat × Nat} {R : Int} (h1 : kd R = (10, 0)) : f_X6_hasPromise [(1, R)] (m, kd, w) = some (.inl (some (0, if m R 0 = 0 then 0 else if m R 4 = -1 then 0 else 1)), (m, kd, w)) := by
  unfold f_X6_hasPromise
  refine qa_fn_eq ?_ (by simp)
  simp (disch := omega) [ev_X6_hasPromise_0, ev_X6_hasPromise_1, ev_X6_hasPromise_2, B_X6_hasPromise_0, B_X6_hasPromise_1, B_X6_hasPromise_2, x_const, x_iadd, x_isub, x_imul, x_idiv, x_irem, x_ineg, x_dup, x_dup_x1, x_dup2, x_pop, x_goto, x_ifeq, x_ifne, x_iflt, x_ifge, x_ifgt, x_ifle, x_cmpeq, x_cmpne, x_cmplt, x_cmpge, x_cmpgt, x_cmple, x_null, x_nonnull, x_acmpeq, x_acmpne, x_get, x_put, x_putz, x_ald, x_ast, x_bast, x_zast, x_aast, x_alen, x_obj, x_ret, x_retz, x_vret, x_max, x_min, x_copy, x_i2l, qg_none, qg_inl, qg_inr, qg_ite, xr1, xr0, xrE, xri, xl0, xl1, xl2, xl3, xl4, xl5, xl6, xl7, xl8, xl9, xl10, xs0, xs1, xs2, xs3, xs4, xs5, xs6, xs7, xs8, xs9, xs10, xi0, xi1, xi2, xi3, xi4, xi5, xi6, xi7, xi8, xi9, xi10, xc0, xc1, xc2, xc3, xc4, xc5, xc6, xc7, xv1, xv2, xv3, xv4, xv5, xv6, xv7, dT_le, dF_le, dT_lt, dF_lt, h1]
  repeat' split
  all_goals rfl
theorem c_at {m : Int → Int → Int} {kd : Int → Nat × Int} {w : Nat × Nat × Nat} {H X p : Int} (h1 : kd H = (6, 0)) (h2 : m H 8 = X) (h3 : kd X = (119, 512)) : f_X2_at [(1, H), (0, p)] (m, kd, w) = some (.inl (some (1, if m H 4 ≤ p ∧ p < m H 5 ∧ 0 ≤ p ∧ p < 512 then m X p else -1)), (m, kd, w)) := by
  unfold f_X2_at
  refine qa_fn_eq ?_ (by simp)
  simp (disch := omega) [ev_X2_at_0, ev_X2_at_1, ev_X2_at_2, ev_X2_at_3, ev_X2_at_4, B_X2_at_0, B_X2_at_1, B_X2_at_2, B_X2_at_3, B_X2_at_4, x_const, x_iadd, x_isub, x_imul, x_idiv, x_irem, x_ineg, x_dup, x_dup_x1, x_dup2, x_pop, x_goto, x_ifeq, x_ifne, x_iflt, x_ifge, x_ifgt, x_ifle, x_cmpeq, x_cmpne, x_cmplt, x_cmpge, x_cmpgt, x_cmple, x_null, x_nonnull, x_acmpeq, x_acmpne, x_get, x_put, x_putz, x_ald, x_ast, x_bast, x_zast, x_aast, x_alen, x_obj, x_ret, x_retz, x_vret, x_max, x_min, x_copy, x_i2l, qg_none, qg_inl, qg_inr, qg_ite, xr1, xr0, xrE, xri, xl0, xl1, xl2, xl3, xl4, xl5, xl6, xl7, xl8, xl9, xl10, xs0, xs1, xs2, xs3, xs4, xs5, xs6, xs7, xs8, xs9, xs10, xi0, xi1, xi2, xi3, xi4, xi5, xi6, xi7, xi8, xi9, xi10, xc0, xc1, xc2, xc3, xc4, xc5, xc6, xc7, xv1, xv2, xv3, xv4, xv5, xv6, xv7, dT_le, dF_le, dT_lt, dF_lt, h1, h2, h3]
  repeat' split
  all_goals first | rfl | omega | skip
  all_goals grind
theorem c_cutFirst {m : Int → Int → Int} {kd : Int → Nat × Int} {w : Nat × Nat × Nat} {H e : Int} (h1 : kd H = (6, 0)) (h2 : kd e = (9, 0)) (b1 : -2147483648 ≤ m H 6 - m e 2 ∧ m H 6 - m e 2 < 2147483648) (b2 : 0 ≤ m H 4 ∧ m H 4 < 10000000) (b3 : 0 ≤ m H 7 ∧ m H 7 < 10000000) : f_X2_cutFirst [(1, H), (1, e)] (m, kd, w) = some (.inl none, (qa_up (qa_up (qa_up m H 6 (m H 6 - m e 2)) H 4 (m H 4 + 1)) H 7 (m H 7 + 1), kd, w)) := by
  have hne : e ≠ H := fun h => by rw [h, h1] at h2; cases h2
  unfold f_X2_cutFirst
  refine qa_fn_eq ?_ (by simp)
  simp (disch := omega) [ev_X2_cutFirst_0, B_X2_cutFirst_0, x_const, x_iadd, x_isub, x_imul, x_idiv, x_irem, x_ineg, x_dup, x_dup_x1, x_dup2, x_pop, x_goto, x_ifeq, x_ifne, x_iflt, x_ifge, x_ifgt, x_ifle, x_cmpeq, x_cmpne, x_cmplt, x_cmpge, x_cmpgt, x_cmple, x_null, x_nonnull, x_acmpeq, x_acmpne, x_get, x_put, x_putz, x_ald, x_ast, x_bast, x_zast, x_aast, x_alen, x_obj, x_ret, x_retz, x_vret, x_max, x_min, x_copy, x_i2l, qg_none, qg_inl, qg_inr, qg_ite, xr1, xr0, xrE, xri, xl0, xl1, xl2, xl3, xl4, xl5, xl6, xl7, xl8, xl9, xl10, xs0, xs1, xs2, xs3, xs4, xs5, xs6, xs7, xs8, xs9, xs10, xi0, xi1, xi2, xi3, xi4, xi5, xi6, xi7, xi8, xi9, xi10, xc0, xc1, xc2, xc3, xc4, xc5, xc6, xc7, xv1, xv2, xv3, xv4, xv5, xv6, xv7, dT_le, dF_le, dT_lt, dF_lt, dT_eq, dF_eq, qa_up_hit, qa_up_no, h1, h2]
def zAddM (m : Int → Int → Int) (d e p : Int) : Int → Int → Int := fun c i => if c = d then (if i = 0 then m d 0 + 1 else if i = 1 then m d 1 + m e 2 else if i = 2 then m d 2 + m e 3 else if i = 3 then (if m d 0 = 0 ∨ m e 3 < m d 3 then m e 3 else m d 3) else if i = 4 then (if m d 0 = 0 ∨ m d 4 < m e 3 then m e 3 else m d 4) else if i = 5 then (if m d 0 = 0 then p else m d 5) else if i = 6 then p else m d i) else if c = m d 7 ∧ i = m e 1 then m e 3 else m c i
theorem c_add {m : Int → Int → Int} {kd : Int → Nat × Int} {w : Nat × Nat × Nat} {d e p l : Int} (h1 : kd d = (7, 0)) (h2 : kd e = (9, 0)) (h3 : m d 7 = l) (h4 : kd l = (101, 10)) (b0 : 0 ≤ m d 0 ∧ m d 0 < 1000000) (b1 : -1000000000 ≤ m d 1 ∧ m d 1 < 1000000000) (b2 : -1000000000 ≤ m d 2 ∧ m d 2 < 1000000000) (b3 : 0 ≤ m e 1 ∧ m e 1 < 10) (b4 : 0 ≤ m e 2 ∧ m e 2 < 100) (b5 : -100 ≤ m e 3 ∧ m e 3 < 100) : f_X3_add [(1, d), (1, e), (0, p)] (m, kd, w) = some (.inl none, (zAddM m d e p, kd, w)) := by
  have n1 : e ≠ d := fun h => by rw [h, h1] at h2; cases h2
  have n2 : l ≠ d := fun h => by rw [h, h1] at h4; cases h4
  have n3 : l ≠ e := fun h => by rw [h, h2] at h4; cases h4
  unfold f_X3_add
  refine qa_fn_eq ?_ (by simp)
  by_cases c0 : m d 0 = 0 <;> by_cases c1 : m e 3 < m d 3 <;> by_cases c2 : m d 4 < m e 3 <;> simp (disch := omega) [ev_X3_add_0, ev_X3_add_1, ev_X3_add_2, ev_X3_add_3, ev_X3_add_4, ev_X3_add_5, ev_X3_add_6, ev_X3_add_7, ev_X3_add_8, ev_X3_add_9, ev_X3_add_10, ev_X3_add_11, ev_X3_add_12, B_X3_add_0, B_X3_add_1, B_X3_add_2, B_X3_add_3, B_X3_add_4, B_X3_add_5, B_X3_add_6, B_X3_add_7, B_X3_add_8, B_X3_add_9, B_X3_add_10, B_X3_add_11, B_X3_add_12, x_const, x_iadd, x_isub, x_imul, x_idiv, x_irem, x_ineg, x_dup, x_dup_x1, x_dup2, x_pop, x_goto, x_ifeq, x_ifne, x_iflt, x_ifge, x_ifgt, x_ifle, x_cmpeq, x_cmpne, x_cmplt, x_cmpge, x_cmpgt, x_cmple, x_null, x_nonnull, x_acmpeq, x_acmpne, x_get, x_put, x_putz, x_ald, x_ast, x_bast, x_zast, x_aast, x_alen, x_obj, x_ret, x_retz, x_vret, x_max, x_min, x_copy, x_i2l, qg_none, qg_inl, qg_inr, qg_ite, xr1, xr0, xrE, xri, xl0, xl1, xl2, xl3, xl4, xl5, xl6, xl7, xl8, xl9, xl10, xs0, xs1, xs2, xs3, xs4, xs5, xs6, xs7, xs8, xs9, xs10, xi0, xi1, xi2, xi3, xi4, xi5, xi6, xi7, xi8, xi9, xi10, xc0, xc1, xc2, xc3, xc4, xc5, xc6, xc7, xv1, xv2, xv3, xv4, xv5, xv6, xv7, dT_le, dF_le, dT_lt, dF_lt, dT_eq, dF_eq, qa_up_hit, qa_up_no, h1, h2, h3, h4, c0, c1, c2]
  all_goals
    funext c i
    simp only [qa_up, zAddM]
    clear h1 h2 h4 b0 b1 b2 b3 b4 b5
    by_cases hc : c = d
    · subst hc
      by_cases i = 0 <;> by_cases i = 1 <;> by_cases i = 2 <;> by_cases i = 3 <;> by_cases i = 4 <;> by_cases i = 5 <;> by_cases i = 6 <;> simp [*] <;> grind
    · simp [hc, h3]
