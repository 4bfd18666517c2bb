def zRead (A : zA) (r it : Int) : zA := (A.1, A.2.1, fun r' j => if r' = r then (if j = 2 then A.2.2.1 r 2 + zTk A r it else if j = 3 then A.1 0 else if j = 4 then -1 else if j = 5 then A.2.2.1 r 5 + (if A.2.2.1 r 4 = -1 then 0 else 1) else if j = 7 then A.2.2.1 r 7 + zTk A r it else if j = 8 then A.2.2.1 r 8 + zHas A r else if 9 ≤ j then zSeat 0 0 0 j else A.2.2.1 r j) else A.2.2.1 r' j, A.2.2.2)
theorem zRead_r (A : zA) (r it j : Int) : (zRead A r it).2.2.1 r j = if j = 2 then A.2.2.1 r 2 + zTk A r it else if j = 3 then A.1 0 else if j = 4 then -1 else if j = 5 then A.2.2.1 r 5 + (if A.2.2.1 r 4 = -1 then 0 else 1) else if j = 7 then A.2.2.1 r 7 + zTk A r it else if j = 8 then A.2.2.1 r 8 + zHas A r else if 9 ≤ j then zSeat 0 0 0 j else A.2.2.1 r j := if_pos rfl
theorem zRead_o (A : zA) {r it r' : Int} (j : Int) (h : r' ≠ r) : (zRead A r it).2.2.1 r' j = A.2.2.1 r' j := if_neg h
theorem zRead_hi (A : zA) {r it j : Int} (h : 9 ≤ j) : (zRead A r it).2.2.1 r j = zSeat 0 0 0 j := by
  rw [zRead_r]
  simp (disch := omega) only [if_neg, if_pos]
theorem zW_read {M : Int} {A : zA} (hW : zW M A) (hM : M + 100 ≤ 500000) {r it : Int} (hr : zRl A r) (hi : 1 ≤ it ∧ it ≤ 99) : zW (M + 100) (zRead A r it) := by
  have htk := zTk_b hW hr hi
  have hh := zHas_01 A r
  obtain ⟨⟨w0, w1, w2, w3, w4, w5⟩, w6, w7, w8, w9, wB, wE, wR, wD⟩ := id hW
  have hwr := wR r hr.1 hr.2.1 hr.2.2
  unfold zWr at hwr
  obtain ⟨q1, q2, q3, q4, q5, q6, q7, q8, q9, q10, q11, q12, q13, q14, q15⟩ := hwr
  have e0 : (zRead A r it).2.2.1 r 0 = A.2.2.1 r 0 := by rw [zRead_r]; rfl
  have e1 : (zRead A r it).2.2.1 r 1 = A.2.2.1 r 1 := by rw [zRead_r]; rfl
  have e2 : (zRead A r it).2.2.1 r 2 = A.2.2.1 r 2 + zTk A r it := by rw [zRead_r]; rfl
  have e3 : (zRead A r it).2.2.1 r 3 = A.1 0 := by rw [zRead_r]; rfl
  have e4 : (zRead A r it).2.2.1 r 4 = -1 := by rw [zRead_r]; rfl
  have e5 : (zRead A r it).2.2.1 r 5 = A.2.2.1 r 5 + (if A.2.2.1 r 4 = -1 then 0 else 1) := by rw [zRead_r]; rfl
  have e6 : (zRead A r it).2.2.1 r 6 = A.2.2.1 r 6 := by rw [zRead_r]; rfl
  have e7 : (zRead A r it).2.2.1 r 7 = A.2.2.1 r 7 + zTk A r it := by rw [zRead_r]; rfl
  have e8 : (zRead A r it).2.2.1 r 8 = A.2.2.1 r 8 + zHas A r := by rw [zRead_r]; rfl
  refine zW_rd hW ⟨by omega, hM⟩ (k := r) (R' := (zRead A r it).2.2.1) (fun r' j h => zRead_o A j h) (Or.inr (by rw [e0]; exact hr.2.2)) (fun _ => ⟨?_, ?_⟩)
  · unfold zWr
    show zBl A ((zRead A r it).2.2.1 r 1) ∧ A.2.1 ((zRead A r it).2.2.1 r 1) 4 ≤ (zRead A r it).2.2.1 r 2 ∧ (zRead A r it).2.2.1 r 2 ≤ A.2.1 ((zRead A r it).2.2.1 r 1) 5 ∧ 0 ≤ (zRead A r it).2.2.1 r 3 ∧ (zRead A r it).2.2.1 r 3 ≤ A.1 0 ∧ -1 ≤ (zRead A r it).2.2.1 r 4 ∧ (zRead A r it).2.2.1 r 4 ≤ A.1 0 + 60 ∧ 0 ≤ (zRead A r it).2.2.1 r 5 ∧ (zRead A r it).2.2.1 r 5 ≤ M + 100 ∧ 0 ≤ (zRead A r it).2.2.1 r 6 ∧ (zRead A r it).2.2.1 r 6 ≤ A.1 0 ∧ 0 ≤ (zRead A r it).2.2.1 r 7 ∧ (zRead A r it).2.2.1 r 7 ≤ M + 100 ∧ 0 ≤ (zRead A r it).2.2.1 r 8 ∧ (zRead A r it).2.2.1 r 8 ≤ M + 100
    rw [e1, e2, e3, e4, e5, e6, e7, e8]
    refine ⟨q1, by omega, by omega, by omega, by omega, by omega, by omega, ?_, ?_, q10, q11, by omega, by omega, by omega, by omega⟩ <;> split <;> omega
  · have dg : 0 ≤ zgs A := hW.gs.1
    unfold zWd
    show 0 ≤ (zRead A r it).2.2.1 r 9 ∧ (zRead A r it).2.2.1 r 9 ≤ zgs A ∧ _
    rw [zRead_hi A (j := 9) (by decide), zRead_hi A (j := 10) (by decide), zRead_hi A (j := 11) (by decide), zRead_hi A (j := 12) (by decide), zRead_hi A (j := 13) (by decide), zRead_hi A (j := 14) (by decide), zRead_hi A (j := 15) (by decide)]
    refine ⟨by simp [zSeat], by simp [zSeat]; exact dg, by simp [zSeat], by simp [zSeat], by simp [zSeat], by simp [zSeat], fun _ => ⟨by simp [zSeat], by simp [zSeat], by simp [zSeat], by simp [zSeat], by simp [zSeat], by simp [zSeat], fun k k1 k2 => ?_⟩⟩
    rw [zRead_hi A (by omega)]
    unfold zSeat
    simp (disch := omega) only [if_neg]
theorem c_comeBack {m : Int → Int → Int} {kd : Int → Nat × Int} {w : Nat × Nat × Nat} {R t : Int} (h1 : kd R = (10, 0)) (hb : 0 ≤ m R 5 ∧ m R 5 < 1000000) : f_X6_comeBack [(1, R), (0, t)] (m, kd, w) = some (.inl none, (if m R 4 = -1 then qa_up m R 3 t else qa_up (qa_up (qa_up m R 3 t) R 4 (-1)) R 5 (m R 5 + 1), kd, w)) := by
  by_cases h : m R 4 = -1
  · rw [if_pos h]
    unfold f_X6_comeBack
    refine qa_fn_eq ?_ (by simp)
    simp (disch := omega) [ev_X6_comeBack_0, ev_X6_comeBack_1, B_X6_comeBack_0, B_X6_comeBack_1, x_const, x_iadd, x_isub, x_imul, x_idiv, x_irem, x_ineg, x_dup, x_dup_x1, x_dup2, x_pop, x_goto, x_ifeq, x_ifne, x_iflt, x_ifge, x_ifgt, x_ifle, x_cmpeq, x_cmpne, x_cmplt, x_cmpge, x_cmpgt, x_cmple, x_null, x_nonnull, x_acmpeq, x_acmpne, x_get, x_put, x_putz, x_ald, x_ast, x_bast, x_zast, x_aast, x_alen, x_obj, x_ret, x_retz, x_vret, x_max, x_min, x_copy, x_i2l, qg_none, qg_inl, qg_inr, qg_ite, xr1, xr0, xrE, xri, xl0, xl1, xl2, xl3, xl4, xl5, xl6, xl7, xl8, xl9, xl10, xs0, xs1, xs2, xs3, xs4, xs5, xs6, xs7, xs8, xs9, xs10, xi0, xi1, xi2, xi3, xi4, xi5, xi6, xi7, xi8, xi9, xi10, xc0, xc1, xc2, xc3, xc4, xc5, xc6, xc7, xv1, xv2, xv3, xv4, xv5, xv6, xv7, dT_le, dF_le, dT_lt, dF_lt, dT_eq, dF_eq, qa_up_hit, qa_up_no, h1, h]
  · rw [if_neg h]
    unfold f_X6_comeBack
    refine qa_fn_eq ?_ (by simp)
    simp (disch := omega) [ev_X6_comeBack_0, ev_X6_comeBack_1, B_X6_comeBack_0, B_X6_comeBack_1, x_const, x_iadd, x_isub, x_imul, x_idiv, x_irem, x_ineg, x_dup, x_dup_x1, x_dup2, x_pop, x_goto, x_ifeq, x_ifne, x_iflt, x_ifge, x_ifgt, x_ifle, x_cmpeq, x_cmpne, x_cmplt, x_cmpge, x_cmpgt, x_cmple, x_null, x_nonnull, x_acmpeq, x_acmpne, x_get, x_put, x_putz, x_ald, x_ast, x_bast, x_zast, x_aast, x_alen, x_obj, x_ret, x_retz, x_vret, x_max, x_min, x_copy, x_i2l, qg_none, qg_inl, qg_inr, qg_ite, xr1, xr0, xrE, xri, xl0, xl1, xl2, xl3, xl4, xl5, xl6, xl7, xl8, xl9, xl10, xs0, xs1, xs2, xs3, xs4, xs5, xs6, xs7, xs8, xs9, xs10, xi0, xi1, xi2, xi3, xi4, xi5, xi6, xi7, xi8, xi9, xi10, xc0, xc1, xc2, xc3, xc4, xc5, xc6, xc7, xv1, xv2, xv3, xv4, xv5, xv6, xv7, dT_le, dF_le, dT_lt, dF_lt, dT_eq, dF_eq, qa_up_hit, qa_up_no, dF_eq, h1, h]
theorem c_itemCount {m : Int → Int → Int} {kd : Int → Nat × Int} {w : Nat × Nat × Nat} (h1 : kd 67 = (8, 0)) (hb : (m 67 0 = 0 ∨ m 67 0 = 1) ∧ 0 ≤ m 67 3 ∧ m 67 3 ≤ 99) : f_X4_itemCount [(1, 67)] (m, kd, w) = some (.inl (some (0, m 67 3 + m 67 0)), (m, kd, w)) := by
  obtain ⟨h0 | h0, hb⟩ := hb
  · unfold f_X4_itemCount
    refine qa_fn_eq ?_ (by simp)
    simp (disch := omega) [ev_X4_itemCount_0, ev_X4_itemCount_1, ev_X4_itemCount_2, B_X4_itemCount_0, B_X4_itemCount_1, B_X4_itemCount_2, x_const, x_iadd, x_isub, x_imul, x_idiv, x_irem, x_ineg, x_dup, x_dup_x1, x_dup2, x_pop, x_goto, x_ifeq, x_ifne, x_iflt, x_ifge, x_ifgt, x_ifle, x_cmpeq, x_cmpne, x_cmplt, x_cmpge, x_cmpgt, x_cmple, x_null, x_nonnull, x_acmpeq, x_acmpne, x_get, x_put, x_putz, x_ald, x_ast, x_bast, x_zast, x_aast, x_alen, x_obj, x_ret, x_retz, x_vret, x_max, x_min, x_copy, x_i2l, qg_none, qg_inl, qg_inr, qg_ite, xr1, xr0, xrE, xri, xl0, xl1, xl2, xl3, xl4, xl5, xl6, xl7, xl8, xl9, xl10, xs0, xs1, xs2, xs3, xs4, xs5, xs6, xs7, xs8, xs9, xs10, xi0, xi1, xi2, xi3, xi4, xi5, xi6, xi7, xi8, xi9, xi10, xc0, xc1, xc2, xc3, xc4, xc5, xc6, xc7, xv1, xv2, xv3, xv4, xv5, xv6, xv7, dT_le, dF_le, dT_lt, dF_lt, h1, h0]
  · unfold f_X4_itemCount
    refine qa_fn_eq ?_ (by simp)
    simp (disch := omega) [ev_X4_itemCount_0, ev_X4_itemCount_1, ev_X4_itemCount_2, B_X4_itemCount_0, B_X4_itemCount_1, B_X4_itemCount_2, x_const, x_iadd, x_isub, x_imul, x_idiv, x_irem, x_ineg, x_dup, x_dup_x1, x_dup2, x_pop, x_goto, x_ifeq, x_ifne, x_iflt, x_ifge, x_ifgt, x_ifle, x_cmpeq, x_cmpne, x_cmplt, x_cmpge, x_cmpgt, x_cmple, x_null, x_nonnull, x_acmpeq, x_acmpne, x_get, x_put, x_putz, x_ald, x_ast, x_bast, x_zast, x_aast, x_alen, x_obj, x_ret, x_retz, x_vret, x_max, x_min, x_copy, x_i2l, qg_none, qg_inl, qg_inr, qg_ite, xr1, xr0, xrE, xri, xl0, xl1, xl2, xl3, xl4, xl5, xl6, xl7, xl8, xl9, xl10, xs0, xs1, xs2, xs3, xs4, xs5, xs6, xs7, xs8, xs9, xs10, xi0, xi1, xi2, xi3, xi4, xi5, xi6, xi7, xi8, xi9, xi10, xc0, xc1, xc2, xc3, xc4, xc5, xc6, xc7, xv1, xv2, xv3, xv4, xv5, xv6, xv7, dT_le, dF_le, dT_lt, dF_lt, h1, h0]
