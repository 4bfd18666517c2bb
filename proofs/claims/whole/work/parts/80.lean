theorem m_clearsDebt {m : Int → Int → Int} {kd : Int → Nat × Int} {w : Nat × Nat × Nat} (hK : KM kd) (hR : RM m) {r : Int} (hr : 0 ≤ r ∧ r < 6) : f_X12_clearsDebt [(1, 77), (0, r)] (m, kd, w) = some (.inl none, (zfl m (34 + 26 * r + 9) 17 0, kd, w)) := by
  obtain ⟨q1, q2⟩ := hr
  have k77 := hK.1
  have k79 := hK.2.2.1
  have loop : ∀ (n : Nat) (k : Int), 0 ≤ k → k + n = 17 → qa_ev P_X12_clearsDebt 1 [(1, 77), (0, r), (0, 34 + 26 * r), (0, 9 + k)] [] (zfl m (34 + 26 * r + 9) k 0, kd, w) = some (.inl none, (zfl m (34 + 26 * r + 9) 17 0, kd, w)) := by
    intro n
    induction n with
    | zero =>
      intro k h1 h2
      obtain rfl : k = 17 := by omega
      rw [ev_X12_clearsDebt_1]
      simp (disch := omega) [ev_X12_clearsDebt_0, ev_X12_clearsDebt_2, B_X12_clearsDebt_0, B_X12_clearsDebt_1, B_X12_clearsDebt_2, x_const, x_iadd, x_isub, x_imul, x_idiv, x_irem, x_ineg, x_dup, x_dup_x1, x_dup2, x_pop, x_goto, x_ifeq, x_ifne, x_iflt, x_ifge, x_ifgt, x_ifle, x_cmpeq, x_cmpne, x_cmplt, x_cmpge, x_cmpgt, x_cmple, x_null, x_nonnull, x_acmpeq, x_acmpne, x_get, x_put, x_putz, x_ald, x_ast, x_bast, x_zast, x_aast, x_alen, x_obj, x_ret, x_retz, x_vret, x_max, x_min, x_copy, x_i2l, qg_none, qg_inl, qg_inr, qg_ite, xr1, xr0, xrE, xri, xl0, xl1, xl2, xl3, xl4, xl5, xl6, xl7, xl8, xl9, xl10, xs0, xs1, xs2, xs3, xs4, xs5, xs6, xs7, xs8, xs9, xs10, xi0, xi1, xi2, xi3, xi4, xi5, xi6, xi7, xi8, xi9, xi10, xc0, xc1, xc2, xc3, xc4, xc5, xc6, xc7, xv1, xv2, xv3, xv4, xv5, xv6, xv7, dT_le, dF_le, dT_lt, dF_lt]
    | succ n ih =>
      intro k h1 h2
      have ih' := ih (k + 1) (by omega) (by omega)
      rw [← Int.add_assoc] at ih'
      have eu := zfl_up (m := m) (s := 34 + 26 * r + 9) (k := k) (v := 0) h1
      have t2 : zfl m (34 + 26 * r + 9) k 0 77 2 = 79 := by rw [zfl_no (by omega)]; exact hR.2.1
      rw [Int.add_assoc (34 + 26 * r) 9 k] at eu
      rw [ev_X12_clearsDebt_1]
      simp (disch := omega) [ev_X12_clearsDebt_0, ev_X12_clearsDebt_2, B_X12_clearsDebt_0, B_X12_clearsDebt_1, B_X12_clearsDebt_2, x_const, x_iadd, x_isub, x_imul, x_idiv, x_irem, x_ineg, x_dup, x_dup_x1, x_dup2, x_pop, x_goto, x_ifeq, x_ifne, x_iflt, x_ifge, x_ifgt, x_ifle, x_cmpeq, x_cmpne, x_cmplt, x_cmpge, x_cmpgt, x_cmple, x_null, x_nonnull, x_acmpeq, x_acmpne, x_get, x_put, x_putz, x_ald, x_ast, x_bast, x_zast, x_aast, x_alen, x_obj, x_ret, x_retz, x_vret, x_max, x_min, x_copy, x_i2l, qg_none, qg_inl, qg_inr, qg_ite, xr1, xr0, xrE, xri, xl0, xl1, xl2, xl3, xl4, xl5, xl6, xl7, xl8, xl9, xl10, xs0, xs1, xs2, xs3, xs4, xs5, xs6, xs7, xs8, xs9, xs10, xi0, xi1, xi2, xi3, xi4, xi5, xi6, xi7, xi8, xi9, xi10, xc0, xc1, xc2, xc3, xc4, xc5, xc6, xc7, xv1, xv2, xv3, xv4, xv5, xv6, xv7, dT_le, dF_le, dT_lt, dF_lt, k77, k79, t2, eu, ih']
  have lp := loop 17 0 (by decide) (by decide)
  rw [zfl_0, Int.add_zero] at lp
  unfold f_X12_clearsDebt
  refine qa_fn_eq ?_ (by simp)
  simp (disch := omega) [ev_X12_clearsDebt_0, ev_X12_clearsDebt_2, B_X12_clearsDebt_0, B_X12_clearsDebt_1, B_X12_clearsDebt_2, x_const, x_iadd, x_isub, x_imul, x_idiv, x_irem, x_ineg, x_dup, x_dup_x1, x_dup2, x_pop, x_goto, x_ifeq, x_ifne, x_iflt, x_ifge, x_ifgt, x_ifle, x_cmpeq, x_cmpne, x_cmplt, x_cmpge, x_cmpgt, x_cmple, x_null, x_nonnull, x_acmpeq, x_acmpne, x_get, x_put, x_putz, x_ald, x_ast, x_bast, x_zast, x_aast, x_alen, x_obj, x_ret, x_retz, x_vret, x_max, x_min, x_copy, x_i2l, qg_none, qg_inl, qg_inr, qg_ite, xr1, xr0, xrE, xri, xl0, xl1, xl2, xl3, xl4, xl5, xl6, xl7, xl8, xl9, xl10, xs0, xs1, xs2, xs3, xs4, xs5, xs6, xs7, xs8, xs9, xs10, xi0, xi1, xi2, xi3, xi4, xi5, xi6, xi7, xi8, xi9, xi10, xc0, xc1, xc2, xc3, xc4, xc5, xc6, xc7, xv1, xv2, xv3, xv4, xv5, xv6, xv7, dT_le, dF_le, dT_lt, dF_lt, k77, m_readerAt, lp]
