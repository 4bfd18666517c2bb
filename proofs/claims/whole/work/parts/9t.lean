theorem c_wr0 {A : zA} {l : List Int} {g0 : Int} {m0 : Int → Int → Int} {kd0 : Int → Nat × Int} {n0 c0 s0 : Nat} {m : Int → Int → Int} {kd : Int → Nat × Int} {n c s : Nat} (hK : KS kd0 3) (hC : RC A m0 kd0 3) (hx : kd0 0 = (14, 0)) (h07 : m0 0 7 = 75) {r : Int} (hr : zRl A r) (hp : 0 ≤ A.2.2.1 r 2 ∧ A.2.2.1 r 2 < 1000) (h : PgS l g0 m0 kd0 n0 c0 s0 m kd n c s) (hl : l.length + 12 ≤ 142) : ∃ m' kd' n' c' s', qa_ev P_X11_writeReader 0 [(1, 0), (0, r), (1, 15 + 3 * r)] [] (m, kd, n, c, s) = qa_ev P_X11_writeReader (if A.2.2.1 r 4 = -1 then 2 else 1) [(1, 0), (0, r), (1, 15 + 3 * r)] [] (m', kd', n', c', s') ∧ PgS (((([32] ++ [114]) ++ tdg r) ++ [61]) ++ tdg (A.2.2.1 r 2) |> (l ++ ·)) g0 m0 kd0 n0 c0 s0 m' kd' n' c' s' ∧ n ≤ n' ∧ c ≤ c' ∧ s ≤ s' := by
  obtain ⟨q1, q2, q3⟩ := id hr
  have a1 := tdg_1 (v := r) (by omega)
  have a2 := tdg_3 hp.2
  obtain ⟨m1, kd1, n1, c1, s1, e1, h1, o1⟩ := h.C (ch := 32) (by decide) (by omega)
  obtain ⟨m2, kd2, n2, c2, s2, e2, h2, o2⟩ := h1.C (ch := 114) (by decide) (by simp; omega)
  obtain ⟨m3, kd3, n3, c3, s3, e3, h3, o3⟩ := h2.I (v := r) ⟨by omega, by omega⟩ (by simp; omega)
  obtain ⟨m4, kd4, n4, c4, s4, e4, h4, o4⟩ := h3.C (ch := 61) (by decide) (by simp; omega)
  obtain ⟨m5, kd5, n5, c5, s5, e5, h5, o5⟩ := h4.I (v := A.2.2.1 r 2) ⟨by omega, by omega⟩ (by simp; omega)
  obtain ⟨x0, y0, z0⟩ := h.k hx h07
  obtain ⟨x1, y1, z1⟩ := h1.k hx h07
  obtain ⟨x2, y2, z2⟩ := h2.k hx h07
  obtain ⟨x3, y3, z3⟩ := h3.k hx h07
  obtain ⟨x4, y4, z4⟩ := h4.k hx h07
  have k4 : kd4 (15 + 3 * r) = (10, 0) := by rw [(h4.at (by omega)).2]; exact hK.2.2.2.2.2.2.2.1 r q1 q2
  have k5 : kd5 (15 + 3 * r) = (10, 0) := by rw [(h5.at (by omega)).2]; exact hK.2.2.2.2.2.2.2.1 r q1 q2
  have v4 : m4 (15 + 3 * r) 2 = A.2.2.1 r 2 := by rw [(h4.at (by omega)).1]; exact hC.2.2.2.2.2.1 r 2 q1 q2 (by decide) (by decide)
  have v5 : m5 (15 + 3 * r) 4 = A.2.2.1 r 4 := by rw [(h5.at (by omega)).1]; exact hC.2.2.2.2.2.1 r 4 q1 q2 (by decide) (by decide)
  refine ⟨m5, kd5, n5, c5, s5, ?_, by simpa using h5, by omega, by omega, by omega⟩
  clear h h1 h2 h3 h4 h5 hK hC
  generalize A.2.2.1 r 2 = vv at v4 e5
  generalize A.2.2.1 r 4 = pp at v5
  by_cases hq : pp = -1
  · rw [if_pos hq]
    simp (disch := omega) [ev_X11_writeReader_0, B_X11_writeReader_0, x_const, x_iadd, x_isub, x_imul, x_idiv, x_irem, x_ineg, x_dup, x_dup_x1, x_dup2, x_pop, x_goto, x_ifeq, x_ifne, x_iflt, x_ifge, x_ifgt, x_ifle, x_cmpeq, x_cmpne, x_cmplt, x_cmpge, x_cmpgt, x_cmple, x_null, x_nonnull, x_acmpeq, x_acmpne, x_get, x_put, x_putz, x_ald, x_ast, x_bast, x_zast, x_aast, x_alen, x_obj, x_ret, x_retz, x_vret, x_max, x_min, x_copy, x_i2l, qg_none, qg_inl, qg_inr, qg_ite, xr1, xr0, xrE, xri, xl0, xl1, xl2, xl3, xl4, xl5, xl6, xl7, xl8, xl9, xl10, xs0, xs1, xs2, xs3, xs4, xs5, xs6, xs7, xs8, xs9, xs10, xi0, xi1, xi2, xi3, xi4, xi5, xi6, xi7, xi8, xi9, xi10, xc0, xc1, xc2, xc3, xc4, xc5, xc6, xc7, xv1, xv2, xv3, xv4, xv5, xv6, xv7, dT_le, dF_le, dT_lt, dF_lt, x0, y0, z0, x1, y1, z1, x2, y2, z2, x3, y3, z3, x4, y4, z4, e1, e2, e3, e4, e5, k4, k5, v4, v5, hq]
  · rw [if_neg hq]
    simp (disch := omega) [ev_X11_writeReader_0, B_X11_writeReader_0, x_const, x_iadd, x_isub, x_imul, x_idiv, x_irem, x_ineg, x_dup, x_dup_x1, x_dup2, x_pop, x_goto, x_ifeq, x_ifne, x_iflt, x_ifge, x_ifgt, x_ifle, x_cmpeq, x_cmpne, x_cmplt, x_cmpge, x_cmpgt, x_cmple, x_null, x_nonnull, x_acmpeq, x_acmpne, x_get, x_put, x_putz, x_ald, x_ast, x_bast, x_zast, x_aast, x_alen, x_obj, x_ret, x_retz, x_vret, x_max, x_min, x_copy, x_i2l, qg_none, qg_inl, qg_inr, qg_ite, xr1, xr0, xrE, xri, xl0, xl1, xl2, xl3, xl4, xl5, xl6, xl7, xl8, xl9, xl10, xs0, xs1, xs2, xs3, xs4, xs5, xs6, xs7, xs8, xs9, xs10, xi0, xi1, xi2, xi3, xi4, xi5, xi6, xi7, xi8, xi9, xi10, xc0, xc1, xc2, xc3, xc4, xc5, xc6, xc7, xv1, xv2, xv3, xv4, xv5, xv6, xv7, dT_le, dF_le, dT_lt, dF_lt, dF_eq, x0, y0, z0, x1, y1, z1, x2, y2, z2, x3, y3, z3, x4, y4, z4, e1, e2, e3, e4, e5, k4, k5, v4, v5, hq]
theorem c_wr1 {A : zA} {l : List Int} {g0 : Int} {m0 : Int → Int → Int} {kd0 : Int → Nat × Int} {n0 c0 s0 : Nat} {m : Int → Int → Int} {kd : Int → Nat × Int} {n c s : Nat} (hK : KS kd0 3) (hC : RC A m0 kd0 3) (hx : kd0 0 = (14, 0)) (h07 : m0 0 7 = 75) {r : Int} (hr : zRl A r) (hp : 0 ≤ A.2.2.1 r 4 ∧ A.2.2.1 r 4 < 100000) (h : PgS l g0 m0 kd0 n0 c0 s0 m kd n c s) (hl : l.length + 6 ≤ 142) : ∃ m' kd' n' c' s', qa_ev P_X11_writeReader 1 [(1, 0), (0, r), (1, 15 + 3 * r)] [] (m, kd, n, c, s) = qa_ev P_X11_writeReader 2 [(1, 0), (0, r), (1, 15 + 3 * r)] [] (m', kd', n', c', s') ∧ PgS (l ++ ([112] ++ tdg (A.2.2.1 r 4))) g0 m0 kd0 n0 c0 s0 m' kd' n' c' s' ∧ n ≤ n' ∧ c ≤ c' ∧ s ≤ s' := by
  obtain ⟨q1, q2, q3⟩ := id hr
  obtain ⟨m1, kd1, n1, c1, s1, e1, h1, o1⟩ := h.C (ch := 112) (by decide) (by omega)
  obtain ⟨m2, kd2, n2, c2, s2, e2, h2, o2⟩ := h1.I (v := A.2.2.1 r 4) ⟨by omega, by omega⟩ (by simp; omega)
  obtain ⟨x0, y0, z0⟩ := h.k hx h07
  obtain ⟨x1, y1, z1⟩ := h1.k hx h07
  have k1 : kd1 (15 + 3 * r) = (10, 0) := by rw [(h1.at (by omega)).2]; exact hK.2.2.2.2.2.2.2.1 r q1 q2
  have v1 : m1 (15 + 3 * r) 4 = A.2.2.1 r 4 := by rw [(h1.at (by omega)).1]; exact hC.2.2.2.2.2.1 r 4 q1 q2 (by decide) (by decide)
  refine ⟨m2, kd2, n2, c2, s2, ?_, by simpa using h2, by omega, by omega, by omega⟩
  clear h h1 h2 hK hC
  generalize A.2.2.1 r 4 = pp at v1 e2
  simp (disch := omega) [ev_X11_writeReader_1, B_X11_writeReader_1, x_const, x_iadd, x_isub, x_imul, x_idiv, x_irem, x_ineg, x_dup, x_dup_x1, x_dup2, x_pop, x_goto, x_ifeq, x_ifne, x_iflt, x_ifge, x_ifgt, x_ifle, x_cmpeq, x_cmpne, x_cmplt, x_cmpge, x_cmpgt, x_cmple, x_null, x_nonnull, x_acmpeq, x_acmpne, x_get, x_put, x_putz, x_ald, x_ast, x_bast, x_zast, x_aast, x_alen, x_obj, x_ret, x_retz, x_vret, x_max, x_min, x_copy, x_i2l, qg_none, qg_inl, qg_inr, qg_ite, xr1, xr0, xrE, xri, xl0, xl1, xl2, xl3, xl4, xl5, xl6, xl7, xl8, xl9, xl10, xs0, xs1, xs2, xs3, xs4, xs5, xs6, xs7, xs8, xs9, xs10, xi0, xi1, xi2, xi3, xi4, xi5, xi6, xi7, xi8, xi9, xi10, xc0, xc1, xc2, xc3, xc4, xc5, xc6, xc7, xv1, xv2, xv3, xv4, xv5, xv6, xv7, dT_le, dF_le, dT_lt, dF_lt, x0, y0, z0, x1, y1, z1, e1, e2, k1, v1]
theorem c_wr2 {A : zA} {l : List Int} {g0 : Int} {m0 : Int → Int → Int} {kd0 : Int → Nat × Int} {n0 c0 s0 : Nat} {m : Int → Int → Int} {kd : Int → Nat × Int} {n c s : Nat} (hK : KS kd0 3) (hC : RC A m0 kd0 3) (hx : kd0 0 = (14, 0)) (h07 : m0 0 7 = 75) {r : Int} (hr : zRl A r) (h : PgS l g0 m0 kd0 n0 c0 s0 m kd n c s) (hl : l.length + 1 ≤ 142) : ∃ m' kd' n' c' s', qa_ev P_X11_writeReader 2 [(1, 0), (0, r), (1, 15 + 3 * r)] [] (m, kd, n, c, s) = some (.inl none, (m', kd', n', c', s')) ∧ PgS (l ++ (if 0 < A.2.2.1 r 9 then [33] else [])) g0 m0 kd0 n0 c0 s0 m' kd' n' c' s' ∧ n ≤ n' ∧ c ≤ c' ∧ s ≤ s' := by
  obtain ⟨q1, q2, q3⟩ := id hr
  obtain ⟨x0, y0, z0⟩ := h.k hx h07
  have k1 : kd (15 + 3 * r) = (10, 0) := by rw [(h.at (by omega)).2]; exact hK.2.2.2.2.2.2.2.1 r q1 q2
  have k2 : kd (16 + 3 * r) = (7, 0) := by rw [(h.at (by omega)).2]; exact hK.2.2.2.2.2.2.2.2.1 r q1 q2
  have v1 : m (15 + 3 * r) 9 = 16 + 3 * r := by rw [(h.at (by omega)).1]; exact hC.1.2.2.2.2.2.2.2.1 r q1 q2
  have v2 : m (16 + 3 * r) 0 = A.2.2.1 r 9 := by rw [(h.at (by omega)).1]; exact hC.2.2.2.2.2.2.1 r 0 q1 q2 q3 (by decide) (by decide)
  by_cases hq : 0 < A.2.2.1 r 9
  · rw [if_pos hq]
    obtain ⟨m1, kd1, n1, c1, s1, e1, h1, o1⟩ := h.C (ch := 33) (by decide) (by omega)
    refine ⟨m1, kd1, n1, c1, s1, ?_, h1, o1⟩
    clear h h1 hK hC
    generalize A.2.2.1 r 9 = pp at v2 hq
    simp (disch := omega) [ev_X11_writeReader_2, B_X11_writeReader_2, ev_X11_writeReader_3, B_X11_writeReader_3, x_const, x_iadd, x_isub, x_imul, x_idiv, x_irem, x_ineg, x_dup, x_dup_x1, x_dup2, x_pop, x_goto, x_ifeq, x_ifne, x_iflt, x_ifge, x_ifgt, x_ifle, x_cmpeq, x_cmpne, x_cmplt, x_cmpge, x_cmpgt, x_cmple, x_null, x_nonnull, x_acmpeq, x_acmpne, x_get, x_put, x_putz, x_ald, x_ast, x_bast, x_zast, x_aast, x_alen, x_obj, x_ret, x_retz, x_vret, x_max, x_min, x_copy, x_i2l, qg_none, qg_inl, qg_inr, qg_ite, xr1, xr0, xrE, xri, xl0, xl1, xl2, xl3, xl4, xl5, xl6, xl7, xl8, xl9, xl10, xs0, xs1, xs2, xs3, xs4, xs5, xs6, xs7, xs8, xs9, xs10, xi0, xi1, xi2, xi3, xi4, xi5, xi6, xi7, xi8, xi9, xi10, xc0, xc1, xc2, xc3, xc4, xc5, xc6, xc7, xv1, xv2, xv3, xv4, xv5, xv6, xv7, dT_le, dF_le, dT_lt, dF_lt, x0, y0, z0, e1, k1, k2, v1, v2]
  · rw [if_neg hq]
    refine ⟨m, kd, n, c, s, ?_, by rw [List.append_nil]; exact h, Nat.le_refl _, Nat.le_refl _, Nat.le_refl _⟩
    clear h hK hC
    generalize A.2.2.1 r 9 = pp at v2 hq
    simp (disch := omega) [ev_X11_writeReader_2, B_X11_writeReader_2, ev_X11_writeReader_3, B_X11_writeReader_3, x_const, x_iadd, x_isub, x_imul, x_idiv, x_irem, x_ineg, x_dup, x_dup_x1, x_dup2, x_pop, x_goto, x_ifeq, x_ifne, x_iflt, x_ifge, x_ifgt, x_ifle, x_cmpeq, x_cmpne, x_cmplt, x_cmpge, x_cmpgt, x_cmple, x_null, x_nonnull, x_acmpeq, x_acmpne, x_get, x_put, x_putz, x_ald, x_ast, x_bast, x_zast, x_aast, x_alen, x_obj, x_ret, x_retz, x_vret, x_max, x_min, x_copy, x_i2l, qg_none, qg_inl, qg_inr, qg_ite, xr1, xr0, xrE, xri, xl0, xl1, xl2, xl3, xl4, xl5, xl6, xl7, xl8, xl9, xl10, xs0, xs1, xs2, xs3, xs4, xs5, xs6, xs7, xs8, xs9, xs10, xi0, xi1, xi2, xi3, xi4, xi5, xi6, xi7, xi8, xi9, xi10, xc0, xc1, xc2, xc3, xc4, xc5, xc6, xc7, xv1, xv2, xv3, xv4, xv5, xv6, xv7, dT_le, dF_le, dT_lt, dF_lt, x0, y0, z0, k1, k2, v1, v2]
