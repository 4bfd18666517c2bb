def vReader (A : zA) (st : Int → Int) (r what : Int) : Int := if what = 6 then (if zCov A st r then 1 else 0) else if what = 7 then A.2.1 (A.2.2.1 r 1) 5 - A.2.2.1 r 2 else if what = 8 then zsf (fun q => A.2.2.2 (A.2.2.1 r 1) q 2) (A.2.2.1 r 2) (A.2.1 (A.2.2.1 r 1) 5 - A.2.2.1 r 2).toNat else if what = 9 then A.2.2.1 r 7 else if what = 10 then A.2.2.1 r 8 else A.2.2.1 r (1 + what)
theorem cq_reader {m : Int → Int → Int} {kd : Int → Nat × Int} {w : Nat × Nat × Nat} {A : zA} {S : Int} (hK : KS kd S) (hC : RC A m kd S) {M : Int} (hW : zW M A) (hx : kd 0 = (14, 0)) (hn : m 0 1 = S) {st : Int → Int} {y z : Int} (hy : CR st m kd y z) (hr0 : m 0 0 = y) (r what : Int) : f_X11_reader [(1, 0), (0, r), (0, what)] (m, kd, w) = zAns 1 2 (zA2 (zRl A r) (0 ≤ what ∧ what ≤ 10) (vReader A st r what)) m kd w := by
  have ne := c_needReader (w := w) hK hC hW hx hn r
  have rg := c_needRange (m := m) (kd := kd) (w := w) what 0 10
  obtain ⟨⟨f2, f3, f4, fV, fW, f0, f8, f9, f7⟩, e0, e1, eC, eB, eR, eD, eL, eE⟩ := id hC
  obtain ⟨kN, kS, kC, kV, kW, kB, kE, kR, kD, kL⟩ := id hK
  have y1 := hy.1
  by_cases h : zRl A r
  · rw [if_pos h] at ne
    by_cases h2 : 0 ≤ what ∧ what ≤ 10
    · rw [if_pos h2] at rg
      rw [zA2_v h h2, zAns_0]
      obtain ⟨s1, s2, s3⟩ := id h
      obtain ⟨t1, t2, t3, t4, t5, t6, t7, t8, t9, t10, t11, t12, t13, t14, t15, t16, t17, t18, t19⟩ := hW.rn h
      have tn := hW.tn
      have hb : zBl A (A.2.2.1 r 1) := ⟨t1, t2, t3⟩
      have hbn := hW.bn hb
      have ra := c_homeOf (w := w) hK hC s1 s2 ⟨t1, t2⟩
      have rb := c_sizesFrom (w := w) (p := A.2.2.1 r 2) hK hC hW hb ⟨t18, t19⟩
      have rc := c_isCovered (m := m) (w := w) (R := S + 12 + 3 * r) (kR r s1 s2) (A.1 0) (st 3) (by rw [eR r 3 s1 s2 (by decide) (by decide)]; omega)
      rw [eR r 3 s1 s2 (by decide) (by decide), eR r 4 s1 s2 (by decide) (by decide)] at rc
      have rd := c_valueOf (w := w) hy 3 (by decide)
      have re : (if A.2.2.1 r 4 = -1 then (if st 3 < A.1 0 - A.2.2.1 r 3 then 0 else 1) else 1) = if zCov A st r then (1 : Int) else 0 := by unfold zCov; grind
      rw [re] at rc
      obtain ⟨cv, hcv, hd01⟩ : ∃ cv : Int, (if zCov A st r then (1 : Int) else 0) = cv ∧ (cv = 0 ∨ cv = 1) := ⟨_, rfl, by split <;> simp⟩
      rw [hcv] at rc
      have hw : what = 0 ∨ what = 1 ∨ what = 2 ∨ what = 3 ∨ what = 4 ∨ what = 5 ∨ what = 6 ∨ what = 7 ∨ what = 8 ∨ what = 9 ∨ what = 10 := by omega
      rcases hw with rfl | rfl | rfl | rfl | rfl | rfl | rfl | rfl | rfl | rfl | rfl <;>
      · unfold f_X11_reader
        refine qa_fn_eq ?_ (by simp)
        simp (disch := omega) [ev_X11_reader_0, ev_X11_reader_1, ev_X11_reader_2, ev_X11_reader_3, ev_X11_reader_4, ev_X11_reader_5, ev_X11_reader_6, ev_X11_reader_7, ev_X11_reader_8, ev_X11_reader_9, ev_X11_reader_10, ev_X11_reader_11, ev_X11_reader_12, ev_X11_reader_13, B_X11_reader_0, B_X11_reader_1, B_X11_reader_2, B_X11_reader_3, B_X11_reader_4, B_X11_reader_5, B_X11_reader_6, B_X11_reader_7, B_X11_reader_8, B_X11_reader_9, B_X11_reader_10, B_X11_reader_11, B_X11_reader_12, B_X11_reader_13, x_const, x_iadd, x_isub, x_imul, x_idiv, x_irem, x_ineg, x_dup, x_dup_x1, x_dup2, x_pop, x_goto, x_ifeq, x_ifne, x_iflt, x_ifge, x_ifgt, x_ifle, x_cmpeq, x_cmpne, x_cmplt, x_cmpge, x_cmpgt, x_cmple, x_null, x_nonnull, x_acmpeq, x_acmpne, x_get, x_put, x_putz, x_ald, x_ast, x_bast, x_zast, x_aast, x_alen, x_obj, x_ret, x_retz, x_vret, x_max, x_min, x_copy, x_i2l, qg_none, qg_inl, qg_inr, qg_ite, xr1, xr0, xrE, xri, xl0, xl1, xl2, xl3, xl4, xl5, xl6, xl7, xl8, xl9, xl10, xs0, xs1, xs2, xs3, xs4, xs5, xs6, xs7, xs8, xs9, xs10, xi0, xi1, xi2, xi3, xi4, xi5, xi6, xi7, xi8, xi9, xi10, xc0, xc1, xc2, xc3, xc4, xc5, xc6, xc7, xv1, xv2, xv3, xv4, xv5, xv6, xv7, dT_le, dF_le, dT_lt, dF_lt, f2, f3, f4, fV, fW, f0, f8, f9, f7, e0, e1, eC, eB, eR, kS, kC, kV, kW, kB, kE, kR, kD, kL, hx, hn, x_switch, zsw, ne, rg, vReader, hr0, y1, ra, rb, rc, rd, hcv]
        try (rcases hd01 with hd | hd <;> simp [hd])
    · rw [if_neg h2] at rg
      rw [zA2_2 h h2, zAns_2]
      unfold f_X11_reader
      refine qa_fn_eq ?_ (by simp)
      simp (disch := omega) [ev_X11_reader_0, ev_X11_reader_1, ev_X11_reader_2, ev_X11_reader_3, ev_X11_reader_4, ev_X11_reader_5, ev_X11_reader_6, ev_X11_reader_7, ev_X11_reader_8, ev_X11_reader_9, ev_X11_reader_10, ev_X11_reader_11, ev_X11_reader_12, ev_X11_reader_13, B_X11_reader_0, B_X11_reader_1, B_X11_reader_2, B_X11_reader_3, B_X11_reader_4, B_X11_reader_5, B_X11_reader_6, B_X11_reader_7, B_X11_reader_8, B_X11_reader_9, B_X11_reader_10, B_X11_reader_11, B_X11_reader_12, B_X11_reader_13, x_const, x_iadd, x_isub, x_imul, x_idiv, x_irem, x_ineg, x_dup, x_dup_x1, x_dup2, x_pop, x_goto, x_ifeq, x_ifne, x_iflt, x_ifge, x_ifgt, x_ifle, x_cmpeq, x_cmpne, x_cmplt, x_cmpge, x_cmpgt, x_cmple, x_null, x_nonnull, x_acmpeq, x_acmpne, x_get, x_put, x_putz, x_ald, x_ast, x_bast, x_zast, x_aast, x_alen, x_obj, x_ret, x_retz, x_vret, x_max, x_min, x_copy, x_i2l, qg_none, qg_inl, qg_inr, qg_ite, xr1, xr0, xrE, xri, xl0, xl1, xl2, xl3, xl4, xl5, xl6, xl7, xl8, xl9, xl10, xs0, xs1, xs2, xs3, xs4, xs5, xs6, xs7, xs8, xs9, xs10, xi0, xi1, xi2, xi3, xi4, xi5, xi6, xi7, xi8, xi9, xi10, xc0, xc1, xc2, xc3, xc4, xc5, xc6, xc7, xv1, xv2, xv3, xv4, xv5, xv6, xv7, dT_le, dF_le, dT_lt, dF_lt, f2, f3, f4, fV, fW, f0, f8, f9, f7, e0, e1, eC, eB, eR, kS, kC, kV, kW, kB, kE, kR, kD, kL, hx, hn, ne, rg]
  · rw [if_neg h] at ne
    rw [zA2_1 h, zAns_1]
    unfold f_X11_reader
    refine qa_fn_eq ?_ (by simp)
    simp (disch := omega) [ev_X11_reader_0, ev_X11_reader_1, ev_X11_reader_2, ev_X11_reader_3, ev_X11_reader_4, ev_X11_reader_5, ev_X11_reader_6, ev_X11_reader_7, ev_X11_reader_8, ev_X11_reader_9, ev_X11_reader_10, ev_X11_reader_11, ev_X11_reader_12, ev_X11_reader_13, B_X11_reader_0, B_X11_reader_1, B_X11_reader_2, B_X11_reader_3, B_X11_reader_4, B_X11_reader_5, B_X11_reader_6, B_X11_reader_7, B_X11_reader_8, B_X11_reader_9, B_X11_reader_10, B_X11_reader_11, B_X11_reader_12, B_X11_reader_13, x_const, x_iadd, x_isub, x_imul, x_idiv, x_irem, x_ineg, x_dup, x_dup_x1, x_dup2, x_pop, x_goto, x_ifeq, x_ifne, x_iflt, x_ifge, x_ifgt, x_ifle, x_cmpeq, x_cmpne, x_cmplt, x_cmpge, x_cmpgt, x_cmple, x_null, x_nonnull, x_acmpeq, x_acmpne, x_get, x_put, x_putz, x_ald, x_ast, x_bast, x_zast, x_aast, x_alen, x_obj, x_ret, x_retz, x_vret, x_max, x_min, x_copy, x_i2l, qg_none, qg_inl, qg_inr, qg_ite, xr1, xr0, xrE, xri, xl0, xl1, xl2, xl3, xl4, xl5, xl6, xl7, xl8, xl9, xl10, xs0, xs1, xs2, xs3, xs4, xs5, xs6, xs7, xs8, xs9, xs10, xi0, xi1, xi2, xi3, xi4, xi5, xi6, xi7, xi8, xi9, xi10, xc0, xc1, xc2, xc3, xc4, xc5, xc6, xc7, xv1, xv2, xv3, xv4, xv5, xv6, xv7, dT_le, dF_le, dT_lt, dF_lt, f2, f3, f4, fV, fW, f0, f8, f9, f7, e0, e1, eC, eB, eR, kS, kC, kV, kW, kB, kE, kR, kD, kL, hx, hn, x_thr, ne]
theorem mq_reader {m : Int → Int → Int} {kd : Int → Nat × Int} {w : Nat × Nat × Nat} {A : zA} (hK : KM kd) (hR : RM m) (hQ : QR A (m 79)) {M : Int} (hW : zW M A) {st : Int → Int} (hS : QS st m) (r what : Int) : f_X12_reader [(1, 77), (0, r), (0, what)] (m, kd, w) = mAns (zA2 (zRl A r) (0 ≤ what ∧ what ≤ 10) (vReader A st r what)) m kd w := by
  have ni := m_isReader (w := w) hK hR hQ r
  have rg := m_in (m := m) (kd := kd) (w := w) what 0 10
  have hRt : ∀ t, RM (qa_up m 77 0 t) := fun t => by rw [RM_t]; exact hR
  have hQt : ∀ t, QR A ((qa_up m 77 0 t) 79) := fun t => hQ
  obtain ⟨k77, k78, k79, k80, k81, k82, k83, k84, k85, k86, k87, k88, k89, k90⟩ := id hK
  obtain ⟨r1, r2, r3, r4, r6, r7, r8, r12, r13, r15, r23, r25, r26⟩ := id hR
  obtain ⟨g0, g1, gC, gI, gB, gJ, gR, gD, gE⟩ := id hQ
  by_cases h : zRl A r
  · rw [if_pos h] at ni
    by_cases h2 : 0 ≤ what ∧ what ≤ 10
    · rw [if_pos h2] at rg
      rw [zA2_v h h2, mAns_e]
      obtain ⟨s1, s2, s3⟩ := id h
      obtain ⟨t1, t2, t3, t4, t5, t6, t7, t8, t9, t10, t11, t12, t13, t14, t15, t16, t17, t18, t19⟩ := hW.rn h
      have tn := hW.tn
      have hb : zBl A (A.2.2.1 r 1) := ⟨t1, t2, t3⟩
      have hbn := hW.bn hb
      have ra := m_endOf (w := w) hK (hRt 0) (hQt 0) hb ⟨hbn.1, hbn.2.1, hbn.2.2.1⟩
      have rb := m_unreadSize (w := w) hK (hRt 0) (hQt 0) hW h
      have rc := m_isCovered (w := w) hK (hRt 0) (hQt 0) hW (st := st) (fun i i1 i2 => by rw [show (qa_up m 77 0 0) 78 i = m 78 i from qa_up_no _ (by omega)]; exact hS i i1 i2) h
      obtain ⟨cv, hcv, hd01⟩ : ∃ cv : Int, (if zCov A st r then (1 : Int) else 0) = cv ∧ (cv = 0 ∨ cv = 1) := ⟨_, rfl, by split <;> simp⟩
      rw [hcv] at rc
      have hw : what = 0 ∨ what = 1 ∨ what = 2 ∨ what = 3 ∨ what = 4 ∨ what = 5 ∨ what = 6 ∨ what = 7 ∨ what = 8 ∨ what = 9 ∨ what = 10 := by omega
      rcases hw with rfl | rfl | rfl | rfl | rfl | rfl | rfl | rfl | rfl | rfl | rfl <;>
      · unfold f_X12_reader
        refine qa_fn_eq ?_ (by simp)
        simp (disch := omega) [ev_X12_reader_0, ev_X12_reader_1, ev_X12_reader_2, ev_X12_reader_3, ev_X12_reader_4, ev_X12_reader_5, ev_X12_reader_6, ev_X12_reader_7, ev_X12_reader_8, ev_X12_reader_9, ev_X12_reader_10, ev_X12_reader_11, ev_X12_reader_12, ev_X12_reader_13, ev_X12_reader_14, B_X12_reader_0, B_X12_reader_1, B_X12_reader_2, B_X12_reader_3, B_X12_reader_4, B_X12_reader_5, B_X12_reader_6, B_X12_reader_7, B_X12_reader_8, B_X12_reader_9, B_X12_reader_10, B_X12_reader_11, B_X12_reader_12, B_X12_reader_13, B_X12_reader_14, x_const, x_iadd, x_isub, x_imul, x_idiv, x_irem, x_ineg, x_dup, x_dup_x1, x_dup2, x_pop, x_goto, x_ifeq, x_ifne, x_iflt, x_ifge, x_ifgt, x_ifle, x_cmpeq, x_cmpne, x_cmplt, x_cmpge, x_cmpgt, x_cmple, x_null, x_nonnull, x_acmpeq, x_acmpne, x_get, x_put, x_putz, x_ald, x_ast, x_bast, x_zast, x_aast, x_alen, x_obj, x_ret, x_retz, x_vret, x_max, x_min, x_copy, x_i2l, qg_none, qg_inl, qg_inr, qg_ite, xr1, xr0, xrE, xri, xl0, xl1, xl2, xl3, xl4, xl5, xl6, xl7, xl8, xl9, xl10, xs0, xs1, xs2, xs3, xs4, xs5, xs6, xs7, xs8, xs9, xs10, xi0, xi1, xi2, xi3, xi4, xi5, xi6, xi7, xi8, xi9, xi10, xc0, xc1, xc2, xc3, xc4, xc5, xc6, xc7, xv1, xv2, xv3, xv4, xv5, xv6, xv7, dT_le, dF_le, dT_lt, dF_lt, dT_eq, dF_eq, qa_up_hit, qa_up_no, k77, k78, k79, r1, r2, x_switch, zsw, ni, rg, vReader, m_ofReader hK (hRt 0), ra, rb, rc, gR, s3, hcv]
        try (rcases hd01 with hd | hd <;> simp [hd])
    · rw [if_neg h2] at rg
      rw [zA2_2 h h2, mAns_e]
      unfold f_X12_reader
      refine qa_fn_eq ?_ (by simp)
      simp (disch := omega) [ev_X12_reader_0, ev_X12_reader_1, ev_X12_reader_2, ev_X12_reader_3, ev_X12_reader_4, ev_X12_reader_5, ev_X12_reader_6, ev_X12_reader_7, ev_X12_reader_8, ev_X12_reader_9, ev_X12_reader_10, ev_X12_reader_11, ev_X12_reader_12, ev_X12_reader_13, ev_X12_reader_14, B_X12_reader_0, B_X12_reader_1, B_X12_reader_2, B_X12_reader_3, B_X12_reader_4, B_X12_reader_5, B_X12_reader_6, B_X12_reader_7, B_X12_reader_8, B_X12_reader_9, B_X12_reader_10, B_X12_reader_11, B_X12_reader_12, B_X12_reader_13, B_X12_reader_14, x_const, x_iadd, x_isub, x_imul, x_idiv, x_irem, x_ineg, x_dup, x_dup_x1, x_dup2, x_pop, x_goto, x_ifeq, x_ifne, x_iflt, x_ifge, x_ifgt, x_ifle, x_cmpeq, x_cmpne, x_cmplt, x_cmpge, x_cmpgt, x_cmple, x_null, x_nonnull, x_acmpeq, x_acmpne, x_get, x_put, x_putz, x_ald, x_ast, x_bast, x_zast, x_aast, x_alen, x_obj, x_ret, x_retz, x_vret, x_max, x_min, x_copy, x_i2l, qg_none, qg_inl, qg_inr, qg_ite, xr1, xr0, xrE, xri, xl0, xl1, xl2, xl3, xl4, xl5, xl6, xl7, xl8, xl9, xl10, xs0, xs1, xs2, xs3, xs4, xs5, xs6, xs7, xs8, xs9, xs10, xi0, xi1, xi2, xi3, xi4, xi5, xi6, xi7, xi8, xi9, xi10, xc0, xc1, xc2, xc3, xc4, xc5, xc6, xc7, xv1, xv2, xv3, xv4, xv5, xv6, xv7, dT_le, dF_le, dT_lt, dF_lt, dT_eq, dF_eq, qa_up_hit, qa_up_no, k77, k78, k79, r1, r2, x_switch, zsw, ni, rg]
  · rw [if_neg h] at ni
    rw [zA2_1 h, mAns_e]
    unfold f_X12_reader
    refine qa_fn_eq ?_ (by simp)
    simp (disch := omega) [ev_X12_reader_0, ev_X12_reader_1, ev_X12_reader_2, ev_X12_reader_3, ev_X12_reader_4, ev_X12_reader_5, ev_X12_reader_6, ev_X12_reader_7, ev_X12_reader_8, ev_X12_reader_9, ev_X12_reader_10, ev_X12_reader_11, ev_X12_reader_12, ev_X12_reader_13, ev_X12_reader_14, B_X12_reader_0, B_X12_reader_1, B_X12_reader_2, B_X12_reader_3, B_X12_reader_4, B_X12_reader_5, B_X12_reader_6, B_X12_reader_7, B_X12_reader_8, B_X12_reader_9, B_X12_reader_10, B_X12_reader_11, B_X12_reader_12, B_X12_reader_13, B_X12_reader_14, x_const, x_iadd, x_isub, x_imul, x_idiv, x_irem, x_ineg, x_dup, x_dup_x1, x_dup2, x_pop, x_goto, x_ifeq, x_ifne, x_iflt, x_ifge, x_ifgt, x_ifle, x_cmpeq, x_cmpne, x_cmplt, x_cmpge, x_cmpgt, x_cmple, x_null, x_nonnull, x_acmpeq, x_acmpne, x_get, x_put, x_putz, x_ald, x_ast, x_bast, x_zast, x_aast, x_alen, x_obj, x_ret, x_retz, x_vret, x_max, x_min, x_copy, x_i2l, qg_none, qg_inl, qg_inr, qg_ite, xr1, xr0, xrE, xri, xl0, xl1, xl2, xl3, xl4, xl5, xl6, xl7, xl8, xl9, xl10, xs0, xs1, xs2, xs3, xs4, xs5, xs6, xs7, xs8, xs9, xs10, xi0, xi1, xi2, xi3, xi4, xi5, xi6, xi7, xi8, xi9, xi10, xc0, xc1, xc2, xc3, xc4, xc5, xc6, xc7, xv1, xv2, xv3, xv4, xv5, xv6, xv7, dT_le, dF_le, dT_lt, dF_lt, dT_eq, dF_eq, qa_up_hit, qa_up_no, k77, k78, k79, r1, r2, x_switch, zsw, ni]
theorem cq_debt {m : Int → Int → Int} {kd : Int → Nat × Int} {w : Nat × Nat × Nat} {A : zA} {S : Int} (hK : KS kd S) (hC : RC A m kd S) {M : Int} (hW : zW M A) (hx : kd 0 = (14, 0)) (hn : m 0 1 = S) (r what : Int) : f_X11_debt [(1, 0), (0, r), (0, what)] (m, kd, w) = zAns 1 2 (zA2 (zRl A r) (0 ≤ what ∧ what ≤ 6) (A.2.2.1 r (9 + what))) m kd w := by
  have ne := c_needReader (w := w) hK hC hW hx hn r
  have rg := c_needRange (m := m) (kd := kd) (w := w) what 0 6
  obtain ⟨⟨f2, f3, f4, fV, fW, f0, f8, f9, f7⟩, e0, e1, eC, eB, eR, eD, eL, eE⟩ := id hC
  obtain ⟨kN, kS, kC, kV, kW, kB, kE, kR, kD, kL⟩ := id hK
  by_cases h : zRl A r
  · rw [if_pos h] at ne
    by_cases h2 : 0 ≤ what ∧ what ≤ 6
    · rw [if_pos h2] at rg
      rw [zA2_v h h2, zAns_0]
      obtain ⟨s1, s2, s3⟩ := id h
      have ra : f_X3_numberOf [(1, S + 13 + 3 * r), (0, what)] (m, kd, w) = some (.inl (some (0, A.2.2.1 r (9 + what))), (m, kd, w)) := by
        have v := fun j j1 j2 => eD r j s1 s2 s3 j1 j2
        have v0 := v 0 (by decide) (by decide)
        have v1 := v 1 (by decide) (by decide)
        have v2 := v 2 (by decide) (by decide)
        have v3 := v 3 (by decide) (by decide)
        have v4 := v 4 (by decide) (by decide)
        have v5 := v 5 (by decide) (by decide)
        have v6 := v 6 (by decide) (by decide)
        have hw : what = 0 ∨ what = 1 ∨ what = 2 ∨ what = 3 ∨ what = 4 ∨ what = 5 ∨ what = 6 := by omega
        rcases hw with rfl | rfl | rfl | rfl | rfl | rfl | rfl <;>
        · unfold f_X3_numberOf
          refine qa_fn_eq ?_ (by simp)
          simp (disch := omega) [ev_X3_numberOf_0, ev_X3_numberOf_1, ev_X3_numberOf_2, ev_X3_numberOf_3, ev_X3_numberOf_4, ev_X3_numberOf_5, ev_X3_numberOf_6, ev_X3_numberOf_7, B_X3_numberOf_0, B_X3_numberOf_1, B_X3_numberOf_2, B_X3_numberOf_3, B_X3_numberOf_4, B_X3_numberOf_5, B_X3_numberOf_6, B_X3_numberOf_7, x_const, x_iadd, x_isub, x_imul, x_idiv, x_irem, x_ineg, x_dup, x_dup_x1, x_dup2, x_pop, x_goto, x_ifeq, x_ifne, x_iflt, x_ifge, x_ifgt, x_ifle, x_cmpeq, x_cmpne, x_cmplt, x_cmpge, x_cmpgt, x_cmple, x_null, x_nonnull, x_acmpeq, x_acmpne, x_get, x_put, x_putz, x_ald, x_ast, x_bast, x_zast, x_aast, x_alen, x_obj, x_ret, x_retz, x_vret, x_max, x_min, x_copy, x_i2l, qg_none, qg_inl, qg_inr, qg_ite, xr1, xr0, xrE, xri, xl0, xl1, xl2, xl3, xl4, xl5, xl6, xl7, xl8, xl9, xl10, xs0, xs1, xs2, xs3, xs4, xs5, xs6, xs7, xs8, xs9, xs10, xi0, xi1, xi2, xi3, xi4, xi5, xi6, xi7, xi8, xi9, xi10, xc0, xc1, xc2, xc3, xc4, xc5, xc6, xc7, xv1, xv2, xv3, xv4, xv5, xv6, xv7, dT_le, dF_le, dT_lt, dF_lt, kD, x_switch, zsw, v0, v1, v2, v3, v4, v5, v6]
      · unfold f_X11_debt
        refine qa_fn_eq ?_ (by simp)
        simp (disch := omega) [ev_X11_debt_0, B_X11_debt_0, x_const, x_iadd, x_isub, x_imul, x_idiv, x_irem, x_ineg, x_dup, x_dup_x1, x_dup2, x_pop, x_goto, x_ifeq, x_ifne, x_iflt, x_ifge, x_ifgt, x_ifle, x_cmpeq, x_cmpne, x_cmplt, x_cmpge, x_cmpgt, x_cmple, x_null, x_nonnull, x_acmpeq, x_acmpne, x_get, x_put, x_putz, x_ald, x_ast, x_bast, x_zast, x_aast, x_alen, x_obj, x_ret, x_retz, x_vret, x_max, x_min, x_copy, x_i2l, qg_none, qg_inl, qg_inr, qg_ite, xr1, xr0, xrE, xri, xl0, xl1, xl2, xl3, xl4, xl5, xl6, xl7, xl8, xl9, xl10, xs0, xs1, xs2, xs3, xs4, xs5, xs6, xs7, xs8, xs9, xs10, xi0, xi1, xi2, xi3, xi4, xi5, xi6, xi7, xi8, xi9, xi10, xc0, xc1, xc2, xc3, xc4, xc5, xc6, xc7, xv1, xv2, xv3, xv4, xv5, xv6, xv7, dT_le, dF_le, dT_lt, dF_lt, f2, f3, f4, fV, fW, f0, f8, f9, f7, e0, e1, eC, eB, eR, kS, kC, kV, kW, kB, kE, kR, kD, kL, hx, hn, x_switch, zsw, ne, rg, ra]
    · rw [if_neg h2] at rg
      rw [zA2_2 h h2, zAns_2]
      unfold f_X11_debt
      refine qa_fn_eq ?_ (by simp)
      simp (disch := omega) [ev_X11_debt_0, B_X11_debt_0, x_const, x_iadd, x_isub, x_imul, x_idiv, x_irem, x_ineg, x_dup, x_dup_x1, x_dup2, x_pop, x_goto, x_ifeq, x_ifne, x_iflt, x_ifge, x_ifgt, x_ifle, x_cmpeq, x_cmpne, x_cmplt, x_cmpge, x_cmpgt, x_cmple, x_null, x_nonnull, x_acmpeq, x_acmpne, x_get, x_put, x_putz, x_ald, x_ast, x_bast, x_zast, x_aast, x_alen, x_obj, x_ret, x_retz, x_vret, x_max, x_min, x_copy, x_i2l, qg_none, qg_inl, qg_inr, qg_ite, xr1, xr0, xrE, xri, xl0, xl1, xl2, xl3, xl4, xl5, xl6, xl7, xl8, xl9, xl10, xs0, xs1, xs2, xs3, xs4, xs5, xs6, xs7, xs8, xs9, xs10, xi0, xi1, xi2, xi3, xi4, xi5, xi6, xi7, xi8, xi9, xi10, xc0, xc1, xc2, xc3, xc4, xc5, xc6, xc7, xv1, xv2, xv3, xv4, xv5, xv6, xv7, dT_le, dF_le, dT_lt, dF_lt, f2, f3, f4, fV, fW, f0, f8, f9, f7, e0, e1, eC, eB, eR, kS, kC, kV, kW, kB, kE, kR, kD, kL, hx, hn, ne, rg]
  · rw [if_neg h] at ne
    rw [zA2_1 h, zAns_1]
    unfold f_X11_debt
    refine qa_fn_eq ?_ (by simp)
    simp (disch := omega) [ev_X11_debt_0, B_X11_debt_0, x_const, x_iadd, x_isub, x_imul, x_idiv, x_irem, x_ineg, x_dup, x_dup_x1, x_dup2, x_pop, x_goto, x_ifeq, x_ifne, x_iflt, x_ifge, x_ifgt, x_ifle, x_cmpeq, x_cmpne, x_cmplt, x_cmpge, x_cmpgt, x_cmple, x_null, x_nonnull, x_acmpeq, x_acmpne, x_get, x_put, x_putz, x_ald, x_ast, x_bast, x_zast, x_aast, x_alen, x_obj, x_ret, x_retz, x_vret, x_max, x_min, x_copy, x_i2l, qg_none, qg_inl, qg_inr, qg_ite, xr1, xr0, xrE, xri, xl0, xl1, xl2, xl3, xl4, xl5, xl6, xl7, xl8, xl9, xl10, xs0, xs1, xs2, xs3, xs4, xs5, xs6, xs7, xs8, xs9, xs10, xi0, xi1, xi2, xi3, xi4, xi5, xi6, xi7, xi8, xi9, xi10, xc0, xc1, xc2, xc3, xc4, xc5, xc6, xc7, xv1, xv2, xv3, xv4, xv5, xv6, xv7, dT_le, dF_le, dT_lt, dF_lt, f2, f3, f4, fV, fW, f0, f8, f9, f7, e0, e1, eC, eB, eR, kS, kC, kV, kW, kB, kE, kR, kD, kL, hx, hn, x_thr, ne]
theorem mq_debt {m : Int → Int → Int} {kd : Int → Nat × Int} {w : Nat × Nat × Nat} {A : zA} (hK : KM kd) (hR : RM m) (hQ : QR A (m 79)) {M : Int} (hW : zW M A) (r what : Int) : f_X12_debt [(1, 77), (0, r), (0, what)] (m, kd, w) = mAns (zA2 (zRl A r) (0 ≤ what ∧ what ≤ 6) (A.2.2.1 r (9 + what))) m kd w := by
  have ni := m_isReader (w := w) hK hR hQ r
  have rg := m_in (m := m) (kd := kd) (w := w) what 0 6
  have hRt : ∀ t, RM (qa_up m 77 0 t) := fun t => by rw [RM_t]; exact hR
  have hQt : ∀ t, QR A ((qa_up m 77 0 t) 79) := fun t => hQ
  obtain ⟨k77, k78, k79, k80, k81, k82, k83, k84, k85, k86, k87, k88, k89, k90⟩ := id hK
  obtain ⟨r1, r2, r3, r4, r6, r7, r8, r12, r13, r15, r23, r25, r26⟩ := id hR
  obtain ⟨g0, g1, gC, gI, gB, gJ, gR, gD, gE⟩ := id hQ
  by_cases h : zRl A r
  · rw [if_pos h] at ni
    by_cases h2 : 0 ≤ what ∧ what ≤ 6
    · rw [if_pos h2] at rg
      rw [zA2_v h h2, mAns_e]
      obtain ⟨s1, s2, s3⟩ := id h
      obtain ⟨d1, d2, d3, d4, d5, d6, d7⟩ := hW.2.2.2.2.2.2.2.2 r s1 s2 s3
      have e9 := gR r 9 s1 s2 s3 (by decide) (by decide)
      by_cases c0 : A.2.2.1 r 9 = 0
      · obtain ⟨z10, z11, z12, z13, z14, z15, z16⟩ := d7 c0
        have hw : what = 0 ∨ what = 1 ∨ what = 2 ∨ what = 3 ∨ what = 4 ∨ what = 5 ∨ what = 6 := by omega
        rcases hw with rfl | rfl | rfl | rfl | rfl | rfl | rfl <;>
        · unfold f_X12_debt
          refine qa_fn_eq ?_ (by simp)
          simp (disch := omega) [ev_X12_debt_0, ev_X12_debt_1, ev_X12_debt_2, ev_X12_debt_3, ev_X12_debt_4, ev_X12_debt_5, ev_X12_debt_6, ev_X12_debt_7, ev_X12_debt_8, B_X12_debt_0, B_X12_debt_1, B_X12_debt_2, B_X12_debt_3, B_X12_debt_4, B_X12_debt_5, B_X12_debt_6, B_X12_debt_7, B_X12_debt_8, x_const, x_iadd, x_isub, x_imul, x_idiv, x_irem, x_ineg, x_dup, x_dup_x1, x_dup2, x_pop, x_goto, x_ifeq, x_ifne, x_iflt, x_ifge, x_ifgt, x_ifle, x_cmpeq, x_cmpne, x_cmplt, x_cmpge, x_cmpgt, x_cmple, x_null, x_nonnull, x_acmpeq, x_acmpne, x_get, x_put, x_putz, x_ald, x_ast, x_bast, x_zast, x_aast, x_alen, x_obj, x_ret, x_retz, x_vret, x_max, x_min, x_copy, x_i2l, qg_none, qg_inl, qg_inr, qg_ite, xr1, xr0, xrE, xri, xl0, xl1, xl2, xl3, xl4, xl5, xl6, xl7, xl8, xl9, xl10, xs0, xs1, xs2, xs3, xs4, xs5, xs6, xs7, xs8, xs9, xs10, xi0, xi1, xi2, xi3, xi4, xi5, xi6, xi7, xi8, xi9, xi10, xc0, xc1, xc2, xc3, xc4, xc5, xc6, xc7, xv1, xv2, xv3, xv4, xv5, xv6, xv7, dT_le, dF_le, dT_lt, dF_lt, dT_eq, dF_eq, qa_up_hit, qa_up_no, k77, ni, rg, m_ofReader hK (hRt 0), e9, c0, z10, z11, z12, z13, z14, z15]
      have ev : m 79 (34 + 26 * r + (9 + what)) = A.2.2.1 r (9 + what) := by
        by_cases hl : what ≤ 2
        · exact gR r _ s1 s2 s3 (by omega) (by omega)
        · exact gD r _ s1 s2 s3 c0 (by omega) (by omega)
      · unfold f_X12_debt
        refine qa_fn_eq ?_ (by simp)
        simp (disch := omega) [ev_X12_debt_0, ev_X12_debt_1, ev_X12_debt_2, ev_X12_debt_3, ev_X12_debt_4, ev_X12_debt_5, ev_X12_debt_6, ev_X12_debt_7, ev_X12_debt_8, B_X12_debt_0, B_X12_debt_1, B_X12_debt_2, B_X12_debt_3, B_X12_debt_4, B_X12_debt_5, B_X12_debt_6, B_X12_debt_7, B_X12_debt_8, x_const, x_iadd, x_isub, x_imul, x_idiv, x_irem, x_ineg, x_dup, x_dup_x1, x_dup2, x_pop, x_goto, x_ifeq, x_ifne, x_iflt, x_ifge, x_ifgt, x_ifle, x_cmpeq, x_cmpne, x_cmplt, x_cmpge, x_cmpgt, x_cmple, x_null, x_nonnull, x_acmpeq, x_acmpne, x_get, x_put, x_putz, x_ald, x_ast, x_bast, x_zast, x_aast, x_alen, x_obj, x_ret, x_retz, x_vret, x_max, x_min, x_copy, x_i2l, qg_none, qg_inl, qg_inr, qg_ite, xr1, xr0, xrE, xri, xl0, xl1, xl2, xl3, xl4, xl5, xl6, xl7, xl8, xl9, xl10, xs0, xs1, xs2, xs3, xs4, xs5, xs6, xs7, xs8, xs9, xs10, xi0, xi1, xi2, xi3, xi4, xi5, xi6, xi7, xi8, xi9, xi10, xc0, xc1, xc2, xc3, xc4, xc5, xc6, xc7, xv1, xv2, xv3, xv4, xv5, xv6, xv7, dT_le, dF_le, dT_lt, dF_lt, dT_eq, dF_eq, qa_up_hit, qa_up_no, k77, k78, k79, r1, r2, x_switch, zsw, ni, rg, m_ofReader hK (hRt 0), e9, c0, ev]
    · rw [if_neg h2] at rg
      rw [zA2_2 h h2, mAns_e]
      unfold f_X12_debt
      refine qa_fn_eq ?_ (by simp)
      simp (disch := omega) [ev_X12_debt_0, ev_X12_debt_1, ev_X12_debt_2, ev_X12_debt_3, ev_X12_debt_4, ev_X12_debt_5, ev_X12_debt_6, ev_X12_debt_7, ev_X12_debt_8, B_X12_debt_0, B_X12_debt_1, B_X12_debt_2, B_X12_debt_3, B_X12_debt_4, B_X12_debt_5, B_X12_debt_6, B_X12_debt_7, B_X12_debt_8, x_const, x_iadd, x_isub, x_imul, x_idiv, x_irem, x_ineg, x_dup, x_dup_x1, x_dup2, x_pop, x_goto, x_ifeq, x_ifne, x_iflt, x_ifge, x_ifgt, x_ifle, x_cmpeq, x_cmpne, x_cmplt, x_cmpge, x_cmpgt, x_cmple, x_null, x_nonnull, x_acmpeq, x_acmpne, x_get, x_put, x_putz, x_ald, x_ast, x_bast, x_zast, x_aast, x_alen, x_obj, x_ret, x_retz, x_vret, x_max, x_min, x_copy, x_i2l, qg_none, qg_inl, qg_inr, qg_ite, xr1, xr0, xrE, xri, xl0, xl1, xl2, xl3, xl4, xl5, xl6, xl7, xl8, xl9, xl10, xs0, xs1, xs2, xs3, xs4, xs5, xs6, xs7, xs8, xs9, xs10, xi0, xi1, xi2, xi3, xi4, xi5, xi6, xi7, xi8, xi9, xi10, xc0, xc1, xc2, xc3, xc4, xc5, xc6, xc7, xv1, xv2, xv3, xv4, xv5, xv6, xv7, dT_le, dF_le, dT_lt, dF_lt, dT_eq, dF_eq, qa_up_hit, qa_up_no, k77, k78, k79, r1, r2, x_switch, zsw, ni, rg]
  · rw [if_neg h] at ni
    rw [zA2_1 h, mAns_e]
    unfold f_X12_debt
    refine qa_fn_eq ?_ (by simp)
    simp (disch := omega) [ev_X12_debt_0, ev_X12_debt_1, ev_X12_debt_2, ev_X12_debt_3, ev_X12_debt_4, ev_X12_debt_5, ev_X12_debt_6, ev_X12_debt_7, ev_X12_debt_8, B_X12_debt_0, B_X12_debt_1, B_X12_debt_2, B_X12_debt_3, B_X12_debt_4, B_X12_debt_5, B_X12_debt_6, B_X12_debt_7, B_X12_debt_8, x_const, x_iadd, x_isub, x_imul, x_idiv, x_irem, x_ineg, x_dup, x_dup_x1, x_dup2, x_pop, x_goto, x_ifeq, x_ifne, x_iflt, x_ifge, x_ifgt, x_ifle, x_cmpeq, x_cmpne, x_cmplt, x_cmpge, x_cmpgt, x_cmple, x_null, x_nonnull, x_acmpeq, x_acmpne, x_get, x_put, x_putz, x_ald, x_ast, x_bast, x_zast, x_aast, x_alen, x_obj, x_ret, x_retz, x_vret, x_max, x_min, x_copy, x_i2l, qg_none, qg_inl, qg_inr, qg_ite, xr1, xr0, xrE, xri, xl0, xl1, xl2, xl3, xl4, xl5, xl6, xl7, xl8, xl9, xl10, xs0, xs1, xs2, xs3, xs4, xs5, xs6, xs7, xs8, xs9, xs10, xi0, xi1, xi2, xi3, xi4, xi5, xi6, xi7, xi8, xi9, xi10, xc0, xc1, xc2, xc3, xc4, xc5, xc6, xc7, xv1, xv2, xv3, xv4, xv5, xv6, xv7, dT_le, dF_le, dT_lt, dF_lt, dT_eq, dF_eq, qa_up_hit, qa_up_no, k77, k78, k79, r1, r2, x_switch, zsw, ni]
theorem cq_debtOf {m : Int → Int → Int} {kd : Int → Nat × Int} {w : Nat × Nat × Nat} {A : zA} {S : Int} (hK : KS kd S) (hC : RC A m kd S) {M : Int} (hW : zW M A) (hx : kd 0 = (14, 0)) (hn : m 0 1 = S) (r key : Int) : f_X11_debtOf [(1, 0), (0, r), (0, key)] (m, kd, w) = zAns 1 2 (zA2 (zRl A r) (0 ≤ key ∧ key ≤ 9) (A.2.2.1 r (16 + key))) m kd w := by
  have ne := c_needReader (w := w) hK hC hW hx hn r
  have rg := c_needRange (m := m) (kd := kd) (w := w) key 0 9
  obtain ⟨⟨f2, f3, f4, fV, fW, f0, f8, f9, f7⟩, e0, e1, eC, eB, eR, eD, eL, eE⟩ := id hC
  obtain ⟨kN, kS, kC, kV, kW, kB, kE, kR, kD, kL⟩ := id hK
  by_cases h : zRl A r
  · rw [if_pos h] at ne
    by_cases h2 : 0 ≤ key ∧ key ≤ 9
    · rw [if_pos h2] at rg
      rw [zA2_v h h2, zAns_0]
      obtain ⟨s1, s2, s3⟩ := id h
      have ra : f_X3_latestWith [(1, S + 13 + 3 * r), (0, key)] (m, kd, w) = some (.inl (some (0, A.2.2.1 r (16 + key))), (m, kd, w)) := by
        have v := eL r key s1 s2 s3 (by omega) (by omega)
        unfold f_X3_latestWith
        refine qa_fn_eq ?_ (by simp)
        simp (disch := omega) [ev_X3_latestWith_0, ev_X3_latestWith_1, ev_X3_latestWith_2, B_X3_latestWith_0, B_X3_latestWith_1, B_X3_latestWith_2, x_const, x_iadd, x_isub, x_imul, x_idiv, x_irem, x_ineg, x_dup, x_dup_x1, x_dup2, x_pop, x_goto, x_ifeq, x_ifne, x_iflt, x_ifge, x_ifgt, x_ifle, x_cmpeq, x_cmpne, x_cmplt, x_cmpge, x_cmpgt, x_cmple, x_null, x_nonnull, x_acmpeq, x_acmpne, x_get, x_put, x_putz, x_ald, x_ast, x_bast, x_zast, x_aast, x_alen, x_obj, x_ret, x_retz, x_vret, x_max, x_min, x_copy, x_i2l, qg_none, qg_inl, qg_inr, qg_ite, xr1, xr0, xrE, xri, xl0, xl1, xl2, xl3, xl4, xl5, xl6, xl7, xl8, xl9, xl10, xs0, xs1, xs2, xs3, xs4, xs5, xs6, xs7, xs8, xs9, xs10, xi0, xi1, xi2, xi3, xi4, xi5, xi6, xi7, xi8, xi9, xi10, xc0, xc1, xc2, xc3, xc4, xc5, xc6, xc7, xv1, xv2, xv3, xv4, xv5, xv6, xv7, dT_le, dF_le, dT_lt, dF_lt, kD, kL, f7, v]
      · unfold f_X11_debtOf
        refine qa_fn_eq ?_ (by simp)
        simp (disch := omega) [ev_X11_debtOf_0, B_X11_debtOf_0, x_const, x_iadd, x_isub, x_imul, x_idiv, x_irem, x_ineg, x_dup, x_dup_x1, x_dup2, x_pop, x_goto, x_ifeq, x_ifne, x_iflt, x_ifge, x_ifgt, x_ifle, x_cmpeq, x_cmpne, x_cmplt, x_cmpge, x_cmpgt, x_cmple, x_null, x_nonnull, x_acmpeq, x_acmpne, x_get, x_put, x_putz, x_ald, x_ast, x_bast, x_zast, x_aast, x_alen, x_obj, x_ret, x_retz, x_vret, x_max, x_min, x_copy, x_i2l, qg_none, qg_inl, qg_inr, qg_ite, xr1, xr0, xrE, xri, xl0, xl1, xl2, xl3, xl4, xl5, xl6, xl7, xl8, xl9, xl10, xs0, xs1, xs2, xs3, xs4, xs5, xs6, xs7, xs8, xs9, xs10, xi0, xi1, xi2, xi3, xi4, xi5, xi6, xi7, xi8, xi9, xi10, xc0, xc1, xc2, xc3, xc4, xc5, xc6, xc7, xv1, xv2, xv3, xv4, xv5, xv6, xv7, dT_le, dF_le, dT_lt, dF_lt, f2, f3, f4, fV, fW, f0, f8, f9, f7, e0, e1, eC, eB, eR, kS, kC, kV, kW, kB, kE, kR, kD, kL, hx, hn, x_switch, zsw, ne, rg, ra]
    · rw [if_neg h2] at rg
      rw [zA2_2 h h2, zAns_2]
      unfold f_X11_debtOf
      refine qa_fn_eq ?_ (by simp)
      simp (disch := omega) [ev_X11_debtOf_0, B_X11_debtOf_0, x_const, x_iadd, x_isub, x_imul, x_idiv, x_irem, x_ineg, x_dup, x_dup_x1, x_dup2, x_pop, x_goto, x_ifeq, x_ifne, x_iflt, x_ifge, x_ifgt, x_ifle, x_cmpeq, x_cmpne, x_cmplt, x_cmpge, x_cmpgt, x_cmple, x_null, x_nonnull, x_acmpeq, x_acmpne, x_get, x_put, x_putz, x_ald, x_ast, x_bast, x_zast, x_aast, x_alen, x_obj, x_ret, x_retz, x_vret, x_max, x_min, x_copy, x_i2l, qg_none, qg_inl, qg_inr, qg_ite, xr1, xr0, xrE, xri, xl0, xl1, xl2, xl3, xl4, xl5, xl6, xl7, xl8, xl9, xl10, xs0, xs1, xs2, xs3, xs4, xs5, xs6, xs7, xs8, xs9, xs10, xi0, xi1, xi2, xi3, xi4, xi5, xi6, xi7, xi8, xi9, xi10, xc0, xc1, xc2, xc3, xc4, xc5, xc6, xc7, xv1, xv2, xv3, xv4, xv5, xv6, xv7, dT_le, dF_le, dT_lt, dF_lt, f2, f3, f4, fV, fW, f0, f8, f9, f7, e0, e1, eC, eB, eR, kS, kC, kV, kW, kB, kE, kR, kD, kL, hx, hn, ne, rg]
  · rw [if_neg h] at ne
    rw [zA2_1 h, zAns_1]
    unfold f_X11_debtOf
    refine qa_fn_eq ?_ (by simp)
    simp (disch := omega) [ev_X11_debtOf_0, B_X11_debtOf_0, x_const, x_iadd, x_isub, x_imul, x_idiv, x_irem, x_ineg, x_dup, x_dup_x1, x_dup2, x_pop, x_goto, x_ifeq, x_ifne, x_iflt, x_ifge, x_ifgt, x_ifle, x_cmpeq, x_cmpne, x_cmplt, x_cmpge, x_cmpgt, x_cmple, x_null, x_nonnull, x_acmpeq, x_acmpne, x_get, x_put, x_putz, x_ald, x_ast, x_bast, x_zast, x_aast, x_alen, x_obj, x_ret, x_retz, x_vret, x_max, x_min, x_copy, x_i2l, qg_none, qg_inl, qg_inr, qg_ite, xr1, xr0, xrE, xri, xl0, xl1, xl2, xl3, xl4, xl5, xl6, xl7, xl8, xl9, xl10, xs0, xs1, xs2, xs3, xs4, xs5, xs6, xs7, xs8, xs9, xs10, xi0, xi1, xi2, xi3, xi4, xi5, xi6, xi7, xi8, xi9, xi10, xc0, xc1, xc2, xc3, xc4, xc5, xc6, xc7, xv1, xv2, xv3, xv4, xv5, xv6, xv7, dT_le, dF_le, dT_lt, dF_lt, f2, f3, f4, fV, fW, f0, f8, f9, f7, e0, e1, eC, eB, eR, kS, kC, kV, kW, kB, kE, kR, kD, kL, hx, hn, x_thr, ne]
theorem mq_debtOf {m : Int → Int → Int} {kd : Int → Nat × Int} {w : Nat × Nat × Nat} {A : zA} (hK : KM kd) (hR : RM m) (hQ : QR A (m 79)) {M : Int} (hW : zW M A) (r key : Int) : f_X12_debtOf [(1, 77), (0, r), (0, key)] (m, kd, w) = mAns (zA2 (zRl A r) (0 ≤ key ∧ key ≤ 9) (A.2.2.1 r (16 + key))) m kd w := by
  have ni := m_isReader (w := w) hK hR hQ r
  have rg := m_in (m := m) (kd := kd) (w := w) key 0 9
  have hRt : ∀ t, RM (qa_up m 77 0 t) := fun t => by rw [RM_t]; exact hR
  have hQt : ∀ t, QR A ((qa_up m 77 0 t) 79) := fun t => hQ
  obtain ⟨k77, k78, k79, k80, k81, k82, k83, k84, k85, k86, k87, k88, k89, k90⟩ := id hK
  obtain ⟨r1, r2, r3, r4, r6, r7, r8, r12, r13, r15, r23, r25, r26⟩ := id hR
  obtain ⟨g0, g1, gC, gI, gB, gJ, gR, gD, gE⟩ := id hQ
  by_cases h : zRl A r
  · rw [if_pos h] at ni
    by_cases h2 : 0 ≤ key ∧ key ≤ 9
    · rw [if_pos h2] at rg
      rw [zA2_v h h2, mAns_e]
      obtain ⟨s1, s2, s3⟩ := id h
      obtain ⟨d1, d2, d3, d4, d5, d6, d7⟩ := hW.2.2.2.2.2.2.2.2 r s1 s2 s3
      have e9 := gR r 9 s1 s2 s3 (by decide) (by decide)
      by_cases c0 : A.2.2.1 r 9 = 0
      · obtain ⟨z10, z11, z12, z13, z14, z15, z16⟩ := d7 c0
        have zk := z16 (16 + key) (by omega) (by omega)
        unfold f_X12_debtOf
        refine qa_fn_eq ?_ (by simp)
        simp (disch := omega) [ev_X12_debtOf_0, ev_X12_debtOf_1, ev_X12_debtOf_2, ev_X12_debtOf_3, ev_X12_debtOf_4, ev_X12_debtOf_5, ev_X12_debtOf_6, B_X12_debtOf_0, B_X12_debtOf_1, B_X12_debtOf_2, B_X12_debtOf_3, B_X12_debtOf_4, B_X12_debtOf_5, B_X12_debtOf_6, x_const, x_iadd, x_isub, x_imul, x_idiv, x_irem, x_ineg, x_dup, x_dup_x1, x_dup2, x_pop, x_goto, x_ifeq, x_ifne, x_iflt, x_ifge, x_ifgt, x_ifle, x_cmpeq, x_cmpne, x_cmplt, x_cmpge, x_cmpgt, x_cmple, x_null, x_nonnull, x_acmpeq, x_acmpne, x_get, x_put, x_putz, x_ald, x_ast, x_bast, x_zast, x_aast, x_alen, x_obj, x_ret, x_retz, x_vret, x_max, x_min, x_copy, x_i2l, qg_none, qg_inl, qg_inr, qg_ite, xr1, xr0, xrE, xri, xl0, xl1, xl2, xl3, xl4, xl5, xl6, xl7, xl8, xl9, xl10, xs0, xs1, xs2, xs3, xs4, xs5, xs6, xs7, xs8, xs9, xs10, xi0, xi1, xi2, xi3, xi4, xi5, xi6, xi7, xi8, xi9, xi10, xc0, xc1, xc2, xc3, xc4, xc5, xc6, xc7, xv1, xv2, xv3, xv4, xv5, xv6, xv7, dT_le, dF_le, dT_lt, dF_lt, dT_eq, dF_eq, qa_up_hit, qa_up_no, k77, ni, rg, m_ofReader hK (hRt 0), e9, c0, zk]
      have ev : m 79 (34 + 26 * r + (16 + key)) = A.2.2.1 r (16 + key) := gD r _ s1 s2 s3 c0 (by omega) (by omega)
      · unfold f_X12_debtOf
        refine qa_fn_eq ?_ (by simp)
        simp (disch := omega) [ev_X12_debtOf_0, ev_X12_debtOf_1, ev_X12_debtOf_2, ev_X12_debtOf_3, ev_X12_debtOf_4, ev_X12_debtOf_5, ev_X12_debtOf_6, B_X12_debtOf_0, B_X12_debtOf_1, B_X12_debtOf_2, B_X12_debtOf_3, B_X12_debtOf_4, B_X12_debtOf_5, B_X12_debtOf_6, x_const, x_iadd, x_isub, x_imul, x_idiv, x_irem, x_ineg, x_dup, x_dup_x1, x_dup2, x_pop, x_goto, x_ifeq, x_ifne, x_iflt, x_ifge, x_ifgt, x_ifle, x_cmpeq, x_cmpne, x_cmplt, x_cmpge, x_cmpgt, x_cmple, x_null, x_nonnull, x_acmpeq, x_acmpne, x_get, x_put, x_putz, x_ald, x_ast, x_bast, x_zast, x_aast, x_alen, x_obj, x_ret, x_retz, x_vret, x_max, x_min, x_copy, x_i2l, qg_none, qg_inl, qg_inr, qg_ite, xr1, xr0, xrE, xri, xl0, xl1, xl2, xl3, xl4, xl5, xl6, xl7, xl8, xl9, xl10, xs0, xs1, xs2, xs3, xs4, xs5, xs6, xs7, xs8, xs9, xs10, xi0, xi1, xi2, xi3, xi4, xi5, xi6, xi7, xi8, xi9, xi10, xc0, xc1, xc2, xc3, xc4, xc5, xc6, xc7, xv1, xv2, xv3, xv4, xv5, xv6, xv7, dT_le, dF_le, dT_lt, dF_lt, dT_eq, dF_eq, qa_up_hit, qa_up_no, k77, k78, k79, r1, r2, x_switch, zsw, ni, rg, m_ofReader hK (hRt 0), e9, c0, ev]
    · rw [if_neg h2] at rg
      rw [zA2_2 h h2, mAns_e]
      unfold f_X12_debtOf
      refine qa_fn_eq ?_ (by simp)
      simp (disch := omega) [ev_X12_debtOf_0, ev_X12_debtOf_1, ev_X12_debtOf_2, ev_X12_debtOf_3, ev_X12_debtOf_4, ev_X12_debtOf_5, ev_X12_debtOf_6, B_X12_debtOf_0, B_X12_debtOf_1, B_X12_debtOf_2, B_X12_debtOf_3, B_X12_debtOf_4, B_X12_debtOf_5, B_X12_debtOf_6, x_const, x_iadd, x_isub, x_imul, x_idiv, x_irem, x_ineg, x_dup, x_dup_x1, x_dup2, x_pop, x_goto, x_ifeq, x_ifne, x_iflt, x_ifge, x_ifgt, x_ifle, x_cmpeq, x_cmpne, x_cmplt, x_cmpge, x_cmpgt, x_cmple, x_null, x_nonnull, x_acmpeq, x_acmpne, x_get, x_put, x_putz, x_ald, x_ast, x_bast, x_zast, x_aast, x_alen, x_obj, x_ret, x_retz, x_vret, x_max, x_min, x_copy, x_i2l, qg_none, qg_inl, qg_inr, qg_ite, xr1, xr0, xrE, xri, xl0, xl1, xl2, xl3, xl4, xl5, xl6, xl7, xl8, xl9, xl10, xs0, xs1, xs2, xs3, xs4, xs5, xs6, xs7, xs8, xs9, xs10, xi0, xi1, xi2, xi3, xi4, xi5, xi6, xi7, xi8, xi9, xi10, xc0, xc1, xc2, xc3, xc4, xc5, xc6, xc7, xv1, xv2, xv3, xv4, xv5, xv6, xv7, dT_le, dF_le, dT_lt, dF_lt, dT_eq, dF_eq, qa_up_hit, qa_up_no, k77, k78, k79, r1, r2, x_switch, zsw, ni, rg]
  · rw [if_neg h] at ni
    rw [zA2_1 h, mAns_e]
    unfold f_X12_debtOf
    refine qa_fn_eq ?_ (by simp)
    simp (disch := omega) [ev_X12_debtOf_0, ev_X12_debtOf_1, ev_X12_debtOf_2, ev_X12_debtOf_3, ev_X12_debtOf_4, ev_X12_debtOf_5, ev_X12_debtOf_6, B_X12_debtOf_0, B_X12_debtOf_1, B_X12_debtOf_2, B_X12_debtOf_3, B_X12_debtOf_4, B_X12_debtOf_5, B_X12_debtOf_6, x_const, x_iadd, x_isub, x_imul, x_idiv, x_irem, x_ineg, x_dup, x_dup_x1, x_dup2, x_pop, x_goto, x_ifeq, x_ifne, x_iflt, x_ifge, x_ifgt, x_ifle, x_cmpeq, x_cmpne, x_cmplt, x_cmpge, x_cmpgt, x_cmple, x_null, x_nonnull, x_acmpeq, x_acmpne, x_get, x_put, x_putz, x_ald, x_ast, x_bast, x_zast, x_aast, x_alen, x_obj, x_ret, x_retz, x_vret, x_max, x_min, x_copy, x_i2l, qg_none, qg_inl, qg_inr, qg_ite, xr1, xr0, xrE, xri, xl0, xl1, xl2, xl3, xl4, xl5, xl6, xl7, xl8, xl9, xl10, xs0, xs1, xs2, xs3, xs4, xs5, xs6, xs7, xs8, xs9, xs10, xi0, xi1, xi2, xi3, xi4, xi5, xi6, xi7, xi8, xi9, xi10, xc0, xc1, xc2, xc3, xc4, xc5, xc6, xc7, xv1, xv2, xv3, xv4, xv5, xv6, xv7, dT_le, dF_le, dT_lt, dF_lt, dT_eq, dF_eq, qa_up_hit, qa_up_no, k77, k78, k79, r1, r2, x_switch, zsw, ni]
theorem cq_unread {m : Int → Int → Int} {kd : Int → Nat × Int} {w : Nat × Nat × Nat} {A : zA} {S : Int} (hK : KS kd S) (hC : RC A m kd S) {M : Int} (hW : zW M A) (hx : kd 0 = (14, 0)) (hn : m 0 1 = S) (r key : Int) : f_X11_unread [(1, 0), (0, r), (0, key)] (m, kd, w) = zAns 1 2 (zA2 (zRl A r) (0 ≤ key ∧ key ≤ 9) (zsf (fun q => if A.2.2.2 (A.2.2.1 r 1) q 1 = key then 1 else 0) (A.2.2.1 r 2) (A.2.1 (A.2.2.1 r 1) 5 - A.2.2.1 r 2).toNat)) m kd w := by
  have ne := c_needReader (w := w) hK hC hW hx hn r
  have rg := c_needRange (m := m) (kd := kd) (w := w) key 0 9
  obtain ⟨⟨f2, f3, f4, fV, fW, f0, f8, f9, f7⟩, e0, e1, eC, eB, eR, eD, eL, eE⟩ := id hC
  obtain ⟨kN, kS, kC, kV, kW, kB, kE, kR, kD, kL⟩ := id hK
  by_cases h : zRl A r
  · rw [if_pos h] at ne
    by_cases h2 : 0 ≤ key ∧ key ≤ 9
    · rw [if_pos h2] at rg
      rw [zA2_v h h2, zAns_0]
      obtain ⟨s1, s2, s3⟩ := id h
      obtain ⟨t1, t2, t3, t4, t5, t6, t7, t8, t9, t10, t11, t12, t13, t14, t15, t16, t17, t18, t19⟩ := hW.rn h
      have hb : zBl A (A.2.2.1 r 1) := ⟨t1, t2, t3⟩
      have ra := c_homeOf (w := w) hK hC s1 s2 ⟨t1, t2⟩
      have rb := c_countFrom (w := w) (p := A.2.2.1 r 2) (key := key) hK hC hW hb ⟨t18, t19⟩
      · unfold f_X11_unread
        refine qa_fn_eq ?_ (by simp)
        simp (disch := omega) [ev_X11_unread_0, B_X11_unread_0, x_const, x_iadd, x_isub, x_imul, x_idiv, x_irem, x_ineg, x_dup, x_dup_x1, x_dup2, x_pop, x_goto, x_ifeq, x_ifne, x_iflt, x_ifge, x_ifgt, x_ifle, x_cmpeq, x_cmpne, x_cmplt, x_cmpge, x_cmpgt, x_cmple, x_null, x_nonnull, x_acmpeq, x_acmpne, x_get, x_put, x_putz, x_ald, x_ast, x_bast, x_zast, x_aast, x_alen, x_obj, x_ret, x_retz, x_vret, x_max, x_min, x_copy, x_i2l, qg_none, qg_inl, qg_inr, qg_ite, xr1, xr0, xrE, xri, xl0, xl1, xl2, xl3, xl4, xl5, xl6, xl7, xl8, xl9, xl10, xs0, xs1, xs2, xs3, xs4, xs5, xs6, xs7, xs8, xs9, xs10, xi0, xi1, xi2, xi3, xi4, xi5, xi6, xi7, xi8, xi9, xi10, xc0, xc1, xc2, xc3, xc4, xc5, xc6, xc7, xv1, xv2, xv3, xv4, xv5, xv6, xv7, dT_le, dF_le, dT_lt, dF_lt, f2, f3, f4, fV, fW, f0, f8, f9, f7, e0, e1, eC, eB, eR, kS, kC, kV, kW, kB, kE, kR, kD, kL, hx, hn, x_switch, zsw, ne, rg, ra, rb]
    · rw [if_neg h2] at rg
      rw [zA2_2 h h2, zAns_2]
      unfold f_X11_unread
      refine qa_fn_eq ?_ (by simp)
      simp (disch := omega) [ev_X11_unread_0, B_X11_unread_0, x_const, x_iadd, x_isub, x_imul, x_idiv, x_irem, x_ineg, x_dup, x_dup_x1, x_dup2, x_pop, x_goto, x_ifeq, x_ifne, x_iflt, x_ifge, x_ifgt, x_ifle, x_cmpeq, x_cmpne, x_cmplt, x_cmpge, x_cmpgt, x_cmple, x_null, x_nonnull, x_acmpeq, x_acmpne, x_get, x_put, x_putz, x_ald, x_ast, x_bast, x_zast, x_aast, x_alen, x_obj, x_ret, x_retz, x_vret, x_max, x_min, x_copy, x_i2l, qg_none, qg_inl, qg_inr, qg_ite, xr1, xr0, xrE, xri, xl0, xl1, xl2, xl3, xl4, xl5, xl6, xl7, xl8, xl9, xl10, xs0, xs1, xs2, xs3, xs4, xs5, xs6, xs7, xs8, xs9, xs10, xi0, xi1, xi2, xi3, xi4, xi5, xi6, xi7, xi8, xi9, xi10, xc0, xc1, xc2, xc3, xc4, xc5, xc6, xc7, xv1, xv2, xv3, xv4, xv5, xv6, xv7, dT_le, dF_le, dT_lt, dF_lt, f2, f3, f4, fV, fW, f0, f8, f9, f7, e0, e1, eC, eB, eR, kS, kC, kV, kW, kB, kE, kR, kD, kL, hx, hn, ne, rg]
  · rw [if_neg h] at ne
    rw [zA2_1 h, zAns_1]
    unfold f_X11_unread
    refine qa_fn_eq ?_ (by simp)
    simp (disch := omega) [ev_X11_unread_0, B_X11_unread_0, x_const, x_iadd, x_isub, x_imul, x_idiv, x_irem, x_ineg, x_dup, x_dup_x1, x_dup2, x_pop, x_goto, x_ifeq, x_ifne, x_iflt, x_ifge, x_ifgt, x_ifle, x_cmpeq, x_cmpne, x_cmplt, x_cmpge, x_cmpgt, x_cmple, x_null, x_nonnull, x_acmpeq, x_acmpne, x_get, x_put, x_putz, x_ald, x_ast, x_bast, x_zast, x_aast, x_alen, x_obj, x_ret, x_retz, x_vret, x_max, x_min, x_copy, x_i2l, qg_none, qg_inl, qg_inr, qg_ite, xr1, xr0, xrE, xri, xl0, xl1, xl2, xl3, xl4, xl5, xl6, xl7, xl8, xl9, xl10, xs0, xs1, xs2, xs3, xs4, xs5, xs6, xs7, xs8, xs9, xs10, xi0, xi1, xi2, xi3, xi4, xi5, xi6, xi7, xi8, xi9, xi10, xc0, xc1, xc2, xc3, xc4, xc5, xc6, xc7, xv1, xv2, xv3, xv4, xv5, xv6, xv7, dT_le, dF_le, dT_lt, dF_lt, f2, f3, f4, fV, fW, f0, f8, f9, f7, e0, e1, eC, eB, eR, kS, kC, kV, kW, kB, kE, kR, kD, kL, hx, hn, x_thr, ne]
theorem cq_promised {m : Int → Int → Int} {kd : Int → Nat × Int} {w : Nat × Nat × Nat} {A : zA} {S : Int} (hK : KS kd S) (hC : RC A m kd S) {M : Int} (hW : zW M A) (hx : kd 0 = (14, 0)) (hn : m 0 1 = S) (i : Int) : f_X11_promised [(1, 0), (0, i)] (m, kd, w) = zAns 1 2 (zA1 (0 ≤ i) (zff (fun r => zPr A r ∧ zAhead A r (A.2.2.1 r 4) = i) 0 6)) m kd w := by
  obtain ⟨⟨f2, f3, f4, fV, fW, f0, f8, f9, f7⟩, e0, e1, eC, eB, eR, eD, eL, eE⟩ := id hC
  obtain ⟨kN, kS, kC, kV, kW, kB, kE, kR, kD, kL⟩ := id hK
  by_cases h : 0 ≤ i
  · rw [zA1_v h, zAns_0]
    have ra := c_promisedAt (w := w) hK hC hW i
    unfold f_X11_promised
    refine qa_fn_eq ?_ (by simp)
    simp (disch := omega) [ev_X11_promised_0, ev_X11_promised_1, B_X11_promised_0, B_X11_promised_1, x_const, x_iadd, x_isub, x_imul, x_idiv, x_irem, x_ineg, x_dup, x_dup_x1, x_dup2, x_pop, x_goto, x_ifeq, x_ifne, x_iflt, x_ifge, x_ifgt, x_ifle, x_cmpeq, x_cmpne, x_cmplt, x_cmpge, x_cmpgt, x_cmple, x_null, x_nonnull, x_acmpeq, x_acmpne, x_get, x_put, x_putz, x_ald, x_ast, x_bast, x_zast, x_aast, x_alen, x_obj, x_ret, x_retz, x_vret, x_max, x_min, x_copy, x_i2l, qg_none, qg_inl, qg_inr, qg_ite, xr1, xr0, xrE, xri, xl0, xl1, xl2, xl3, xl4, xl5, xl6, xl7, xl8, xl9, xl10, xs0, xs1, xs2, xs3, xs4, xs5, xs6, xs7, xs8, xs9, xs10, xi0, xi1, xi2, xi3, xi4, xi5, xi6, xi7, xi8, xi9, xi10, xc0, xc1, xc2, xc3, xc4, xc5, xc6, xc7, xv1, xv2, xv3, xv4, xv5, xv6, xv7, dT_le, dF_le, dT_lt, dF_lt, f2, f3, f4, fV, fW, f0, f8, f9, f7, e0, e1, eC, eB, eR, kS, kC, kV, kW, kB, kE, kR, kD, kL, hx, hn, x_switch, zsw, ra]
  · rw [zA1_1 h, zAns_1]
    unfold f_X11_promised
    refine qa_fn_eq ?_ (by simp)
    simp (disch := omega) [ev_X11_promised_0, ev_X11_promised_1, B_X11_promised_0, B_X11_promised_1, x_const, x_iadd, x_isub, x_imul, x_idiv, x_irem, x_ineg, x_dup, x_dup_x1, x_dup2, x_pop, x_goto, x_ifeq, x_ifne, x_iflt, x_ifge, x_ifgt, x_ifle, x_cmpeq, x_cmpne, x_cmplt, x_cmpge, x_cmpgt, x_cmple, x_null, x_nonnull, x_acmpeq, x_acmpne, x_get, x_put, x_putz, x_ald, x_ast, x_bast, x_zast, x_aast, x_alen, x_obj, x_ret, x_retz, x_vret, x_max, x_min, x_copy, x_i2l, qg_none, qg_inl, qg_inr, qg_ite, xr1, xr0, xrE, xri, xl0, xl1, xl2, xl3, xl4, xl5, xl6, xl7, xl8, xl9, xl10, xs0, xs1, xs2, xs3, xs4, xs5, xs6, xs7, xs8, xs9, xs10, xi0, xi1, xi2, xi3, xi4, xi5, xi6, xi7, xi8, xi9, xi10, xc0, xc1, xc2, xc3, xc4, xc5, xc6, xc7, xv1, xv2, xv3, xv4, xv5, xv6, xv7, dT_le, dF_le, dT_lt, dF_lt, f2, f3, f4, fV, fW, f0, f8, f9, f7, e0, e1, eC, eB, eR, kS, kC, kV, kW, kB, kE, kR, kD, kL, hx, hn, x_thr]
