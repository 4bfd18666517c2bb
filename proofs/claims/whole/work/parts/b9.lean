def WStep (L : Nat) (xs : Nat → Int32) (i : Int) (t6 t7 t8 : qV) (N : Int) (g : zG) (m : Int → Int → Int) (kd : Int → Nat × Int) (n c s : Nat) (B : Nat) : Prop := ∃ g' N' t6' t7' t8' m' kd' n' c' s', qa_ev (P_L_law L xs) B [(1, -17), (1, 0), (1, 77), (1, 91), (1, 92), (0, i), t6, t7, t8] [] (m, kd, n, c, s) = qa_ev (P_L_law L xs) 139 [(1, -17), (1, 0), (1, 77), (1, 91), (1, 92), (0, i), t6', t7', t8'] [] (m', kd', n', c', s') ∧ GI N' g' ∧ zpt N' g' ≤ zpt N g + 4 ∧ WI N' g' m' kd' n' c' s' ∧ n ≤ n' ∧ c ≤ c' ∧ s ≤ s'
theorem zsw_big (d : Nat) : ∀ (Ts : List Nat) (y : Int), (Ts.length : Int) ≤ y → zsw d Ts y = d := by
  intro Ts
  induction Ts with
  | nil => intro y _; rfl
  | cons x r ih =>
    intro y h
    simp only [List.length_cons] at h
    push_cast at h
    simp only [zsw]
    rw [if_neg (by omega)]
    exact ih (y - 1) (by omega)
theorem w_head {L : Nat} {xs : Nat → Int32} {i z : Int} {t6 t7 t8 : qV} {a : qA} (hi : 0 ≤ i ∧ i + 5 ≤ (L : Int) ∧ (L : Int) ≤ 100000) (q0 : (xs i.toNat).toInt = z) : qa_ev (P_L_law L xs) 1 [(1, -17), (1, 0), (1, 77), (1, 91), (1, 92), (0, i), t6, t7, t8] [] a = qa_ev (P_L_law L xs) (zsw 139 [2, 5, 8, 9, 10, 11, 15, 18, 22, 26, 30, 34, 38, 42, 45, 49, 56, 59, 63, 67, 71, 74, 77, 80, 83, 87, 90, 93, 96, 100, 104, 108, 112, 116, 120, 124, 127, 130, 133, 134, 135, 137] (z % 64)) [(1, -17), (1, 0), (1, 77), (1, 91), (1, 92), (0, i), t6, t7, t8] [] a := by
  have X0 := fun (k : qI) (ls r : List qV) (a' : qA) => x_xld L xs k ls r i z a' ⟨by omega, by omega⟩ q0
  have h0 : ¬ z % 64 < 0 := by omega
  rw [ev_L_law_1]
  simp (disch := omega) [B_L_law_1, x_const, x_iadd, x_isub, x_imul, x_idiv, x_irem, x_ineg, x_dup, x_dup_x1, x_dup2, x_pop, x_goto, x_ifeq, x_ifne, x_iflt, x_ifge, x_ifgt, x_ifle, x_cmpeq, x_cmpne, x_cmplt, x_cmpge, x_cmpgt, x_cmple, x_null, x_nonnull, x_acmpeq, x_acmpne, x_get, x_put, x_putz, x_ald, x_ast, x_bast, x_zast, x_aast, x_alen, x_obj, x_ret, x_retz, x_vret, x_max, x_min, x_copy, x_i2l, qg_none, qg_inl, qg_inr, qg_ite, xr1, xr0, xrE, xri, xl0, xl1, xl2, xl3, xl4, xl5, xl6, xl7, xl8, xl9, xl10, xs0, xs1, xs2, xs3, xs4, xs5, xs6, xs7, xs8, xs9, xs10, xi0, xi1, xi2, xi3, xi4, xi5, xi6, xi7, xi8, xi9, xi10, xc0, xc1, xc2, xc3, xc4, xc5, xc6, xc7, xv1, xv2, xv3, xv4, xv5, xv6, xv7, dT_le, dF_le, dT_lt, dF_lt, X0, x_xlen, x_iand, x_switch, h0]
theorem w_tail {L : Nat} {xs : Nat → Int32} {i : Int} {t6 t7 t8 : qV} {a : qA} (hi : 0 ≤ i ∧ i + 5 ≤ (L : Int) ∧ (L : Int) ≤ 100000) : qa_ev (P_L_law L xs) 139 [(1, -17), (1, 0), (1, 77), (1, 91), (1, 92), (0, i), t6, t7, t8] [] a = qa_ev (P_L_law L xs) 1 [(1, -17), (1, 0), (1, 77), (1, 91), (1, 92), (0, i + 5), t6, t7, t8] [] a := by
  rw [ev_L_law_139]
  simp (disch := omega) [B_L_law_139, x_const, x_iadd, x_isub, x_imul, x_idiv, x_irem, x_ineg, x_dup, x_dup_x1, x_dup2, x_pop, x_goto, x_ifeq, x_ifne, x_iflt, x_ifge, x_ifgt, x_ifle, x_cmpeq, x_cmpne, x_cmplt, x_cmpge, x_cmpgt, x_cmple, x_null, x_nonnull, x_acmpeq, x_acmpne, x_get, x_put, x_putz, x_ald, x_ast, x_bast, x_zast, x_aast, x_alen, x_obj, x_ret, x_retz, x_vret, x_max, x_min, x_copy, x_i2l, qg_none, qg_inl, qg_inr, qg_ite, xr1, xr0, xrE, xri, xl0, xl1, xl2, xl3, xl4, xl5, xl6, xl7, xl8, xl9, xl10, xs0, xs1, xs2, xs3, xs4, xs5, xs6, xs7, xs8, xs9, xs10, xi0, xi1, xi2, xi3, xi4, xi5, xi6, xi7, xi8, xi9, xi10, xc0, xc1, xc2, xc3, xc4, xc5, xc6, xc7, xv1, xv2, xv3, xv4, xv5, xv6, xv7, dT_le, dF_le, dT_lt, dF_lt]
theorem w_end {L : Nat} {xs : Nat → Int32} {i : Int} {t6 t7 t8 : qV} {a : qA} (hi : 0 ≤ i ∧ i ≤ (L : Int) ∧ (L : Int) < i + 5 ∧ (L : Int) ≤ 100000) : qa_ev (P_L_law L xs) 1 [(1, -17), (1, 0), (1, 77), (1, 91), (1, 92), (0, i), t6, t7, t8] [] a = some (.inl (some (0, 1)), a) := by
  rw [ev_L_law_1]
  simp (disch := omega) [B_L_law_1, ev_L_law_140, B_L_law_140, x_const, x_iadd, x_isub, x_imul, x_idiv, x_irem, x_ineg, x_dup, x_dup_x1, x_dup2, x_pop, x_goto, x_ifeq, x_ifne, x_iflt, x_ifge, x_ifgt, x_ifle, x_cmpeq, x_cmpne, x_cmplt, x_cmpge, x_cmpgt, x_cmple, x_null, x_nonnull, x_acmpeq, x_acmpne, x_get, x_put, x_putz, x_ald, x_ast, x_bast, x_zast, x_aast, x_alen, x_obj, x_ret, x_retz, x_vret, x_max, x_min, x_copy, x_i2l, qg_none, qg_inl, qg_inr, qg_ite, xr1, xr0, xrE, xri, xl0, xl1, xl2, xl3, xl4, xl5, xl6, xl7, xl8, xl9, xl10, xs0, xs1, xs2, xs3, xs4, xs5, xs6, xs7, xs8, xs9, xs10, xi0, xi1, xi2, xi3, xi4, xi5, xi6, xi7, xi8, xi9, xi10, xc0, xc1, xc2, xc3, xc4, xc5, xc6, xc7, xv1, xv2, xv3, xv4, xv5, xv6, xv7, dT_le, dF_le, dT_lt, dF_lt, x_xlen]
theorem s_appendText {L : Nat} {xs : Nat → Int32} {i : Int} {t6 t7 t8 : qV} {N : Int} {g : zG} {m : Int → Int → Int} {kd : Int → Nat × Int} {n c s : Nat} (hi : 0 ≤ i ∧ i + 5 ≤ (L : Int) ∧ (L : Int) ≤ 100000) (hG : GI N g) (hN : N ≤ 511) (hz : zpt N g ≤ 2044) (I : WI N g m kd n c s) : WStep L xs i t6 t7 t8 N g m kd n c s 2 := by
  obtain ⟨g', N', code, ans, m1, kd1, n1, c1, s1, m2, h1, h2, lc, mc, th, o, W, hc, le⟩ := w_pair (lp_appendText (p_appendText hG hN ((xs (i + 1).toNat).toInt))) I
  exact ⟨g', N', (0, code), (0, ans), t8, m2, kd1, n1, c1, s1, w_appendText hi rfl W.2.1.1.1 W.2.2.1 th o lc mc, h1, h2, W, le⟩
theorem s_truncateText {L : Nat} {xs : Nat → Int32} {i : Int} {t6 t7 t8 : qV} {N : Int} {g : zG} {m : Int → Int → Int} {kd : Int → Nat × Int} {n c s : Nat} (hi : 0 ≤ i ∧ i + 5 ≤ (L : Int) ∧ (L : Int) ≤ 100000) (hG : GI N g) (hN : N ≤ 511) (hz : zpt N g ≤ 2044) (I : WI N g m kd n c s) : WStep L xs i t6 t7 t8 N g m kd n c s 5 := by
  obtain ⟨g', N', code, ans, m1, kd1, n1, c1, s1, m2, h1, h2, lc, mc, th, o, W, hc, le⟩ := w_pair (lp_truncateText (p_truncateText hG hN ((xs (i + 1).toNat).toInt))) I
  exact ⟨g', N', (0, code), (0, ans), t8, m2, kd1, n1, c1, s1, w_truncateText hi rfl W.2.1.1.1 W.2.2.1 th o lc mc, h1, h2, W, le⟩
theorem s_runScript {L : Nat} {xs : Nat → Int32} {i : Int} {t6 t7 t8 : qV} {N : Int} {g : zG} {m : Int → Int → Int} {kd : Int → Nat × Int} {n c s : Nat} (hi : 0 ≤ i ∧ i + 5 ≤ (L : Int) ∧ (L : Int) ≤ 100000) (hG : GI N g) (hN : N ≤ 511) (hz : zpt N g ≤ 2044) (I : WI N g m kd n c s) : WStep L xs i t6 t7 t8 N g m kd n c s 8 := by
  obtain ⟨g', N', ans, m1, kd1, n1, c1, s1, m2, h1, h2, lc, mc, W, k77, le⟩ := w_ask (p_runScript hG hz) I
  exact ⟨g', N', t6, t7, t8, m2, kd1, n1, c1, s1, w_runScript hi I.1.q.2.2.1 k77 lc mc, h1, h2, W, le⟩
theorem s_errorCode {L : Nat} {xs : Nat → Int32} {i : Int} {t6 t7 t8 : qV} {N : Int} {g : zG} {m : Int → Int → Int} {kd : Int → Nat × Int} {n c s : Nat} (hi : 0 ≤ i ∧ i + 5 ≤ (L : Int) ∧ (L : Int) ≤ 100000) (hG : GI N g) (hN : N ≤ 511) (hz : zpt N g ≤ 2044) (I : WI N g m kd n c s) : WStep L xs i t6 t7 t8 N g m kd n c s 9 := by
  obtain ⟨g', N', ans, m1, kd1, n1, c1, s1, m2, h1, h2, lc, mc, W, k77, le⟩ := w_ask (p_errorCode hG) I
  exact ⟨g', N', t6, t7, t8, m2, kd1, n1, c1, s1, w_errorCode hi I.1.q.2.2.1 k77 lc mc, h1, h2, W, le⟩
theorem s_errorPosition {L : Nat} {xs : Nat → Int32} {i : Int} {t6 t7 t8 : qV} {N : Int} {g : zG} {m : Int → Int → Int} {kd : Int → Nat × Int} {n c s : Nat} (hi : 0 ≤ i ∧ i + 5 ≤ (L : Int) ∧ (L : Int) ≤ 100000) (hG : GI N g) (hN : N ≤ 511) (hz : zpt N g ≤ 2044) (I : WI N g m kd n c s) : WStep L xs i t6 t7 t8 N g m kd n c s 10 := by
  obtain ⟨g', N', ans, m1, kd1, n1, c1, s1, m2, h1, h2, lc, mc, W, k77, le⟩ := w_ask (p_errorPosition hG) I
  exact ⟨g', N', t6, t7, t8, m2, kd1, n1, c1, s1, w_errorPosition hi I.1.q.2.2.1 k77 lc mc, h1, h2, W, le⟩
theorem s_set {L : Nat} {xs : Nat → Int32} {i : Int} {t6 t7 t8 : qV} {N : Int} {g : zG} {m : Int → Int → Int} {kd : Int → Nat × Int} {n c s : Nat} (hi : 0 ≤ i ∧ i + 5 ≤ (L : Int) ∧ (L : Int) ≤ 100000) (hG : GI N g) (hN : N ≤ 511) (hz : zpt N g ≤ 2044) (I : WI N g m kd n c s) : WStep L xs i t6 t7 t8 N g m kd n c s 11 := by
  obtain ⟨g', N', code, ans, m1, kd1, n1, c1, s1, m2, h1, h2, lc, mc, th, o, W, hc, le⟩ := w_pair (lp_set (p_set hG hN ((xs (i + 1).toNat).toInt) ((xs (i + 2).toNat).toInt))) I
  exact ⟨g', N', (0, code), (0, ans), t8, m2, kd1, n1, c1, s1, w_set hi rfl rfl W.2.1.1.1 W.2.2.1 th o lc mc, h1, h2, W, le⟩
theorem s_count {L : Nat} {xs : Nat → Int32} {i : Int} {t6 t7 t8 : qV} {N : Int} {g : zG} {m : Int → Int → Int} {kd : Int → Nat × Int} {n c s : Nat} (hi : 0 ≤ i ∧ i + 5 ≤ (L : Int) ∧ (L : Int) ≤ 100000) (hG : GI N g) (hN : N ≤ 511) (hz : zpt N g ≤ 2044) (I : WI N g m kd n c s) : WStep L xs i t6 t7 t8 N g m kd n c s 15 := by
  obtain ⟨g', N', code, ans, m1, kd1, n1, c1, s1, m2, h1, h2, lc, mc, th, o, W, hc, le⟩ := w_pair (lp_count (p_count hG hN ((xs (i + 1).toNat).toInt))) I
  exact ⟨g', N', (0, code), (0, ans), t8, m2, kd1, n1, c1, s1, w_count hi rfl W.2.1.1.1 W.2.2.1 th o lc mc, h1, h2, W, le⟩
theorem s_branch {L : Nat} {xs : Nat → Int32} {i : Int} {t6 t7 t8 : qV} {N : Int} {g : zG} {m : Int → Int → Int} {kd : Int → Nat × Int} {n c s : Nat} (hi : 0 ≤ i ∧ i + 5 ≤ (L : Int) ∧ (L : Int) ≤ 100000) (hG : GI N g) (hN : N ≤ 511) (hz : zpt N g ≤ 2044) (I : WI N g m kd n c s) : WStep L xs i t6 t7 t8 N g m kd n c s 18 := by
  obtain ⟨g', N', code, ans, m1, kd1, n1, c1, s1, m2, h1, h2, lc, mc, th, o, W, hc, le⟩ := w_pair (lp_branch (p_branch hG hN ((xs (i + 1).toNat).toInt) ((xs (i + 2).toNat).toInt))) I
  exact ⟨g', N', (0, code), (0, ans), t8, m2, kd1, n1, c1, s1, w_branch hi rfl rfl W.2.1.1.1 W.2.2.1 th o lc mc, h1, h2, W, le⟩
theorem s_entry {L : Nat} {xs : Nat → Int32} {i : Int} {t6 t7 t8 : qV} {N : Int} {g : zG} {m : Int → Int → Int} {kd : Int → Nat × Int} {n c s : Nat} (hi : 0 ≤ i ∧ i + 5 ≤ (L : Int) ∧ (L : Int) ≤ 100000) (hG : GI N g) (hN : N ≤ 511) (hz : zpt N g ≤ 2044) (I : WI N g m kd n c s) : WStep L xs i t6 t7 t8 N g m kd n c s 22 := by
  obtain ⟨g', N', code, ans, m1, kd1, n1, c1, s1, m2, h1, h2, lc, mc, th, o, W, hc, le⟩ := w_pair (lp_entry (p_entry hG hN ((xs (i + 1).toNat).toInt) ((xs (i + 2).toNat).toInt) ((xs (i + 3).toNat).toInt))) I
  exact ⟨g', N', (0, code), (0, ans), t8, m2, kd1, n1, c1, s1, w_entry hi rfl rfl rfl W.2.1.1.1 W.2.2.1 th o lc mc, h1, h2, W, le⟩
theorem s_reader {L : Nat} {xs : Nat → Int32} {i : Int} {t6 t7 t8 : qV} {N : Int} {g : zG} {m : Int → Int → Int} {kd : Int → Nat × Int} {n c s : Nat} (hi : 0 ≤ i ∧ i + 5 ≤ (L : Int) ∧ (L : Int) ≤ 100000) (hG : GI N g) (hN : N ≤ 511) (hz : zpt N g ≤ 2044) (I : WI N g m kd n c s) : WStep L xs i t6 t7 t8 N g m kd n c s 26 := by
  obtain ⟨g', N', code, ans, m1, kd1, n1, c1, s1, m2, h1, h2, lc, mc, th, o, W, hc, le⟩ := w_pair (lp_reader (p_reader hG hN ((xs (i + 1).toNat).toInt) ((xs (i + 2).toNat).toInt))) I
  exact ⟨g', N', (0, code), (0, ans), t8, m2, kd1, n1, c1, s1, w_reader hi rfl rfl W.2.1.1.1 W.2.2.1 th o lc mc, h1, h2, W, le⟩
theorem s_debt {L : Nat} {xs : Nat → Int32} {i : Int} {t6 t7 t8 : qV} {N : Int} {g : zG} {m : Int → Int → Int} {kd : Int → Nat × Int} {n c s : Nat} (hi : 0 ≤ i ∧ i + 5 ≤ (L : Int) ∧ (L : Int) ≤ 100000) (hG : GI N g) (hN : N ≤ 511) (hz : zpt N g ≤ 2044) (I : WI N g m kd n c s) : WStep L xs i t6 t7 t8 N g m kd n c s 30 := by
  obtain ⟨g', N', code, ans, m1, kd1, n1, c1, s1, m2, h1, h2, lc, mc, th, o, W, hc, le⟩ := w_pair (lp_debt (p_debt hG hN ((xs (i + 1).toNat).toInt) ((xs (i + 2).toNat).toInt))) I
  exact ⟨g', N', (0, code), (0, ans), t8, m2, kd1, n1, c1, s1, w_debt hi rfl rfl W.2.1.1.1 W.2.2.1 th o lc mc, h1, h2, W, le⟩
theorem s_debtOf {L : Nat} {xs : Nat → Int32} {i : Int} {t6 t7 t8 : qV} {N : Int} {g : zG} {m : Int → Int → Int} {kd : Int → Nat × Int} {n c s : Nat} (hi : 0 ≤ i ∧ i + 5 ≤ (L : Int) ∧ (L : Int) ≤ 100000) (hG : GI N g) (hN : N ≤ 511) (hz : zpt N g ≤ 2044) (I : WI N g m kd n c s) : WStep L xs i t6 t7 t8 N g m kd n c s 34 := by
  obtain ⟨g', N', code, ans, m1, kd1, n1, c1, s1, m2, h1, h2, lc, mc, th, o, W, hc, le⟩ := w_pair (lp_debtOf (p_debtOf hG hN ((xs (i + 1).toNat).toInt) ((xs (i + 2).toNat).toInt))) I
  exact ⟨g', N', (0, code), (0, ans), t8, m2, kd1, n1, c1, s1, w_debtOf hi rfl rfl W.2.1.1.1 W.2.2.1 th o lc mc, h1, h2, W, le⟩
theorem s_item {L : Nat} {xs : Nat → Int32} {i : Int} {t6 t7 t8 : qV} {N : Int} {g : zG} {m : Int → Int → Int} {kd : Int → Nat × Int} {n c s : Nat} (hi : 0 ≤ i ∧ i + 5 ≤ (L : Int) ∧ (L : Int) ≤ 100000) (hG : GI N g) (hN : N ≤ 511) (hz : zpt N g ≤ 2044) (I : WI N g m kd n c s) : WStep L xs i t6 t7 t8 N g m kd n c s 38 := by
  obtain ⟨g', N', code, ans, m1, kd1, n1, c1, s1, m2, h1, h2, lc, mc, th, o, W, hc, le⟩ := w_pair (lp_item (p_item hG hN ((xs (i + 1).toNat).toInt) ((xs (i + 2).toNat).toInt))) I
  exact ⟨g', N', (0, code), (0, ans), t8, m2, kd1, n1, c1, s1, w_item hi rfl rfl W.2.1.1.1 W.2.2.1 th o lc mc, h1, h2, W, le⟩
theorem s_account {L : Nat} {xs : Nat → Int32} {i : Int} {t6 t7 t8 : qV} {N : Int} {g : zG} {m : Int → Int → Int} {kd : Int → Nat × Int} {n c s : Nat} (hi : 0 ≤ i ∧ i + 5 ≤ (L : Int) ∧ (L : Int) ≤ 100000) (hG : GI N g) (hN : N ≤ 511) (hz : zpt N g ≤ 2044) (I : WI N g m kd n c s) : WStep L xs i t6 t7 t8 N g m kd n c s 42 := by
  obtain ⟨g', N', code, ans, m1, kd1, n1, c1, s1, m2, h1, h2, lc, mc, th, o, W, hc, le⟩ := w_pair (lp_account (p_account hG hN ((xs (i + 1).toNat).toInt))) I
  exact ⟨g', N', (0, code), (0, ans), t8, m2, kd1, n1, c1, s1, w_account hi rfl W.2.1.1.1 W.2.2.1 th o lc mc, h1, h2, W, le⟩
theorem s_append {L : Nat} {xs : Nat → Int32} {i : Int} {t6 t7 t8 : qV} {N : Int} {g : zG} {m : Int → Int → Int} {kd : Int → Nat × Int} {n c s : Nat} (hi : 0 ≤ i ∧ i + 5 ≤ (L : Int) ∧ (L : Int) ≤ 100000) (hG : GI N g) (hN : N ≤ 511) (hz : zpt N g ≤ 2044) (I : WI N g m kd n c s) : WStep L xs i t6 t7 t8 N g m kd n c s 45 := by
  obtain ⟨g', N', code, ans, m1, kd1, n1, c1, s1, m2, h1, h2, lc, mc, th, o, W, hc, le⟩ := w_pair (lp_append (p_append hG hN ((xs (i + 1).toNat).toInt) ((xs (i + 2).toNat).toInt) ((xs (i + 3).toNat).toInt) ((xs (i + 4).toNat).toInt))) I
  exact ⟨g', N', (0, code), (0, ans), t8, m2, kd1, n1, c1, s1, w_append hi rfl rfl rfl rfl W.2.1.1.1 W.2.2.1 th o lc mc, h1, h2, W, le⟩
theorem s_join {L : Nat} {xs : Nat → Int32} {i : Int} {t6 t7 t8 : qV} {N : Int} {g : zG} {m : Int → Int → Int} {kd : Int → Nat × Int} {n c s : Nat} (hi : 0 ≤ i ∧ i + 5 ≤ (L : Int) ∧ (L : Int) ≤ 100000) (hG : GI N g) (hN : N ≤ 511) (hz : zpt N g ≤ 2044) (I : WI N g m kd n c s) : WStep L xs i t6 t7 t8 N g m kd n c s 49 := by
  obtain ⟨g', N', code, ans, m1, kd1, n1, c1, s1, m2, h1, h2, lc, mc, th, o, W, hc, le⟩ := w_pair (lp_join (p_join hG hN ((xs (i + 1).toNat).toInt) (if (xs (i + 2).toNat).toInt = 0 then 0 else 1))) I
  exact ⟨g', N', (0, code), (0, ans), t8, m2, kd1, n1, c1, s1, w_join hi rfl rfl W.2.1.1.1 W.2.2.1 th o lc mc, h1, h2, W, le⟩
theorem s_leave {L : Nat} {xs : Nat → Int32} {i : Int} {t6 t7 t8 : qV} {N : Int} {g : zG} {m : Int → Int → Int} {kd : Int → Nat × Int} {n c s : Nat} (hi : 0 ≤ i ∧ i + 5 ≤ (L : Int) ∧ (L : Int) ≤ 100000) (hG : GI N g) (hN : N ≤ 511) (hz : zpt N g ≤ 2044) (I : WI N g m kd n c s) : WStep L xs i t6 t7 t8 N g m kd n c s 56 := by
  obtain ⟨g', N', code, ans, m1, kd1, n1, c1, s1, m2, h1, h2, lc, mc, th, o, W, hc, le⟩ := w_pair (lp_leave (p_leave hG hN ((xs (i + 1).toNat).toInt))) I
  exact ⟨g', N', (0, code), (0, ans), t8, m2, kd1, n1, c1, s1, w_leave hi rfl W.2.1.1.1 W.2.2.1 th o lc mc, h1, h2, W, le⟩
theorem s_read {L : Nat} {xs : Nat → Int32} {i : Int} {t6 t7 t8 : qV} {N : Int} {g : zG} {m : Int → Int → Int} {kd : Int → Nat × Int} {n c s : Nat} (hi : 0 ≤ i ∧ i + 5 ≤ (L : Int) ∧ (L : Int) ≤ 100000) (hG : GI N g) (hN : N ≤ 511) (hz : zpt N g ≤ 2044) (I : WI N g m kd n c s) : WStep L xs i t6 t7 t8 N g m kd n c s 59 := by
  obtain ⟨g', N', code, ans, m1, kd1, n1, c1, s1, m2, h1, h2, lc, mc, th, o, W, hc, le⟩ := w_pair (lp_read (p_read hG hN ((xs (i + 1).toNat).toInt) ((xs (i + 2).toNat).toInt))) I
  exact ⟨g', N', (0, code), (0, ans), t8, m2, kd1, n1, c1, s1, w_read hi rfl rfl W.2.1.1.1 W.2.2.1 th o lc mc, h1, h2, W, le⟩
theorem s_promise {L : Nat} {xs : Nat → Int32} {i : Int} {t6 t7 t8 : qV} {N : Int} {g : zG} {m : Int → Int → Int} {kd : Int → Nat × Int} {n c s : Nat} (hi : 0 ≤ i ∧ i + 5 ≤ (L : Int) ∧ (L : Int) ≤ 100000) (hG : GI N g) (hN : N ≤ 511) (hz : zpt N g ≤ 2044) (I : WI N g m kd n c s) : WStep L xs i t6 t7 t8 N g m kd n c s 63 := by
  obtain ⟨g', N', code, ans, m1, kd1, n1, c1, s1, m2, h1, h2, lc, mc, th, o, W, hc, le⟩ := w_pair (lp_promise (p_promise hG hN ((xs (i + 1).toNat).toInt) ((xs (i + 2).toNat).toInt))) I
  exact ⟨g', N', (0, code), (0, ans), t8, m2, kd1, n1, c1, s1, w_promise hi rfl rfl W.2.1.1.1 W.2.2.1 th o lc mc, h1, h2, W, le⟩
theorem s_move {L : Nat} {xs : Nat → Int32} {i : Int} {t6 t7 t8 : qV} {N : Int} {g : zG} {m : Int → Int → Int} {kd : Int → Nat × Int} {n c s : Nat} (hi : 0 ≤ i ∧ i + 5 ≤ (L : Int) ∧ (L : Int) ≤ 100000) (hG : GI N g) (hN : N ≤ 511) (hz : zpt N g ≤ 2044) (I : WI N g m kd n c s) : WStep L xs i t6 t7 t8 N g m kd n c s 67 := by
  obtain ⟨g', N', code, ans, m1, kd1, n1, c1, s1, m2, h1, h2, lc, mc, th, o, W, hc, le⟩ := w_pair (lp_move (p_move hG hN ((xs (i + 1).toNat).toInt) ((xs (i + 2).toNat).toInt))) I
  exact ⟨g', N', (0, code), (0, ans), t8, m2, kd1, n1, c1, s1, w_move hi rfl rfl W.2.1.1.1 W.2.2.1 th o lc mc, h1, h2, W, le⟩
theorem s_fork {L : Nat} {xs : Nat → Int32} {i : Int} {t6 t7 t8 : qV} {N : Int} {g : zG} {m : Int → Int → Int} {kd : Int → Nat × Int} {n c s : Nat} (hi : 0 ≤ i ∧ i + 5 ≤ (L : Int) ∧ (L : Int) ≤ 100000) (hG : GI N g) (hN : N ≤ 511) (hz : zpt N g ≤ 2044) (I : WI N g m kd n c s) : WStep L xs i t6 t7 t8 N g m kd n c s 71 := by
  obtain ⟨g', N', code, ans, m1, kd1, n1, c1, s1, m2, h1, h2, lc, mc, th, o, W, hc, le⟩ := w_pair (lp_fork (p_fork hG hN ((xs (i + 1).toNat).toInt))) I
  exact ⟨g', N', (0, code), (0, ans), t8, m2, kd1, n1, c1, s1, w_fork hi rfl W.2.1.1.1 W.2.2.1 th o lc mc, h1, h2, W, le⟩
theorem s_merge {L : Nat} {xs : Nat → Int32} {i : Int} {t6 t7 t8 : qV} {N : Int} {g : zG} {m : Int → Int → Int} {kd : Int → Nat × Int} {n c s : Nat} (hi : 0 ≤ i ∧ i + 5 ≤ (L : Int) ∧ (L : Int) ≤ 100000) (hG : GI N g) (hN : N ≤ 511) (hz : zpt N g ≤ 2044) (I : WI N g m kd n c s) : WStep L xs i t6 t7 t8 N g m kd n c s 74 := by
  obtain ⟨g', N', code, ans, m1, kd1, n1, c1, s1, m2, h1, h2, lc, mc, th, o, W, hc, le⟩ := w_pair (lp_merge (p_merge hG hN ((xs (i + 1).toNat).toInt))) I
  exact ⟨g', N', (0, code), (0, ans), t8, m2, kd1, n1, c1, s1, w_merge hi rfl W.2.1.1.1 W.2.2.1 th o lc mc, h1, h2, W, le⟩
theorem s_drop {L : Nat} {xs : Nat → Int32} {i : Int} {t6 t7 t8 : qV} {N : Int} {g : zG} {m : Int → Int → Int} {kd : Int → Nat × Int} {n c s : Nat} (hi : 0 ≤ i ∧ i + 5 ≤ (L : Int) ∧ (L : Int) ≤ 100000) (hG : GI N g) (hN : N ≤ 511) (hz : zpt N g ≤ 2044) (I : WI N g m kd n c s) : WStep L xs i t6 t7 t8 N g m kd n c s 77 := by
  obtain ⟨g', N', code, ans, m1, kd1, n1, c1, s1, m2, h1, h2, lc, mc, th, o, W, hc, le⟩ := w_pair (lp_drop (p_drop hG hN ((xs (i + 1).toNat).toInt))) I
  exact ⟨g', N', (0, code), (0, ans), t8, m2, kd1, n1, c1, s1, w_drop hi rfl W.2.1.1.1 W.2.2.1 th o lc mc, h1, h2, W, le⟩
theorem s_pass {L : Nat} {xs : Nat → Int32} {i : Int} {t6 t7 t8 : qV} {N : Int} {g : zG} {m : Int → Int → Int} {kd : Int → Nat × Int} {n c s : Nat} (hi : 0 ≤ i ∧ i + 5 ≤ (L : Int) ∧ (L : Int) ≤ 100000) (hG : GI N g) (hN : N ≤ 511) (hz : zpt N g ≤ 2044) (I : WI N g m kd n c s) : WStep L xs i t6 t7 t8 N g m kd n c s 80 := by
  obtain ⟨g', N', code, ans, m1, kd1, n1, c1, s1, m2, h1, h2, lc, mc, th, o, W, hc, le⟩ := w_pair (lp_pass (p_pass hG hN ((xs (i + 1).toNat).toInt))) I
  exact ⟨g', N', (0, code), (0, ans), t8, m2, kd1, n1, c1, s1, w_pass hi rfl W.2.1.1.1 W.2.2.1 th o lc mc, h1, h2, W, le⟩
theorem s_common {L : Nat} {xs : Nat → Int32} {i : Int} {t6 t7 t8 : qV} {N : Int} {g : zG} {m : Int → Int → Int} {kd : Int → Nat × Int} {n c s : Nat} (hi : 0 ≤ i ∧ i + 5 ≤ (L : Int) ∧ (L : Int) ≤ 100000) (hG : GI N g) (hN : N ≤ 511) (hz : zpt N g ≤ 2044) (I : WI N g m kd n c s) : WStep L xs i t6 t7 t8 N g m kd n c s 83 := by
  obtain ⟨g', N', code, ans, m1, kd1, n1, c1, s1, m2, h1, h2, lc, mc, th, o, W, hc, le⟩ := w_pair (lp_common (p_common hG hN ((xs (i + 1).toNat).toInt) ((xs (i + 2).toNat).toInt))) I
  exact ⟨g', N', (0, code), (0, ans), t8, m2, kd1, n1, c1, s1, w_common hi rfl rfl W.2.1.1.1 W.2.2.1 th o lc mc, h1, h2, W, le⟩
theorem s_holder {L : Nat} {xs : Nat → Int32} {i : Int} {t6 t7 t8 : qV} {N : Int} {g : zG} {m : Int → Int → Int} {kd : Int → Nat × Int} {n c s : Nat} (hi : 0 ≤ i ∧ i + 5 ≤ (L : Int) ∧ (L : Int) ≤ 100000) (hG : GI N g) (hN : N ≤ 511) (hz : zpt N g ≤ 2044) (I : WI N g m kd n c s) : WStep L xs i t6 t7 t8 N g m kd n c s 87 := by
  obtain ⟨g', N', code, ans, m1, kd1, n1, c1, s1, m2, h1, h2, lc, mc, th, o, W, hc, le⟩ := w_pair (lp_holder (p_holder hG hN ((xs (i + 1).toNat).toInt))) I
  exact ⟨g', N', (0, code), (0, ans), t8, m2, kd1, n1, c1, s1, w_holder hi rfl W.2.1.1.1 W.2.2.1 th o lc mc, h1, h2, W, le⟩
theorem s_slowest {L : Nat} {xs : Nat → Int32} {i : Int} {t6 t7 t8 : qV} {N : Int} {g : zG} {m : Int → Int → Int} {kd : Int → Nat × Int} {n c s : Nat} (hi : 0 ≤ i ∧ i + 5 ≤ (L : Int) ∧ (L : Int) ≤ 100000) (hG : GI N g) (hN : N ≤ 511) (hz : zpt N g ≤ 2044) (I : WI N g m kd n c s) : WStep L xs i t6 t7 t8 N g m kd n c s 90 := by
  obtain ⟨g', N', code, ans, m1, kd1, n1, c1, s1, m2, h1, h2, lc, mc, th, o, W, hc, le⟩ := w_pair (lp_slowest (p_slowest hG hN ((xs (i + 1).toNat).toInt))) I
  exact ⟨g', N', (0, code), (0, ans), t8, m2, kd1, n1, c1, s1, w_slowest hi rfl W.2.1.1.1 W.2.2.1 th o lc mc, h1, h2, W, le⟩
theorem s_cause {L : Nat} {xs : Nat → Int32} {i : Int} {t6 t7 t8 : qV} {N : Int} {g : zG} {m : Int → Int → Int} {kd : Int → Nat × Int} {n c s : Nat} (hi : 0 ≤ i ∧ i + 5 ≤ (L : Int) ∧ (L : Int) ≤ 100000) (hG : GI N g) (hN : N ≤ 511) (hz : zpt N g ≤ 2044) (I : WI N g m kd n c s) : WStep L xs i t6 t7 t8 N g m kd n c s 93 := by
  obtain ⟨g', N', code, ans, m1, kd1, n1, c1, s1, m2, h1, h2, lc, mc, th, o, W, hc, le⟩ := w_pair (lp_cause (p_cause hG hN ((xs (i + 1).toNat).toInt))) I
  exact ⟨g', N', (0, code), (0, ans), t8, m2, kd1, n1, c1, s1, w_cause hi rfl W.2.1.1.1 W.2.2.1 th o lc mc, h1, h2, W, le⟩
theorem s_latest {L : Nat} {xs : Nat → Int32} {i : Int} {t6 t7 t8 : qV} {N : Int} {g : zG} {m : Int → Int → Int} {kd : Int → Nat × Int} {n c s : Nat} (hi : 0 ≤ i ∧ i + 5 ≤ (L : Int) ∧ (L : Int) ≤ 100000) (hG : GI N g) (hN : N ≤ 511) (hz : zpt N g ≤ 2044) (I : WI N g m kd n c s) : WStep L xs i t6 t7 t8 N g m kd n c s 96 := by
  obtain ⟨g', N', code, ans, m1, kd1, n1, c1, s1, m2, h1, h2, lc, mc, th, o, W, hc, le⟩ := w_pair (lp_latest (p_latest hG hN ((xs (i + 1).toNat).toInt) ((xs (i + 2).toNat).toInt))) I
  exact ⟨g', N', (0, code), (0, ans), t8, m2, kd1, n1, c1, s1, w_latest hi rfl rfl W.2.1.1.1 W.2.2.1 th o lc mc, h1, h2, W, le⟩
theorem s_mean {L : Nat} {xs : Nat → Int32} {i : Int} {t6 t7 t8 : qV} {N : Int} {g : zG} {m : Int → Int → Int} {kd : Int → Nat × Int} {n c s : Nat} (hi : 0 ≤ i ∧ i + 5 ≤ (L : Int) ∧ (L : Int) ≤ 100000) (hG : GI N g) (hN : N ≤ 511) (hz : zpt N g ≤ 2044) (I : WI N g m kd n c s) : WStep L xs i t6 t7 t8 N g m kd n c s 100 := by
  obtain ⟨e, code, va, v, h4, -, C, M⟩ := p_mean hG ((xs (i + 1).toNat).toInt)
  obtain ⟨i1, i2, i3, i4⟩ := I
  obtain ⟨m1, kd1, n1, c1, s1, e1, a1, a2, a5⟩ := C m kd n c s i1
  have x0 := i1.q.2.2.1
  have k91 : kd1 91 = (105, 1) := by rw [(a2 91 (by decide) (by decide)).2]; exact i3
  have k92 : kd1 92 = (107, 1) := by rw [(a2 92 (by decide) (by decide)).2]; exact i4
  have lc : ∃ m1', f_L_mean [(1, 0), (0, (xs (i + 1).toNat).toInt), (1, 92)] (m, kd, n, c, s) = some (.inl (some (0, code)), (m1', kd1, n1, c1, s1)) ∧ (∀ x, x ≠ 92 → m1' x = m1 x) ∧ (code = 0 → m1' 92 0 = va) := by
    rcases h4 with ⟨z1, z2, -⟩ | ⟨z1, z2⟩
    · rw [if_pos z1] at e1
      rw [z2]
      refine ⟨_, qa_fn_eq (l_mean0 x0 k92 e1) (by simp; omega), fun x hx => ?_, fun _ => qa_up_hit _ _ _ _⟩
      funext j
      exact qa_up_no _ (fun z => hx z.1)
    · rw [if_neg (by omega)] at e1
      rw [z1] at e1
      rw [z2]
      exact ⟨m1, qa_fn_eq (l_meanE1 x0 e1) (by simp; omega), fun _ _ => rfl, fun z => absurd z (by decide)⟩
  obtain ⟨m1', lc, o1, o2⟩ := lc
  have j2 : MI N g m1' kd1 := MI_fr i2 (fun x a b => by rw [o1 x (by omega)]; exact (a2 x (by omega) (by omega)).1) (fun i _ => by rw [o1 77 (by decide), (a2 77 (by decide) (by decide)).1]) (fun x a b => (a2 x a (by omega)).2)
  obtain ⟨m2, e2, b1, b2, b3⟩ := M m1' kd1 (n1, c1, s1) j2
  have hvv : code = 0 → v = va ∧ N64 v := fun z => by
    rcases h4 with ⟨-, -, y1, y2⟩ | ⟨-, y⟩
    · exact ⟨y1, y2 rfl⟩
    · omega
  have E := w_mean hi rfl b1.1.1 k92 b2 (fun z => (hvv z).2) (fun z => by rw [b3 92 (by decide), (hvv z).1]; exact o2 z) lc e2 (t6 := t6) (t7 := t7) (t8 := t8)
  refine ⟨g, N + 1, _, _, _, m2, kd1, n1, c1, s1, E, GI_mono hG (by omega), by unfold zpt; omega, ⟨CI_m a1 (fun x hx => by rw [b3 x (by omega), o1 x (by omega)]), b1, k91, k92⟩, a5⟩
theorem s_trust {L : Nat} {xs : Nat → Int32} {i : Int} {t6 t7 t8 : qV} {N : Int} {g : zG} {m : Int → Int → Int} {kd : Int → Nat × Int} {n c s : Nat} (hi : 0 ≤ i ∧ i + 5 ≤ (L : Int) ∧ (L : Int) ≤ 100000) (hG : GI N g) (hN : N ≤ 511) (hz : zpt N g ≤ 2044) (I : WI N g m kd n c s) : WStep L xs i t6 t7 t8 N g m kd n c s 104 := by
  obtain ⟨e, code, va, h4, hv, C, M⟩ := p_trust hG ((xs (i + 1).toNat).toInt)
  obtain ⟨i1, i2, i3, i4⟩ := I
  obtain ⟨m1, kd1, n1, c1, s1, e1, a1, a2, a5⟩ := C m kd n c s i1
  have x0 := i1.q.2.2.1
  have k91 : kd1 91 = (105, 1) := by rw [(a2 91 (by decide) (by decide)).2]; exact i3
  have k92 : kd1 92 = (107, 1) := by rw [(a2 92 (by decide) (by decide)).2]; exact i4
  have lc : ∃ m1', f_L_trust [(1, 0), (0, (xs (i + 1).toNat).toInt), (1, 92)] (m, kd, n, c, s) = some (.inl (some (0, code)), (m1', kd1, n1, c1, s1)) ∧ (∀ x, x ≠ 92 → m1' x = m1 x) ∧ (code = 0 → m1' 92 0 = (zfd2 va)) := by
    rcases h4 with ⟨z1, z2⟩ | ⟨z1, z2⟩
    · rw [if_pos z1] at e1
      rw [z2]
      refine ⟨_, qa_fn_eq (l_trust0 x0 k92 (hv z1) e1) (by simp; omega), fun x hx => ?_, fun _ => qa_up_hit _ _ _ _⟩
      funext j
      exact qa_up_no _ (fun z => hx z.1)
    · rw [if_neg (by omega)] at e1
      rw [z1] at e1
      rw [z2]
      exact ⟨m1, qa_fn_eq (l_trustE1 x0 e1) (by simp; omega), fun _ _ => rfl, fun z => absurd z (by decide)⟩
  obtain ⟨m1', lc, o1, o2⟩ := lc
  have j2 : MI N g m1' kd1 := MI_fr i2 (fun x a b => by rw [o1 x (by omega)]; exact (a2 x (by omega) (by omega)).1) (fun i _ => by rw [o1 77 (by decide), (a2 77 (by decide) (by decide)).1]) (fun x a b => (a2 x a (by omega)).2)
  obtain ⟨m2, v, e2, hN32, hev, b1, b2, b3⟩ := M m1' kd1 (n1, c1, s1) j2
  have hvv : code = 0 → v = va := fun z => hev (by omega)
  have E := w_trust hi rfl b1.1.1 k92 b2 hN32 (fun z => by rw [b3 92 (by decide), hvv z]; exact o2 z) lc e2 (t6 := t6) (t7 := t7) (t8 := t8)
  refine ⟨g, N + 1, _, _, _, m2, kd1, n1, c1, s1, E, GI_mono hG (by omega), by unfold zpt; omega, ⟨CI_m a1 (fun x hx => by rw [b3 x (by omega), o1 x (by omega)]), b1, k91, k92⟩, a5⟩
theorem s_ahead {L : Nat} {xs : Nat → Int32} {i : Int} {t6 t7 t8 : qV} {N : Int} {g : zG} {m : Int → Int → Int} {kd : Int → Nat × Int} {n c s : Nat} (hi : 0 ≤ i ∧ i + 5 ≤ (L : Int) ∧ (L : Int) ≤ 100000) (hG : GI N g) (hN : N ≤ 511) (hz : zpt N g ≤ 2044) (I : WI N g m kd n c s) : WStep L xs i t6 t7 t8 N g m kd n c s 108 := by
  obtain ⟨g', N', code, ans, m1, kd1, n1, c1, s1, m2, h1, h2, lc, mc, th, o, W, hc, le⟩ := w_pair (lp_ahead (p_ahead hG hN ((xs (i + 1).toNat).toInt) ((xs (i + 2).toNat).toInt))) I
  exact ⟨g', N', (0, code), (0, ans), t8, m2, kd1, n1, c1, s1, w_ahead hi rfl rfl W.2.1.1.1 W.2.2.1 th o lc mc, h1, h2, W, le⟩
theorem s_losesIn {L : Nat} {xs : Nat → Int32} {i : Int} {t6 t7 t8 : qV} {N : Int} {g : zG} {m : Int → Int → Int} {kd : Int → Nat × Int} {n c s : Nat} (hi : 0 ≤ i ∧ i + 5 ≤ (L : Int) ∧ (L : Int) ≤ 100000) (hG : GI N g) (hN : N ≤ 511) (hz : zpt N g ≤ 2044) (I : WI N g m kd n c s) : WStep L xs i t6 t7 t8 N g m kd n c s 112 := by
  obtain ⟨g', N', code, ans, m1, kd1, n1, c1, s1, m2, h1, h2, lc, mc, th, o, W, hc, le⟩ := w_pair (lp_losesIn (p_losesIn hG hN ((xs (i + 1).toNat).toInt) ((xs (i + 2).toNat).toInt))) I
  exact ⟨g', N', (0, code), (0, ans), t8, m2, kd1, n1, c1, s1, w_losesIn hi rfl rfl W.2.1.1.1 W.2.2.1 th o lc mc, h1, h2, W, le⟩
theorem s_wouldCut {L : Nat} {xs : Nat → Int32} {i : Int} {t6 t7 t8 : qV} {N : Int} {g : zG} {m : Int → Int → Int} {kd : Int → Nat × Int} {n c s : Nat} (hi : 0 ≤ i ∧ i + 5 ≤ (L : Int) ∧ (L : Int) ≤ 100000) (hG : GI N g) (hN : N ≤ 511) (hz : zpt N g ≤ 2044) (I : WI N g m kd n c s) : WStep L xs i t6 t7 t8 N g m kd n c s 116 := by
  obtain ⟨g', N', code, ans, m1, kd1, n1, c1, s1, m2, h1, h2, lc, mc, th, o, W, hc, le⟩ := w_pair (lp_wouldCut (p_wouldCut hG hN ((xs (i + 1).toNat).toInt) ((xs (i + 2).toNat).toInt))) I
  exact ⟨g', N', (0, code), (0, ans), t8, m2, kd1, n1, c1, s1, w_wouldCut hi rfl rfl W.2.1.1.1 W.2.2.1 th o lc mc, h1, h2, W, le⟩
theorem s_unread {L : Nat} {xs : Nat → Int32} {i : Int} {t6 t7 t8 : qV} {N : Int} {g : zG} {m : Int → Int → Int} {kd : Int → Nat × Int} {n c s : Nat} (hi : 0 ≤ i ∧ i + 5 ≤ (L : Int) ∧ (L : Int) ≤ 100000) (hG : GI N g) (hN : N ≤ 511) (hz : zpt N g ≤ 2044) (I : WI N g m kd n c s) : WStep L xs i t6 t7 t8 N g m kd n c s 120 := by
  obtain ⟨g', N', code, ans, m1, kd1, n1, c1, s1, m2, h1, h2, lc, mc, th, o, W, hc, le⟩ := w_pair (lp_unread (p_unread hG hN ((xs (i + 1).toNat).toInt) ((xs (i + 2).toNat).toInt))) I
  exact ⟨g', N', (0, code), (0, ans), t8, m2, kd1, n1, c1, s1, w_unread hi rfl rfl W.2.1.1.1 W.2.2.1 th o lc mc, h1, h2, W, le⟩
theorem s_promised {L : Nat} {xs : Nat → Int32} {i : Int} {t6 t7 t8 : qV} {N : Int} {g : zG} {m : Int → Int → Int} {kd : Int → Nat × Int} {n c s : Nat} (hi : 0 ≤ i ∧ i + 5 ≤ (L : Int) ∧ (L : Int) ≤ 100000) (hG : GI N g) (hN : N ≤ 511) (hz : zpt N g ≤ 2044) (I : WI N g m kd n c s) : WStep L xs i t6 t7 t8 N g m kd n c s 124 := by
  obtain ⟨g', N', code, ans, m1, kd1, n1, c1, s1, m2, h1, h2, lc, mc, th, o, W, hc, le⟩ := w_pair (lp_promised (p_promised hG hN ((xs (i + 1).toNat).toInt))) I
  exact ⟨g', N', (0, code), (0, ans), t8, m2, kd1, n1, c1, s1, w_promised hi rfl W.2.1.1.1 W.2.2.1 th o lc mc, h1, h2, W, le⟩
theorem s_age {L : Nat} {xs : Nat → Int32} {i : Int} {t6 t7 t8 : qV} {N : Int} {g : zG} {m : Int → Int → Int} {kd : Int → Nat × Int} {n c s : Nat} (hi : 0 ≤ i ∧ i + 5 ≤ (L : Int) ∧ (L : Int) ≤ 100000) (hG : GI N g) (hN : N ≤ 511) (hz : zpt N g ≤ 2044) (I : WI N g m kd n c s) : WStep L xs i t6 t7 t8 N g m kd n c s 127 := by
  obtain ⟨g', N', code, ans, m1, kd1, n1, c1, s1, m2, h1, h2, lc, mc, th, o, W, hc, le⟩ := w_pair (lp_age (p_age hG hN ((xs (i + 1).toNat).toInt))) I
  exact ⟨g', N', (0, code), (0, ans), t8, m2, kd1, n1, c1, s1, w_age hi rfl W.2.1.1.1 W.2.2.1 th o lc mc, h1, h2, W, le⟩
theorem s_write {L : Nat} {xs : Nat → Int32} {i : Int} {t6 t7 t8 : qV} {N : Int} {g : zG} {m : Int → Int → Int} {kd : Int → Nat × Int} {n c s : Nat} (hi : 0 ≤ i ∧ i + 5 ≤ (L : Int) ∧ (L : Int) ≤ 100000) (hG : GI N g) (hN : N ≤ 511) (hz : zpt N g ≤ 2044) (I : WI N g m kd n c s) : WStep L xs i t6 t7 t8 N g m kd n c s 130 := by
  obtain ⟨g', N', code, ans, m1, kd1, n1, c1, s1, m2, h1, h2, lc, mc, th, o, W, hc, le⟩ := w_pair (lp_write (p_write hG hN ((xs (i + 1).toNat).toInt))) I
  exact ⟨g', N', (0, code), (0, ans), t8, m2, kd1, n1, c1, s1, w_write hi rfl W.2.1.1.1 W.2.2.1 th o lc mc, h1, h2, W, le⟩
theorem s_output {L : Nat} {xs : Nat → Int32} {i : Int} {t6 t7 t8 : qV} {N : Int} {g : zG} {m : Int → Int → Int} {kd : Int → Nat × Int} {n c s : Nat} (hi : 0 ≤ i ∧ i + 5 ≤ (L : Int) ∧ (L : Int) ≤ 100000) (hG : GI N g) (hN : N ≤ 511) (hz : zpt N g ≤ 2044) (I : WI N g m kd n c s) : WStep L xs i t6 t7 t8 N g m kd n c s 133 := by
  obtain ⟨g', N', ans, m1, kd1, n1, c1, s1, m2, h1, h2, lc, mc, W, k77, le⟩ := w_ask (p_output hG ((xs (i + 1).toNat).toInt)) I
  exact ⟨g', N', t6, t7, t8, m2, kd1, n1, c1, s1, w_output hi rfl I.1.q.2.2.1 k77 lc mc, h1, h2, W, le⟩
theorem s_undo {L : Nat} {xs : Nat → Int32} {i : Int} {t6 t7 t8 : qV} {N : Int} {g : zG} {m : Int → Int → Int} {kd : Int → Nat × Int} {n c s : Nat} (hi : 0 ≤ i ∧ i + 5 ≤ (L : Int) ∧ (L : Int) ≤ 100000) (hG : GI N g) (hN : N ≤ 511) (hz : zpt N g ≤ 2044) (I : WI N g m kd n c s) : WStep L xs i t6 t7 t8 N g m kd n c s 134 := by
  obtain ⟨g', N', ans, m1, kd1, n1, c1, s1, m2, h1, h2, lc, mc, W, k77, le⟩ := w_ask (p_undo hG hN) I
  exact ⟨g', N', t6, t7, t8, m2, kd1, n1, c1, s1, w_undo hi I.1.q.2.2.1 k77 lc mc, h1, h2, W, le⟩
theorem s_save {L : Nat} {xs : Nat → Int32} {i : Int} {t6 t7 t8 : qV} {N : Int} {g : zG} {m : Int → Int → Int} {kd : Int → Nat × Int} {n c s : Nat} (hi : 0 ≤ i ∧ i + 5 ≤ (L : Int) ∧ (L : Int) ≤ 100000) (hG : GI N g) (hN : N ≤ 511) (hz : zpt N g ≤ 2044) (I : WI N g m kd n c s) : WStep L xs i t6 t7 t8 N g m kd n c s 135 := by
  obtain ⟨g', N', e, code, h1, h2, h3, h4, C, M⟩ := p_save hG hN ((xs (i + 1).toNat).toInt)
  obtain ⟨i1, i2, i3, i4⟩ := I
  obtain ⟨m1, kd1, n1, c1, s1, e1, a1, a2, a5⟩ := C m kd n c s i1
  have x0 := i1.q.2.2.1
  have lc : f_L_save [(1, 0), (0, (xs (i + 1).toNat).toInt)] (m, kd, n, c, s) = some (.inl (some (0, code)), (m1, kd1, n1, c1, s1)) := by
    rcases h4 with ⟨z1, z2⟩ | ⟨h0, hm⟩
    · rw [if_pos z1] at e1
      rw [z2]
      exact qa_fn_eq (l_save0 x0 e1) (by simp; omega)
    · rw [if_neg h0] at e1
      simp at hm
      obtain ⟨z1, z2⟩ := hm
      rw [z1] at e1
      rw [z2]
      exact qa_fn_eq (l_saveE2 x0 e1) (by simp; omega)
  have j2 : MI N g m1 kd1 := MI_fr i2 (fun x a b => (a2 x (by omega) (by omega)).1) (fun i _ => by rw [(a2 77 (by decide) (by decide)).1]) (fun x a b => (a2 x a (by omega)).2)
  obtain ⟨m2, e2, b1, b2, b3⟩ := M m1 kd1 (n1, c1, s1) j2
  exact ⟨g', N', (0, code), t7, t8, m2, kd1, n1, c1, s1, w_save hi rfl b1.1.1 b2 lc e2, h1, h3, ⟨CI_m a1 (fun x hx => b3 x (by omega)), b1, by rw [(a2 91 (by decide) (by decide)).2]; exact i3, by rw [(a2 92 (by decide) (by decide)).2]; exact i4⟩, a5⟩
theorem s_restore {L : Nat} {xs : Nat → Int32} {i : Int} {t6 t7 t8 : qV} {N : Int} {g : zG} {m : Int → Int → Int} {kd : Int → Nat × Int} {n c s : Nat} (hi : 0 ≤ i ∧ i + 5 ≤ (L : Int) ∧ (L : Int) ≤ 100000) (hG : GI N g) (hN : N ≤ 511) (hz : zpt N g ≤ 2044) (I : WI N g m kd n c s) : WStep L xs i t6 t7 t8 N g m kd n c s 137 := by
  obtain ⟨g', N', e, code, h1, h2, h3, h4, C, M⟩ := p_restore hG hN ((xs (i + 1).toNat).toInt)
  obtain ⟨i1, i2, i3, i4⟩ := I
  obtain ⟨m1, kd1, n1, c1, s1, e1, a1, a2, a5⟩ := C m kd n c s i1
  have x0 := i1.q.2.2.1
  have lc : f_L_restore [(1, 0), (0, (xs (i + 1).toNat).toInt)] (m, kd, n, c, s) = some (.inl (some (0, code)), (m1, kd1, n1, c1, s1)) := by
    rcases h4 with ⟨z1, z2⟩ | ⟨h0, hm⟩
    · rw [if_pos z1] at e1
      rw [z2]
      exact qa_fn_eq (l_restore0 x0 e1) (by simp; omega)
    · rw [if_neg h0] at e1
      simp at hm
      rcases hm with ⟨z1, z2⟩ | ⟨z1, z2⟩
      · rw [z1] at e1
        rw [z2]
        exact qa_fn_eq (l_restoreE2 x0 e1) (by simp; omega)
      · rw [z1] at e1
        rw [z2]
        exact qa_fn_eq (l_restoreE3 x0 e1) (by simp; omega)
  have j2 : MI N g m1 kd1 := MI_fr i2 (fun x a b => (a2 x (by omega) (by omega)).1) (fun i _ => by rw [(a2 77 (by decide) (by decide)).1]) (fun x a b => (a2 x a (by omega)).2)
  obtain ⟨m2, e2, b1, b2, b3⟩ := M m1 kd1 (n1, c1, s1) j2
  exact ⟨g', N', (0, code), t7, t8, m2, kd1, n1, c1, s1, w_restore hi rfl b1.1.1 b2 lc e2, h1, h3, ⟨CI_m a1 (fun x hx => b3 x (by omega)), b1, by rw [(a2 91 (by decide) (by decide)).2]; exact i3, by rw [(a2 92 (by decide) (by decide)).2]; exact i4⟩, a5⟩
theorem w_any {L : Nat} {xs : Nat → Int32} {i : Int} {t6 t7 t8 : qV} {N : Int} {g : zG} {m : Int → Int → Int} {kd : Int → Nat × Int} {n c s : Nat} (hi : 0 ≤ i ∧ i + 5 ≤ (L : Int) ∧ (L : Int) ≤ 100000) (hG : GI N g) (hN : N ≤ 511) (hz : zpt N g ≤ 2044) (I : WI N g m kd n c s) {z : Int} (hz0 : 0 ≤ z) : WStep L xs i t6 t7 t8 N g m kd n c s (zsw 139 [2, 5, 8, 9, 10, 11, 15, 18, 22, 26, 30, 34, 38, 42, 45, 49, 56, 59, 63, 67, 71, 74, 77, 80, 83, 87, 90, 93, 96, 100, 104, 108, 112, 116, 120, 124, 127, 130, 133, 134, 135, 137] z) := by
  by_cases h : 42 ≤ z
  · rw [zsw_big 139 _ z (by show (42 : Int) ≤ z; exact h)]
    exact ⟨g, N, t6, t7, t8, m, kd, n, c, s, rfl, hG, by omega, I, Nat.le_refl _, Nat.le_refl _, Nat.le_refl _⟩
  · have : z = 0 ∨ z = 1 ∨ z = 2 ∨ z = 3 ∨ z = 4 ∨ z = 5 ∨ z = 6 ∨ z = 7 ∨ z = 8 ∨ z = 9 ∨ z = 10 ∨ z = 11 ∨ z = 12 ∨ z = 13 ∨ z = 14 ∨ z = 15 ∨ z = 16 ∨ z = 17 ∨ z = 18 ∨ z = 19 ∨ z = 20 ∨ z = 21 ∨ z = 22 ∨ z = 23 ∨ z = 24 ∨ z = 25 ∨ z = 26 ∨ z = 27 ∨ z = 28 ∨ z = 29 ∨ z = 30 ∨ z = 31 ∨ z = 32 ∨ z = 33 ∨ z = 34 ∨ z = 35 ∨ z = 36 ∨ z = 37 ∨ z = 38 ∨ z = 39 ∨ z = 40 ∨ z = 41 := by omega
    rcases this with e | e | e | e | e | e | e | e | e | e | e | e | e | e | e | e | e | e | e | e | e | e | e | e | e | e | e | e | e | e | e | e | e | e | e | e | e | e | e | e | e | e
    · rw [e]; exact s_appendText hi hG hN hz I
    · rw [e]; exact s_truncateText hi hG hN hz I
    · rw [e]; exact s_runScript hi hG hN hz I
    · rw [e]; exact s_errorCode hi hG hN hz I
    · rw [e]; exact s_errorPosition hi hG hN hz I
    · rw [e]; exact s_set hi hG hN hz I
    · rw [e]; exact s_count hi hG hN hz I
    · rw [e]; exact s_branch hi hG hN hz I
    · rw [e]; exact s_entry hi hG hN hz I
    · rw [e]; exact s_reader hi hG hN hz I
    · rw [e]; exact s_debt hi hG hN hz I
    · rw [e]; exact s_debtOf hi hG hN hz I
    · rw [e]; exact s_item hi hG hN hz I
    · rw [e]; exact s_account hi hG hN hz I
    · rw [e]; exact s_append hi hG hN hz I
    · rw [e]; exact s_join hi hG hN hz I
    · rw [e]; exact s_leave hi hG hN hz I
    · rw [e]; exact s_read hi hG hN hz I
    · rw [e]; exact s_promise hi hG hN hz I
    · rw [e]; exact s_move hi hG hN hz I
    · rw [e]; exact s_fork hi hG hN hz I
    · rw [e]; exact s_merge hi hG hN hz I
    · rw [e]; exact s_drop hi hG hN hz I
    · rw [e]; exact s_pass hi hG hN hz I
    · rw [e]; exact s_common hi hG hN hz I
    · rw [e]; exact s_holder hi hG hN hz I
    · rw [e]; exact s_slowest hi hG hN hz I
    · rw [e]; exact s_cause hi hG hN hz I
    · rw [e]; exact s_latest hi hG hN hz I
    · rw [e]; exact s_mean hi hG hN hz I
    · rw [e]; exact s_trust hi hG hN hz I
    · rw [e]; exact s_ahead hi hG hN hz I
    · rw [e]; exact s_losesIn hi hG hN hz I
    · rw [e]; exact s_wouldCut hi hG hN hz I
    · rw [e]; exact s_unread hi hG hN hz I
    · rw [e]; exact s_promised hi hG hN hz I
    · rw [e]; exact s_age hi hG hN hz I
    · rw [e]; exact s_write hi hG hN hz I
    · rw [e]; exact s_output hi hG hN hz I
    · rw [e]; exact s_undo hi hG hN hz I
    · rw [e]; exact s_save hi hG hN hz I
    · rw [e]; exact s_restore hi hG hN hz I
