theorem zsf_miss {g : Int → Int} (h : ∀ i, 0 ≤ g i ∧ g i ≤ 1) : ∀ (n : Nat) (k i : Int), k ≤ i → i < k + n → g i = 0 → zsf g k n < n := by
  intro n
  induction n with
  | zero => intro k i h1 h2; omega
  | succ n ih =>
    intro k i h1 h2 h3
    simp only [zsf]
    have hk := h k
    have hn := (zsf_01 h n (k + 1)).2
    by_cases e : i = k
    · rw [e] at h3; omega
    · have := ih (k + 1) i (by omega) (by omega) h3
      omega
theorem zsf_all {g : Int → Int} : ∀ (n : Nat) (k : Int), (∀ i, k ≤ i → i < k + n → g i = 1) → zsf g k n = n := by
  intro n
  induction n with
  | zero => intro k _; rfl
  | succ n ih =>
    intro k h
    simp only [zsf]
    rw [h k (by omega) (by omega), ih (k + 1) (fun i h1 h2 => h i (by omega) (by omega))]
    omega
theorem zfree {p : Int → Int} (n : Nat) (h : ∀ i : Int, 0 ≤ i → i < n → p i = 0 ∨ p i = 1) : (zff (fun r => p r = 0) 0 n = -1 ∧ zsum (fun r => if p r = 1 then 1 else 0) n = n) ∨ (zff (fun r => p r = 0) 0 n ≠ -1 ∧ zsum (fun r => if p r = 1 then 1 else 0) n < n ∧ 0 ≤ zff (fun r => p r = 0) 0 n ∧ zff (fun r => p r = 0) 0 n < n ∧ p (zff (fun r => p r = 0) 0 n) = 0) := by
  rcases zff_le (p := fun r => p r = 0) n 0 with e | ⟨e1, e2, e3⟩
  · refine Or.inl ⟨e, zsf_all n 0 (fun i i1 i2 => ?_)⟩
    have := zff_none n 0 (by decide) e i i1 i2
    have := h i i1 (by omega)
    rw [if_pos (by omega)]
  · refine Or.inr ⟨by omega, zsf_miss (fun i => by split <;> omega) n 0 _ e1 e2 (if_neg (by omega)), e1, by omega, e3⟩
theorem m_joins {m : Int → Int → Int} {kd : Int → Nat × Int} {w : Nat × Nat × Nat} {A : zA} (hK : KM kd) (hR : RM m) (hQ : QR A (m 79)) {M : Int} (hW : zW M A) {um : Int} {U : Int → zA} (hU : MU um U m) (hUW : ∀ k, 0 ≤ k → k < um → zW M (U k)) (ha : ∀ i, 0 ≤ i → i ≤ 10 → 0 ≤ m 84 i ∧ m 84 i < 100000000) {b e : Int} (hb : zBl A b) : (zff (fun r => A.2.2.1 r 0 = 0) 0 6 = -1 → mRef 1 m kd w (f_X12_joins [(1, 77), (0, b), (0, e)] (m, kd, w))) ∧ (zff (fun r => A.2.2.1 r 0 = 0) 0 6 ≠ -1 → mDone um U A (zJoin A (zff (fun r => A.2.2.1 r 0 = 0) 0 6) b (if e = 0 then A.2.1 b 4 else A.2.1 b 5)) (zff (fun r => A.2.2.1 r 0 = 0) 0 6) m kd w (f_X12_joins [(1, 77), (0, b), (0, e)] (m, kd, w))) := by
  obtain ⟨b1, b2, b3⟩ := id hb
  have rf := m_refuses (w := w) (r := 1) hK hR (by decide) (ha 1 (by decide) (by decide))
  have rc := m_readerMany (w := w) hK hR hQ
  have hz := zfree (p := fun r => A.2.2.1 r 0) 6 (fun i i1 i2 => hW.rt i1 (by omega))
  have hff := @zff_none (fun r => A.2.2.1 r 0 = 0) _
  refine ⟨fun h => ⟨by decide, by decide, ?_⟩, fun h => ?_⟩
  · rcases hz with ⟨_, z2⟩ | ⟨z1, _⟩
    · rw [z2] at rc
      obtain ⟨k77, k78, k79, k80, k81, k82, k83, k84, k85, k86, k87, k88, k89, k90⟩ := id hK
      unfold f_X12_joins
      refine qa_fn_eq ?_ (by simp)
      simp (disch := omega) [ev_X12_joins_0, ev_X12_joins_1, ev_X12_joins_3, ev_X12_joins_5, ev_X12_joins_6, ev_X12_joins_7, B_X12_joins_0, B_X12_joins_1, B_X12_joins_2, B_X12_joins_3, B_X12_joins_4, B_X12_joins_5, B_X12_joins_6, B_X12_joins_7, x_const, x_iadd, x_isub, x_imul, x_idiv, x_irem, x_ineg, x_dup, x_dup_x1, x_dup2, x_pop, x_goto, x_ifeq, x_ifne, x_iflt, x_ifge, x_ifgt, x_ifle, x_cmpeq, x_cmpne, x_cmplt, x_cmpge, x_cmpgt, x_cmple, x_null, x_nonnull, x_acmpeq, x_acmpne, x_get, x_put, x_putz, x_ald, x_ast, x_bast, x_zast, x_aast, x_alen, x_obj, x_ret, x_retz, x_vret, x_max, x_min, x_copy, x_i2l, qg_none, qg_inl, qg_inr, qg_ite, xr1, xr0, xrE, xri, xl0, xl1, xl2, xl3, xl4, xl5, xl6, xl7, xl8, xl9, xl10, xs0, xs1, xs2, xs3, xs4, xs5, xs6, xs7, xs8, xs9, xs10, xi0, xi1, xi2, xi3, xi4, xi5, xi6, xi7, xi8, xi9, xi10, xc0, xc1, xc2, xc3, xc4, xc5, xc6, xc7, xv1, xv2, xv3, xv4, xv5, xv6, xv7, dT_le, dF_le, dT_lt, dF_lt, k77, rc, rf]
    · exact absurd h z1
  · obtain ⟨m1, i1, i2, i3, i4, i5, i6, i7, i8⟩ := m_keeps (w := w) hK hR hQ hW hU hUW (ha 0 (by decide) (by decide))
    have hR1 := zfk_RM i3 hR
    have hQ1 : QR A (m1 79) := by rw [i4]; exact hQ
    rcases hz with ⟨z1, _⟩ | ⟨_, z2, z3, z4, z5⟩
    · exact absurd z1 h
    obtain ⟨k77, k78, k79, k80, k81, k82, k83, k84, k85, k86, k87, k88, k89, k90⟩ := id hK
    obtain ⟨r1, r2, r3, r4, r6, r7, r8, r12, r13, r15, r23, r25, r26⟩ := id hR1
    have l1 : ∀ (n : Nat) (k : Int), 0 ≤ k → k + n = 6 → zff (fun r => A.2.2.1 r 0 = 0) k n ≠ -1 → qa_ev P_X12_joins 2 [(1, 77), (0, b), (0, e), (0, k), (9, 0), (9, 0)] [] (m1, kd, w) = qa_ev P_X12_joins 3 [(1, 77), (0, b), (0, e), (0, zff (fun r => A.2.2.1 r 0 = 0) k n), (9, 0), (9, 0)] [] (m1, kd, w) := by
      intro n
      induction n with
      | zero => intro k h1 h2 h3; exact absurd rfl h3
      | succ n ih =>
        intro k h1 h2 h3
        have e1 := m_isReader (w := w) hK hR1 hQ1 k
        have ez : zff (fun r => A.2.2.1 r 0 = 0) k (n + 1) = if A.2.2.1 k 0 = 0 then k else zff (fun r => A.2.2.1 r 0 = 0) (k + 1) n := rfl
        by_cases hk : A.2.2.1 k 0 = 0
        · rw [if_pos hk] at ez
          rw [if_neg (fun z => by have := z.2.2; omega)] at e1
          rw [ez, ev_X12_joins_2]
          simp (disch := omega) [ev_X12_joins_0, ev_X12_joins_1, ev_X12_joins_5, ev_X12_joins_6, ev_X12_joins_7, B_X12_joins_0, B_X12_joins_1, B_X12_joins_2, B_X12_joins_3, B_X12_joins_4, B_X12_joins_5, B_X12_joins_6, B_X12_joins_7, x_const, x_iadd, x_isub, x_imul, x_idiv, x_irem, x_ineg, x_dup, x_dup_x1, x_dup2, x_pop, x_goto, x_ifeq, x_ifne, x_iflt, x_ifge, x_ifgt, x_ifle, x_cmpeq, x_cmpne, x_cmplt, x_cmpge, x_cmpgt, x_cmple, x_null, x_nonnull, x_acmpeq, x_acmpne, x_get, x_put, x_putz, x_ald, x_ast, x_bast, x_zast, x_aast, x_alen, x_obj, x_ret, x_retz, x_vret, x_max, x_min, x_copy, x_i2l, qg_none, qg_inl, qg_inr, qg_ite, xr1, xr0, xrE, xri, xl0, xl1, xl2, xl3, xl4, xl5, xl6, xl7, xl8, xl9, xl10, xs0, xs1, xs2, xs3, xs4, xs5, xs6, xs7, xs8, xs9, xs10, xi0, xi1, xi2, xi3, xi4, xi5, xi6, xi7, xi8, xi9, xi10, xc0, xc1, xc2, xc3, xc4, xc5, xc6, xc7, xv1, xv2, xv3, xv4, xv5, xv6, xv7, dT_le, dF_le, dT_lt, dF_lt, k77, e1]
        · rw [if_neg hk] at ez
          rw [if_pos ⟨h1, by omega, by have := hW.rt h1 (by omega); omega⟩] at e1
          rw [ez] at h3 ⊢
          have ih' := ih (k + 1) (by omega) (by omega) h3
          rw [ev_X12_joins_2]
          simp (disch := omega) [ev_X12_joins_0, ev_X12_joins_1, ev_X12_joins_5, ev_X12_joins_6, ev_X12_joins_7, B_X12_joins_0, B_X12_joins_1, B_X12_joins_2, B_X12_joins_3, B_X12_joins_4, B_X12_joins_5, B_X12_joins_6, B_X12_joins_7, x_const, x_iadd, x_isub, x_imul, x_idiv, x_irem, x_ineg, x_dup, x_dup_x1, x_dup2, x_pop, x_goto, x_ifeq, x_ifne, x_iflt, x_ifge, x_ifgt, x_ifle, x_cmpeq, x_cmpne, x_cmplt, x_cmpge, x_cmpgt, x_cmple, x_null, x_nonnull, x_acmpeq, x_acmpne, x_get, x_put, x_putz, x_ald, x_ast, x_bast, x_zast, x_aast, x_alen, x_obj, x_ret, x_retz, x_vret, x_max, x_min, x_copy, x_i2l, qg_none, qg_inl, qg_inr, qg_ite, xr1, xr0, xrE, xri, xl0, xl1, xl2, xl3, xl4, xl5, xl6, xl7, xl8, xl9, xl10, xs0, xs1, xs2, xs3, xs4, xs5, xs6, xs7, xs8, xs9, xs10, xi0, xi1, xi2, xi3, xi4, xi5, xi6, xi7, xi8, xi9, xi10, xc0, xc1, xc2, xc3, xc4, xc5, xc6, xc7, xv1, xv2, xv3, xv4, xv5, xv6, xv7, dT_le, dF_le, dT_lt, dF_lt, k77, e1, ih']
    have lp1 := l1 6 0 (by decide) (by decide) h
    generalize zff (fun r => A.2.2.1 r 0 = 0) 0 6 = r at z3 z4 z5 h lp1 ⊢
    have l2 : ∀ (n : Nat) (k : Int), 0 ≤ k → k + n = 26 → qa_ev P_X12_joins 4 [(1, 77), (0, b), (0, e), (0, r), (0, 34 + 26 * r), (0, k)] [] (zfl m1 (34 + 26 * r) k 0, kd, w) = qa_ev P_X12_joins 5 [(1, 77), (0, b), (0, e), (0, r), (0, 34 + 26 * r), (0, 26)] [] (zfl m1 (34 + 26 * r) 26 0, kd, w) := by
      intro n
      induction n with
      | zero =>
        intro k h1 h2
        obtain rfl : k = 26 := by omega
        rw [ev_X12_joins_4]
        simp (disch := omega) [ev_X12_joins_0, ev_X12_joins_1, ev_X12_joins_3, ev_X12_joins_6, ev_X12_joins_7, B_X12_joins_0, B_X12_joins_1, B_X12_joins_2, B_X12_joins_3, B_X12_joins_4, B_X12_joins_5, B_X12_joins_6, B_X12_joins_7, x_const, x_iadd, x_isub, x_imul, x_idiv, x_irem, x_ineg, x_dup, x_dup_x1, x_dup2, x_pop, x_goto, x_ifeq, x_ifne, x_iflt, x_ifge, x_ifgt, x_ifle, x_cmpeq, x_cmpne, x_cmplt, x_cmpge, x_cmpgt, x_cmple, x_null, x_nonnull, x_acmpeq, x_acmpne, x_get, x_put, x_putz, x_ald, x_ast, x_bast, x_zast, x_aast, x_alen, x_obj, x_ret, x_retz, x_vret, x_max, x_min, x_copy, x_i2l, qg_none, qg_inl, qg_inr, qg_ite, xr1, xr0, xrE, xri, xl0, xl1, xl2, xl3, xl4, xl5, xl6, xl7, xl8, xl9, xl10, xs0, xs1, xs2, xs3, xs4, xs5, xs6, xs7, xs8, xs9, xs10, xi0, xi1, xi2, xi3, xi4, xi5, xi6, xi7, xi8, xi9, xi10, xc0, xc1, xc2, xc3, xc4, xc5, xc6, xc7, xv1, xv2, xv3, xv4, xv5, xv6, xv7, dT_le, dF_le, dT_lt, dF_lt]
      | succ n ih =>
        intro k h1 h2
        have ih' := ih (k + 1) (by omega) (by omega)
        have eu := zfl_up (m := m1) (s := 34 + 26 * r) (k := k) (v := 0) h1
        have t2 : zfl m1 (34 + 26 * r) k 0 77 2 = 79 := by rw [zfl_no (by omega)]; exact r2
        rw [ev_X12_joins_4]
        simp (disch := omega) [ev_X12_joins_0, ev_X12_joins_1, ev_X12_joins_3, ev_X12_joins_6, ev_X12_joins_7, B_X12_joins_0, B_X12_joins_1, B_X12_joins_2, B_X12_joins_3, B_X12_joins_4, B_X12_joins_5, B_X12_joins_6, B_X12_joins_7, x_const, x_iadd, x_isub, x_imul, x_idiv, x_irem, x_ineg, x_dup, x_dup_x1, x_dup2, x_pop, x_goto, x_ifeq, x_ifne, x_iflt, x_ifge, x_ifgt, x_ifle, x_cmpeq, x_cmpne, x_cmplt, x_cmpge, x_cmpgt, x_cmple, x_null, x_nonnull, x_acmpeq, x_acmpne, x_get, x_put, x_putz, x_ald, x_ast, x_bast, x_zast, x_aast, x_alen, x_obj, x_ret, x_retz, x_vret, x_max, x_min, x_copy, x_i2l, qg_none, qg_inl, qg_inr, qg_ite, xr1, xr0, xrE, xri, xl0, xl1, xl2, xl3, xl4, xl5, xl6, xl7, xl8, xl9, xl10, xs0, xs1, xs2, xs3, xs4, xs5, xs6, xs7, xs8, xs9, xs10, xi0, xi1, xi2, xi3, xi4, xi5, xi6, xi7, xi8, xi9, xi10, xc0, xc1, xc2, xc3, xc4, xc5, xc6, xc7, xv1, xv2, xv3, xv4, xv5, xv6, xv7, dT_le, dF_le, dT_lt, dF_lt, k77, k79, t2, eu, ih']
    have lp2 := l2 26 0 (by decide) (by decide)
    rw [zfl_0] at lp2
    generalize hm2 : zfl m1 (34 + 26 * r) 26 0 = m2 at lp2
    have n2 : ∀ c i, (c ≠ 79 ∨ i < 34 + 26 * r ∨ 34 + 26 * r + 26 ≤ i) → m2 c i = m1 c i := fun c i hh => by
      rw [← hm2]; exact zfl_no (by omega)
    have y2 : ∀ i, 34 + 26 * r ≤ i → i < 34 + 26 * r + 26 → m2 79 i = 0 := fun i a1 a2 => by
      rw [← hm2]; exact if_pos ⟨rfl, a1, a2⟩
    have t2 : m2 77 2 = 79 := by rw [n2 77 2 (by omega)]; exact r2
    have t0 : m2 79 0 = A.1 0 := by rw [n2 79 0 (by omega)]; exact hQ1.1
    have hb' := hQ1.2.2.2.2.1 b b1 b2 b3
    have ub : m2 79 (6 + 7 * b + 1) = A.2.1 b 4 := by rw [n2 79 _ (by omega)]; exact hb'.1
    have ub2 : m2 79 (6 + 7 * b + 2) = A.2.1 b 5 - A.2.1 b 4 := by rw [n2 79 _ (by omega)]; exact hb'.2.1
    have hbn := hW.bn hb
    have hR2 : ∀ v v1 : Int, RM (qa_up (qa_up m2 79 (34 + 26 * r) v) 79 (34 + 26 * r + 1) v1) := fun v v1 => by
      rw [RM_u, RM_u, ← hm2, RM_f]; exact hR1
    have pl : f_X12_endOf [(1, 77), (0, b)] (qa_up (qa_up m2 79 (34 + 26 * r) 1) 79 (34 + 26 * r + 1) b, kd, w) = some (.inl (some (0, A.2.1 b 5)), (qa_up (qa_up m2 79 (34 + 26 * r) 1) 79 (34 + 26 * r + 1) b, kd, w)) := by
      unfold f_X12_endOf
      refine qa_fn_eq ?_ (by simp)
      simp (disch := omega) [ev_X12_endOf_0, B_X12_endOf_0, x_const, x_iadd, x_isub, x_imul, x_idiv, x_irem, x_ineg, x_dup, x_dup_x1, x_dup2, x_pop, x_goto, x_ifeq, x_ifne, x_iflt, x_ifge, x_ifgt, x_ifle, x_cmpeq, x_cmpne, x_cmplt, x_cmpge, x_cmpgt, x_cmple, x_null, x_nonnull, x_acmpeq, x_acmpne, x_get, x_put, x_putz, x_ald, x_ast, x_bast, x_zast, x_aast, x_alen, x_obj, x_ret, x_retz, x_vret, x_max, x_min, x_copy, x_i2l, qg_none, qg_inl, qg_inr, qg_ite, xr1, xr0, xrE, xri, xl0, xl1, xl2, xl3, xl4, xl5, xl6, xl7, xl8, xl9, xl10, xs0, xs1, xs2, xs3, xs4, xs5, xs6, xs7, xs8, xs9, xs10, xi0, xi1, xi2, xi3, xi4, xi5, xi6, xi7, xi8, xi9, xi10, xc0, xc1, xc2, xc3, xc4, xc5, xc6, xc7, xv1, xv2, xv3, xv4, xv5, xv6, xv7, dT_le, dF_le, dT_lt, dF_lt, dT_eq, dF_eq, qa_up_hit, qa_up_no, k77, m_ofBranch hK (hR2 _ _), ub, ub2]
    have tn := hW.tn
    refine ⟨qa_up (qa_up (qa_up (qa_up (qa_up m2 79 (34 + 26 * r) 1) 79 (34 + 26 * r + 1) b) 79 (34 + 26 * r + 2) (if e = 0 then A.2.1 b 4 else A.2.1 b 5)) 79 (34 + 26 * r + 3) (A.1 0)) 79 (34 + 26 * r + 4) (-1), ?_, ?_, ?_, ?_, fun i => ?_, ?_, ?_, fun X _ hX => zcb_same hX (fun i hi => ?_) ?_⟩
    · unfold f_X12_joins
      refine qa_fn_eq ?_ (by simp)
      by_cases he : e = 0
      · subst he
        simp (disch := omega) [ev_X12_joins_0, ev_X12_joins_1, ev_X12_joins_3, ev_X12_joins_5, ev_X12_joins_6, ev_X12_joins_7, B_X12_joins_0, B_X12_joins_1, B_X12_joins_2, B_X12_joins_3, B_X12_joins_4, B_X12_joins_5, B_X12_joins_6, B_X12_joins_7, x_const, x_iadd, x_isub, x_imul, x_idiv, x_irem, x_ineg, x_dup, x_dup_x1, x_dup2, x_pop, x_goto, x_ifeq, x_ifne, x_iflt, x_ifge, x_ifgt, x_ifle, x_cmpeq, x_cmpne, x_cmplt, x_cmpge, x_cmpgt, x_cmple, x_null, x_nonnull, x_acmpeq, x_acmpne, x_get, x_put, x_putz, x_ald, x_ast, x_bast, x_zast, x_aast, x_alen, x_obj, x_ret, x_retz, x_vret, x_max, x_min, x_copy, x_i2l, qg_none, qg_inl, qg_inr, qg_ite, xr1, xr0, xrE, xri, xl0, xl1, xl2, xl3, xl4, xl5, xl6, xl7, xl8, xl9, xl10, xs0, xs1, xs2, xs3, xs4, xs5, xs6, xs7, xs8, xs9, xs10, xi0, xi1, xi2, xi3, xi4, xi5, xi6, xi7, xi8, xi9, xi10, xc0, xc1, xc2, xc3, xc4, xc5, xc6, xc7, xv1, xv2, xv3, xv4, xv5, xv6, xv7, dT_le, dF_le, dT_lt, dF_lt, dT_eq, dF_eq, qa_up_hit, qa_up_no, k77, k79, rc, i1, lp1, m_readerAt, lp2, t2, t0, m_ofBranch hK (hR2 _ _), ub]
      · simp (disch := omega) [ev_X12_joins_0, ev_X12_joins_1, ev_X12_joins_3, ev_X12_joins_5, ev_X12_joins_6, ev_X12_joins_7, B_X12_joins_0, B_X12_joins_1, B_X12_joins_2, B_X12_joins_3, B_X12_joins_4, B_X12_joins_5, B_X12_joins_6, B_X12_joins_7, x_const, x_iadd, x_isub, x_imul, x_idiv, x_irem, x_ineg, x_dup, x_dup_x1, x_dup2, x_pop, x_goto, x_ifeq, x_ifne, x_iflt, x_ifge, x_ifgt, x_ifle, x_cmpeq, x_cmpne, x_cmplt, x_cmpge, x_cmpgt, x_cmple, x_null, x_nonnull, x_acmpeq, x_acmpne, x_get, x_put, x_putz, x_ald, x_ast, x_bast, x_zast, x_aast, x_alen, x_obj, x_ret, x_retz, x_vret, x_max, x_min, x_copy, x_i2l, qg_none, qg_inl, qg_inr, qg_ite, xr1, xr0, xrE, xri, xl0, xl1, xl2, xl3, xl4, xl5, xl6, xl7, xl8, xl9, xl10, xs0, xs1, xs2, xs3, xs4, xs5, xs6, xs7, xs8, xs9, xs10, xi0, xi1, xi2, xi3, xi4, xi5, xi6, xi7, xi8, xi9, xi10, xc0, xc1, xc2, xc3, xc4, xc5, xc6, xc7, xv1, xv2, xv3, xv4, xv5, xv6, xv7, dT_le, dF_le, dT_lt, dF_lt, dT_eq, dF_eq, qa_up_hit, qa_up_no, dF_eq, k77, k79, rc, i1, lp1, m_readerAt, lp2, t2, t0, he, pl]
    · have e81 : ∀ i, m2 81 i = m1 81 i := fun i => n2 81 i (by omega)
      refine MU_79 (MU_79 (MU_79 (MU_79 (MU_79 ?_))))
      obtain ⟨q1, q2, q3, q4⟩ := i2
      refine ⟨by rw [n2 77 5 (by omega)]; exact q1, q2, q3, fun k a1 a2 => ?_⟩
      have := q4 k a1 a2
      have ee : (fun j => m2 81 (14622 * k + j)) = fun j => m1 81 (14622 * k + j) := by
        funext j
        exact e81 _
      rw [ee]
      exact this
    · refine QR_rd hQ1 (k := r) (R' := (zJoin A r b (if e = 0 then A.2.1 b 4 else A.2.1 b 5)).2.2.1) z3 (by omega) (fun i hi => ?_) (fun r' j hr => zJoin_n A hr) ?_ (fun _ j j1 j2 => ?_) (fun _ h9 => ?_)
      · simp (disch := omega) only [qa_up_no]
        exact n2 79 i (by omega)
      · simp (disch := omega) only [qa_up_no, qa_up_hit]
        exact (zJoin_r A r b _ 0).symm
      · rw [zJoin_r]
        unfold qa_up zSeat
        have y := y2 (34 + 26 * r + j) (by omega) (by omega)
        have : j = 1 ∨ j = 2 ∨ j = 3 ∨ j = 4 ∨ 5 ≤ j := by omega
        rcases this with rfl | rfl | rfl | rfl | hj
        · simp
        · simp
        · simp
        · simp
        · simp (disch := omega) only [if_neg, if_pos]
          exact y
      · rw [zJoin_r] at h9
        exact absurd rfl h9
    · refine zfk_79 (zfk_79 (zfk_79 (zfk_79 (zfk_79 ⟨fun c c1 c2 c3 c4 c5 c6 c7 => ?_, fun j j1 j2 j3 j4 j5 => ?_⟩))))
      · funext i
        rw [n2 c i (by omega), i3.1 c c1 c2 c3 c4 c5 c6 c7]
      · rw [n2 77 j (by omega), i3.2 j j1 j2 j3 j4 j5]
    · simp (disch := omega) only [qa_up_no]
      rw [n2 84 i (by omega)]; exact i8 i
    · funext i
      simp (disch := omega) only [qa_up_no]
      rw [n2 86 i (by omega), i6]
    · simp (disch := omega) only [qa_up_no]
      rw [n2 77 14 (by omega)]; exact i7 14 (by decide)
    · simp (disch := omega) only [qa_up_no]
      rw [n2 77 i (by omega)]; exact i7 i (by omega)
    · funext i
      simp (disch := omega) only [qa_up_no]
      rw [n2 85 i (by omega), i5]
