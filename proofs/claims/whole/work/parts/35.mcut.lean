def QS (st : Int → Int) (m : Int → Int → Int) : Prop := ∀ i, 0 ≤ i → i < 7 → m 78 i = st i
theorem m_isCovered {m : Int → Int → Int} {kd : Int → Nat × Int} {w : Nat × Nat × Nat} {A : zA} (hK : KM kd) (hR : RM m) (hQ : QR A (m 79)) {M : Int} (hW : zW M A) {st : Int → Int} (hS : QS st m) {r : Int} (hr : zRl A r) : f_X12_isCovered [(1, 77), (0, r)] (m, kd, w) = some (.inl (some (0, if zCov A st r then 1 else 0)), (m, kd, w)) := by
  obtain ⟨k77, k78, k79, k80, k81, k82, k83, k84, k85, k86, k87, k88, k89, k90⟩ := id hK
  obtain ⟨r1, r2, r3, r4, r6, r7, r8, r12, r13, r15, r23, r25, r26⟩ := id hR
  obtain ⟨g0, g1, gC, gI, gB, gJ, gR, gD, gE⟩ := id hQ
  obtain ⟨h1, h2, h3⟩ := id hr
  obtain ⟨t1, t2, t3, t4, t5, t6, t7, t8, t9⟩ := hW.rn hr
  have tn := hW.tn
  have e3 := gR r 3 h1 h2 h3 (by decide) (by decide)
  have e4 := gR r 4 h1 h2 h3 (by decide) (by decide)
  have s3 := hS 3 (by decide) (by decide)
  unfold f_X12_isCovered
  refine qa_fn_eq ?_ (by simp)
  simp (disch := omega) [ev_X12_isCovered_0, ev_X12_isCovered_1, ev_X12_isCovered_2, ev_X12_isCovered_3, B_X12_isCovered_0, B_X12_isCovered_1, B_X12_isCovered_2, B_X12_isCovered_3, x_const, x_iadd, x_isub, x_imul, x_idiv, x_irem, x_ineg, x_dup, x_dup_x1, x_dup2, x_pop, x_goto, x_ifeq, x_ifne, x_iflt, x_ifge, x_ifgt, x_ifle, x_cmpeq, x_cmpne, x_cmplt, x_cmpge, x_cmpgt, x_cmple, x_null, x_nonnull, x_acmpeq, x_acmpne, x_get, x_put, x_putz, x_ald, x_ast, x_bast, x_zast, x_aast, x_alen, x_obj, x_ret, x_retz, x_vret, x_max, x_min, x_copy, x_i2l, qg_none, qg_inl, qg_inr, qg_ite, xr1, xr0, xrE, xri, xl0, xl1, xl2, xl3, xl4, xl5, xl6, xl7, xl8, xl9, xl10, xs0, xs1, xs2, xs3, xs4, xs5, xs6, xs7, xs8, xs9, xs10, xi0, xi1, xi2, xi3, xi4, xi5, xi6, xi7, xi8, xi9, xi10, xc0, xc1, xc2, xc3, xc4, xc5, xc6, xc7, xv1, xv2, xv3, xv4, xv5, xv6, xv7, dT_le, dF_le, dT_lt, dF_lt, k77, k78, k79, r1, r2, m_ofReader hK hR, e3, e4, g0, s3]
  grind
theorem m_holds {m : Int → Int → Int} {kd : Int → Nat × Int} {w : Nat × Nat × Nat} {A : zA} (hK : KM kd) (hR : RM m) (hQ : QR A (m 79)) {M : Int} (hW : zW M A) {st : Int → Int} (hS : QS st m) {r b : Int} (hb : zBl A b) : f_X12_holds [(1, 77), (0, r), (0, b)] (m, kd, w) = some (.inl (some (0, if zHold A st r b then 1 else 0)), (m, kd, w)) := by
  obtain ⟨k77, k78, k79, k80, k81, k82, k83, k84, k85, k86, k87, k88, k89, k90⟩ := id hK
  obtain ⟨r1, r2, r3, r4, r6, r7, r8, r12, r13, r15, r23, r25, r26⟩ := id hR
  obtain ⟨g0, g1, gC, gI, gB, gJ, gR, gD, gE⟩ := id hQ
  obtain ⟨b1, b2, b3⟩ := id hb
  obtain ⟨u1, u2⟩ := gB b b1 b2 b3
  have e1 := m_isIn (w := w) hK hR hQ r b
  unfold f_X12_holds
  refine qa_fn_eq ?_ (by simp)
  by_cases h : zRl A r
  · obtain ⟨h1, h2, h3⟩ := id h
    have e2 := m_isCovered (w := w) hK hR hQ hW hS h
    have e3 := gR r 2 h1 h2 h3 (by decide) (by decide)
    by_cases hi : zIn A r b
    · rw [if_pos hi] at e1
      by_cases hl : A.2.2.1 r 2 ≤ A.2.1 b 4
      · by_cases hc : zCov A st r
        · rw [if_pos hc] at e2
          rw [if_pos ⟨⟨hi, hl⟩, hc⟩]
          simp (disch := omega) [ev_X12_holds_0, ev_X12_holds_1, ev_X12_holds_2, B_X12_holds_0, B_X12_holds_1, B_X12_holds_2, x_const, x_iadd, x_isub, x_imul, x_idiv, x_irem, x_ineg, x_dup, x_dup_x1, x_dup2, x_pop, x_goto, x_ifeq, x_ifne, x_iflt, x_ifge, x_ifgt, x_ifle, x_cmpeq, x_cmpne, x_cmplt, x_cmpge, x_cmpgt, x_cmple, x_null, x_nonnull, x_acmpeq, x_acmpne, x_get, x_put, x_putz, x_ald, x_ast, x_bast, x_zast, x_aast, x_alen, x_obj, x_ret, x_retz, x_vret, x_max, x_min, x_copy, x_i2l, qg_none, qg_inl, qg_inr, qg_ite, xr1, xr0, xrE, xri, xl0, xl1, xl2, xl3, xl4, xl5, xl6, xl7, xl8, xl9, xl10, xs0, xs1, xs2, xs3, xs4, xs5, xs6, xs7, xs8, xs9, xs10, xi0, xi1, xi2, xi3, xi4, xi5, xi6, xi7, xi8, xi9, xi10, xc0, xc1, xc2, xc3, xc4, xc5, xc6, xc7, xv1, xv2, xv3, xv4, xv5, xv6, xv7, dT_le, dF_le, dT_lt, dF_lt, k77, e1, e2, e3, u1, m_ofReader hK hR, m_ofBranch hK hR]
        · rw [if_neg hc] at e2
          rw [if_neg (fun z => hc z.2)]
          simp (disch := omega) [ev_X12_holds_0, ev_X12_holds_1, ev_X12_holds_2, B_X12_holds_0, B_X12_holds_1, B_X12_holds_2, x_const, x_iadd, x_isub, x_imul, x_idiv, x_irem, x_ineg, x_dup, x_dup_x1, x_dup2, x_pop, x_goto, x_ifeq, x_ifne, x_iflt, x_ifge, x_ifgt, x_ifle, x_cmpeq, x_cmpne, x_cmplt, x_cmpge, x_cmpgt, x_cmple, x_null, x_nonnull, x_acmpeq, x_acmpne, x_get, x_put, x_putz, x_ald, x_ast, x_bast, x_zast, x_aast, x_alen, x_obj, x_ret, x_retz, x_vret, x_max, x_min, x_copy, x_i2l, qg_none, qg_inl, qg_inr, qg_ite, xr1, xr0, xrE, xri, xl0, xl1, xl2, xl3, xl4, xl5, xl6, xl7, xl8, xl9, xl10, xs0, xs1, xs2, xs3, xs4, xs5, xs6, xs7, xs8, xs9, xs10, xi0, xi1, xi2, xi3, xi4, xi5, xi6, xi7, xi8, xi9, xi10, xc0, xc1, xc2, xc3, xc4, xc5, xc6, xc7, xv1, xv2, xv3, xv4, xv5, xv6, xv7, dT_le, dF_le, dT_lt, dF_lt, k77, e1, e2, e3, u1, m_ofReader hK hR, m_ofBranch hK hR]
      · rw [if_neg (fun z => hl z.1.2)]
        simp (disch := omega) [ev_X12_holds_0, ev_X12_holds_1, ev_X12_holds_2, B_X12_holds_0, B_X12_holds_1, B_X12_holds_2, x_const, x_iadd, x_isub, x_imul, x_idiv, x_irem, x_ineg, x_dup, x_dup_x1, x_dup2, x_pop, x_goto, x_ifeq, x_ifne, x_iflt, x_ifge, x_ifgt, x_ifle, x_cmpeq, x_cmpne, x_cmplt, x_cmpge, x_cmpgt, x_cmple, x_null, x_nonnull, x_acmpeq, x_acmpne, x_get, x_put, x_putz, x_ald, x_ast, x_bast, x_zast, x_aast, x_alen, x_obj, x_ret, x_retz, x_vret, x_max, x_min, x_copy, x_i2l, qg_none, qg_inl, qg_inr, qg_ite, xr1, xr0, xrE, xri, xl0, xl1, xl2, xl3, xl4, xl5, xl6, xl7, xl8, xl9, xl10, xs0, xs1, xs2, xs3, xs4, xs5, xs6, xs7, xs8, xs9, xs10, xi0, xi1, xi2, xi3, xi4, xi5, xi6, xi7, xi8, xi9, xi10, xc0, xc1, xc2, xc3, xc4, xc5, xc6, xc7, xv1, xv2, xv3, xv4, xv5, xv6, xv7, dT_le, dF_le, dT_lt, dF_lt, k77, e1, e3, u1, m_ofReader hK hR, m_ofBranch hK hR]
    · rw [if_neg hi] at e1
      rw [if_neg (fun z => hi z.1.1)]
      simp (disch := omega) [ev_X12_holds_0, ev_X12_holds_1, ev_X12_holds_2, B_X12_holds_0, B_X12_holds_1, B_X12_holds_2, x_const, x_iadd, x_isub, x_imul, x_idiv, x_irem, x_ineg, x_dup, x_dup_x1, x_dup2, x_pop, x_goto, x_ifeq, x_ifne, x_iflt, x_ifge, x_ifgt, x_ifle, x_cmpeq, x_cmpne, x_cmplt, x_cmpge, x_cmpgt, x_cmple, x_null, x_nonnull, x_acmpeq, x_acmpne, x_get, x_put, x_putz, x_ald, x_ast, x_bast, x_zast, x_aast, x_alen, x_obj, x_ret, x_retz, x_vret, x_max, x_min, x_copy, x_i2l, qg_none, qg_inl, qg_inr, qg_ite, xr1, xr0, xrE, xri, xl0, xl1, xl2, xl3, xl4, xl5, xl6, xl7, xl8, xl9, xl10, xs0, xs1, xs2, xs3, xs4, xs5, xs6, xs7, xs8, xs9, xs10, xi0, xi1, xi2, xi3, xi4, xi5, xi6, xi7, xi8, xi9, xi10, xc0, xc1, xc2, xc3, xc4, xc5, xc6, xc7, xv1, xv2, xv3, xv4, xv5, xv6, xv7, dT_le, dF_le, dT_lt, dF_lt, k77, e1]
  · rw [if_neg (fun z => h z.1)] at e1
    rw [if_neg (fun z => h z.1.1.1)]
    simp (disch := omega) [ev_X12_holds_0, ev_X12_holds_1, ev_X12_holds_2, B_X12_holds_0, B_X12_holds_1, B_X12_holds_2, x_const, x_iadd, x_isub, x_imul, x_idiv, x_irem, x_ineg, x_dup, x_dup_x1, x_dup2, x_pop, x_goto, x_ifeq, x_ifne, x_iflt, x_ifge, x_ifgt, x_ifle, x_cmpeq, x_cmpne, x_cmplt, x_cmpge, x_cmpgt, x_cmple, x_null, x_nonnull, x_acmpeq, x_acmpne, x_get, x_put, x_putz, x_ald, x_ast, x_bast, x_zast, x_aast, x_alen, x_obj, x_ret, x_retz, x_vret, x_max, x_min, x_copy, x_i2l, qg_none, qg_inl, qg_inr, qg_ite, xr1, xr0, xrE, xri, xl0, xl1, xl2, xl3, xl4, xl5, xl6, xl7, xl8, xl9, xl10, xs0, xs1, xs2, xs3, xs4, xs5, xs6, xs7, xs8, xs9, xs10, xi0, xi1, xi2, xi3, xi4, xi5, xi6, xi7, xi8, xi9, xi10, xc0, xc1, xc2, xc3, xc4, xc5, xc6, xc7, xv1, xv2, xv3, xv4, xv5, xv6, xv7, dT_le, dF_le, dT_lt, dF_lt, k77, e1]
theorem m_holderOf {m : Int → Int → Int} {kd : Int → Nat × Int} {w : Nat × Nat × Nat} {A : zA} (hK : KM kd) (hR : RM m) (hQ : QR A (m 79)) {M : Int} (hW : zW M A) {st : Int → Int} (hS : QS st m) {b : Int} (hb : zBl A b) : f_X12_holderOf [(1, 77), (0, b)] (m, kd, w) = some (.inl (some (0, zHolder A st b)), (m, kd, w)) := by
  obtain ⟨k77, k78, k79, k80, k81, k82, k83, k84, k85, k86, k87, k88, k89, k90⟩ := id hK
  obtain ⟨r1, r2, r3, r4, r6, r7, r8, r12, r13, r15, r23, r25, r26⟩ := id hR
  obtain ⟨g0, g1, gC, gI, gB, gJ, gR, gD, gE⟩ := id hQ
  obtain ⟨b1, b2, b3⟩ := id hb
  obtain ⟨u1, u2, u3⟩ := gB b b1 b2 b3
  obtain ⟨n1, n2, n3, n4, n5, n6, n7⟩ := hW.bn hb
  by_cases hp : A.2.1 b 5 ≤ A.2.1 b 4
  · unfold zHolder
    unfold f_X12_holderOf
    refine qa_fn_eq ?_ (by simp)
    simp (disch := omega) [ev_X12_holderOf_0, ev_X12_holderOf_1, ev_X12_holderOf_2, ev_X12_holderOf_3, B_X12_holderOf_0, B_X12_holderOf_1, B_X12_holderOf_2, B_X12_holderOf_3, x_const, x_iadd, x_isub, x_imul, x_idiv, x_irem, x_ineg, x_dup, x_dup_x1, x_dup2, x_pop, x_goto, x_ifeq, x_ifne, x_iflt, x_ifge, x_ifgt, x_ifle, x_cmpeq, x_cmpne, x_cmplt, x_cmpge, x_cmpgt, x_cmple, x_null, x_nonnull, x_acmpeq, x_acmpne, x_get, x_put, x_putz, x_ald, x_ast, x_bast, x_zast, x_aast, x_alen, x_obj, x_ret, x_retz, x_vret, x_max, x_min, x_copy, x_i2l, qg_none, qg_inl, qg_inr, qg_ite, xr1, xr0, xrE, xri, xl0, xl1, xl2, xl3, xl4, xl5, xl6, xl7, xl8, xl9, xl10, xs0, xs1, xs2, xs3, xs4, xs5, xs6, xs7, xs8, xs9, xs10, xi0, xi1, xi2, xi3, xi4, xi5, xi6, xi7, xi8, xi9, xi10, xc0, xc1, xc2, xc3, xc4, xc5, xc6, xc7, xv1, xv2, xv3, xv4, xv5, xv6, xv7, dT_le, dF_le, dT_lt, dF_lt, k77, u2, m_ofBranch hK hR, hp]
  · have loop : ∀ (n : Nat) (k : Int), 0 ≤ k → k + n = 6 → qa_ev P_X12_holderOf 1 [(1, 77), (0, b), (0, k)] [] (m, kd, w) = some (.inl (some (0, zff (fun r => zHold A st r b) k n)), (m, kd, w)) := by
      intro n
      induction n with
      | zero =>
        intro k h1 h2
        rw [ev_X12_holderOf_1]
        simp (disch := omega) [ev_X12_holderOf_0, ev_X12_holderOf_2, ev_X12_holderOf_3, B_X12_holderOf_0, B_X12_holderOf_1, B_X12_holderOf_2, B_X12_holderOf_3, x_const, x_iadd, x_isub, x_imul, x_idiv, x_irem, x_ineg, x_dup, x_dup_x1, x_dup2, x_pop, x_goto, x_ifeq, x_ifne, x_iflt, x_ifge, x_ifgt, x_ifle, x_cmpeq, x_cmpne, x_cmplt, x_cmpge, x_cmpgt, x_cmple, x_null, x_nonnull, x_acmpeq, x_acmpne, x_get, x_put, x_putz, x_ald, x_ast, x_bast, x_zast, x_aast, x_alen, x_obj, x_ret, x_retz, x_vret, x_max, x_min, x_copy, x_i2l, qg_none, qg_inl, qg_inr, qg_ite, xr1, xr0, xrE, xri, xl0, xl1, xl2, xl3, xl4, xl5, xl6, xl7, xl8, xl9, xl10, xs0, xs1, xs2, xs3, xs4, xs5, xs6, xs7, xs8, xs9, xs10, xi0, xi1, xi2, xi3, xi4, xi5, xi6, xi7, xi8, xi9, xi10, xc0, xc1, xc2, xc3, xc4, xc5, xc6, xc7, xv1, xv2, xv3, xv4, xv5, xv6, xv7, dT_le, dF_le, dT_lt, dF_lt, zff]
      | succ n ih =>
        intro k h1 h2
        have ih' := ih (k + 1) (by omega) (by omega)
        have e := m_holds (w := w) hK hR hQ hW hS (r := k) hb
        rw [ev_X12_holderOf_1]
        simp only [zff]
        by_cases h : zHold A st k b
        · rw [if_pos h] at e ⊢
          simp (disch := omega) [ev_X12_holderOf_0, ev_X12_holderOf_2, ev_X12_holderOf_3, B_X12_holderOf_0, B_X12_holderOf_1, B_X12_holderOf_2, B_X12_holderOf_3, x_const, x_iadd, x_isub, x_imul, x_idiv, x_irem, x_ineg, x_dup, x_dup_x1, x_dup2, x_pop, x_goto, x_ifeq, x_ifne, x_iflt, x_ifge, x_ifgt, x_ifle, x_cmpeq, x_cmpne, x_cmplt, x_cmpge, x_cmpgt, x_cmple, x_null, x_nonnull, x_acmpeq, x_acmpne, x_get, x_put, x_putz, x_ald, x_ast, x_bast, x_zast, x_aast, x_alen, x_obj, x_ret, x_retz, x_vret, x_max, x_min, x_copy, x_i2l, qg_none, qg_inl, qg_inr, qg_ite, xr1, xr0, xrE, xri, xl0, xl1, xl2, xl3, xl4, xl5, xl6, xl7, xl8, xl9, xl10, xs0, xs1, xs2, xs3, xs4, xs5, xs6, xs7, xs8, xs9, xs10, xi0, xi1, xi2, xi3, xi4, xi5, xi6, xi7, xi8, xi9, xi10, xc0, xc1, xc2, xc3, xc4, xc5, xc6, xc7, xv1, xv2, xv3, xv4, xv5, xv6, xv7, dT_le, dF_le, dT_lt, dF_lt, k77, u2, m_ofBranch hK hR, e]
        · rw [if_neg h] at e ⊢
          simp (disch := omega) [ev_X12_holderOf_0, ev_X12_holderOf_2, ev_X12_holderOf_3, B_X12_holderOf_0, B_X12_holderOf_1, B_X12_holderOf_2, B_X12_holderOf_3, x_const, x_iadd, x_isub, x_imul, x_idiv, x_irem, x_ineg, x_dup, x_dup_x1, x_dup2, x_pop, x_goto, x_ifeq, x_ifne, x_iflt, x_ifge, x_ifgt, x_ifle, x_cmpeq, x_cmpne, x_cmplt, x_cmpge, x_cmpgt, x_cmple, x_null, x_nonnull, x_acmpeq, x_acmpne, x_get, x_put, x_putz, x_ald, x_ast, x_bast, x_zast, x_aast, x_alen, x_obj, x_ret, x_retz, x_vret, x_max, x_min, x_copy, x_i2l, qg_none, qg_inl, qg_inr, qg_ite, xr1, xr0, xrE, xri, xl0, xl1, xl2, xl3, xl4, xl5, xl6, xl7, xl8, xl9, xl10, xs0, xs1, xs2, xs3, xs4, xs5, xs6, xs7, xs8, xs9, xs10, xi0, xi1, xi2, xi3, xi4, xi5, xi6, xi7, xi8, xi9, xi10, xc0, xc1, xc2, xc3, xc4, xc5, xc6, xc7, xv1, xv2, xv3, xv4, xv5, xv6, xv7, dT_le, dF_le, dT_lt, dF_lt, k77, u2, m_ofBranch hK hR, e, ih']
    unfold zHolder
    unfold f_X12_holderOf
    refine qa_fn_eq ?_ (by simp)
    simp (disch := omega) [ev_X12_holderOf_0, ev_X12_holderOf_2, ev_X12_holderOf_3, B_X12_holderOf_0, B_X12_holderOf_1, B_X12_holderOf_2, B_X12_holderOf_3, x_const, x_iadd, x_isub, x_imul, x_idiv, x_irem, x_ineg, x_dup, x_dup_x1, x_dup2, x_pop, x_goto, x_ifeq, x_ifne, x_iflt, x_ifge, x_ifgt, x_ifle, x_cmpeq, x_cmpne, x_cmplt, x_cmpge, x_cmpgt, x_cmple, x_null, x_nonnull, x_acmpeq, x_acmpne, x_get, x_put, x_putz, x_ald, x_ast, x_bast, x_zast, x_aast, x_alen, x_obj, x_ret, x_retz, x_vret, x_max, x_min, x_copy, x_i2l, qg_none, qg_inl, qg_inr, qg_ite, xr1, xr0, xrE, xri, xl0, xl1, xl2, xl3, xl4, xl5, xl6, xl7, xl8, xl9, xl10, xs0, xs1, xs2, xs3, xs4, xs5, xs6, xs7, xs8, xs9, xs10, xi0, xi1, xi2, xi3, xi4, xi5, xi6, xi7, xi8, xi9, xi10, xc0, xc1, xc2, xc3, xc4, xc5, xc6, xc7, xv1, xv2, xv3, xv4, xv5, xv6, xv7, dT_le, dF_le, dT_lt, dF_lt, hp, loop 6 0]
theorem m_readersIn {m : Int → Int → Int} {kd : Int → Nat × Int} {w : Nat × Nat × Nat} {A : zA} (hK : KM kd) (hR : RM m) (hQ : QR A (m 79)) (b : Int) : f_X12_readersIn [(1, 77), (0, b)] (m, kd, w) = some (.inl (some (0, zReaders A b)), (m, kd, w)) := by
  obtain ⟨k77, k78, k79, k80, k81, k82, k83, k84, k85, k86, k87, k88, k89, k90⟩ := id hK
  obtain ⟨r1, r2, r3, r4, r6, r7, r8, r12, r13, r15, r23, r25, r26⟩ := id hR
  have loop : ∀ (n : Nat) (k s : Int), 0 ≤ k → k + n = 6 → 0 ≤ s → s ≤ k → qa_ev P_X12_readersIn 1 [(1, 77), (0, b), (0, s), (0, k)] [] (m, kd, w) = some (.inl (some (0, s + zsf (fun r => if zIn A r b then 1 else 0) k n)), (m, kd, w)) := by
    intro n
    induction n with
    | zero =>
      intro k s h1 h2 h3 h4
      rw [ev_X12_readersIn_1]
      simp (disch := omega) [ev_X12_readersIn_0, ev_X12_readersIn_2, ev_X12_readersIn_3, ev_X12_readersIn_4, B_X12_readersIn_0, B_X12_readersIn_1, B_X12_readersIn_2, B_X12_readersIn_3, B_X12_readersIn_4, x_const, x_iadd, x_isub, x_imul, x_idiv, x_irem, x_ineg, x_dup, x_dup_x1, x_dup2, x_pop, x_goto, x_ifeq, x_ifne, x_iflt, x_ifge, x_ifgt, x_ifle, x_cmpeq, x_cmpne, x_cmplt, x_cmpge, x_cmpgt, x_cmple, x_null, x_nonnull, x_acmpeq, x_acmpne, x_get, x_put, x_putz, x_ald, x_ast, x_bast, x_zast, x_aast, x_alen, x_obj, x_ret, x_retz, x_vret, x_max, x_min, x_copy, x_i2l, qg_none, qg_inl, qg_inr, qg_ite, xr1, xr0, xrE, xri, xl0, xl1, xl2, xl3, xl4, xl5, xl6, xl7, xl8, xl9, xl10, xs0, xs1, xs2, xs3, xs4, xs5, xs6, xs7, xs8, xs9, xs10, xi0, xi1, xi2, xi3, xi4, xi5, xi6, xi7, xi8, xi9, xi10, xc0, xc1, xc2, xc3, xc4, xc5, xc6, xc7, xv1, xv2, xv3, xv4, xv5, xv6, xv7, dT_le, dF_le, dT_lt, dF_lt, zsf]
    | succ n ih =>
      intro k s h1 h2 h3 h4
      have e := m_isIn (w := w) hK hR hQ k b
      rw [ev_X12_readersIn_1]
      simp only [zsf]
      by_cases h : zIn A k b
      · have ih' := ih (k + 1) (s + 1) (by omega) (by omega) (by omega) (by omega)
        rw [if_pos h] at e ⊢
        simp (disch := omega) [ev_X12_readersIn_0, ev_X12_readersIn_2, ev_X12_readersIn_3, ev_X12_readersIn_4, B_X12_readersIn_0, B_X12_readersIn_1, B_X12_readersIn_2, B_X12_readersIn_3, B_X12_readersIn_4, x_const, x_iadd, x_isub, x_imul, x_idiv, x_irem, x_ineg, x_dup, x_dup_x1, x_dup2, x_pop, x_goto, x_ifeq, x_ifne, x_iflt, x_ifge, x_ifgt, x_ifle, x_cmpeq, x_cmpne, x_cmplt, x_cmpge, x_cmpgt, x_cmple, x_null, x_nonnull, x_acmpeq, x_acmpne, x_get, x_put, x_putz, x_ald, x_ast, x_bast, x_zast, x_aast, x_alen, x_obj, x_ret, x_retz, x_vret, x_max, x_min, x_copy, x_i2l, qg_none, qg_inl, qg_inr, qg_ite, xr1, xr0, xrE, xri, xl0, xl1, xl2, xl3, xl4, xl5, xl6, xl7, xl8, xl9, xl10, xs0, xs1, xs2, xs3, xs4, xs5, xs6, xs7, xs8, xs9, xs10, xi0, xi1, xi2, xi3, xi4, xi5, xi6, xi7, xi8, xi9, xi10, xc0, xc1, xc2, xc3, xc4, xc5, xc6, xc7, xv1, xv2, xv3, xv4, xv5, xv6, xv7, dT_le, dF_le, dT_lt, dF_lt, k77, e, ih']
        omega
      · have ih' := ih (k + 1) s (by omega) (by omega) (by omega) (by omega)
        rw [if_neg h] at e ⊢
        simp (disch := omega) [ev_X12_readersIn_0, ev_X12_readersIn_2, ev_X12_readersIn_3, ev_X12_readersIn_4, B_X12_readersIn_0, B_X12_readersIn_1, B_X12_readersIn_2, B_X12_readersIn_3, B_X12_readersIn_4, x_const, x_iadd, x_isub, x_imul, x_idiv, x_irem, x_ineg, x_dup, x_dup_x1, x_dup2, x_pop, x_goto, x_ifeq, x_ifne, x_iflt, x_ifge, x_ifgt, x_ifle, x_cmpeq, x_cmpne, x_cmplt, x_cmpge, x_cmpgt, x_cmple, x_null, x_nonnull, x_acmpeq, x_acmpne, x_get, x_put, x_putz, x_ald, x_ast, x_bast, x_zast, x_aast, x_alen, x_obj, x_ret, x_retz, x_vret, x_max, x_min, x_copy, x_i2l, qg_none, qg_inl, qg_inr, qg_ite, xr1, xr0, xrE, xri, xl0, xl1, xl2, xl3, xl4, xl5, xl6, xl7, xl8, xl9, xl10, xs0, xs1, xs2, xs3, xs4, xs5, xs6, xs7, xs8, xs9, xs10, xi0, xi1, xi2, xi3, xi4, xi5, xi6, xi7, xi8, xi9, xi10, xc0, xc1, xc2, xc3, xc4, xc5, xc6, xc7, xv1, xv2, xv3, xv4, xv5, xv6, xv7, dT_le, dF_le, dT_lt, dF_lt, k77, e, ih']
  unfold zReaders
  unfold f_X12_readersIn
  refine qa_fn_eq ?_ (by simp)
  simp (disch := omega) [ev_X12_readersIn_0, ev_X12_readersIn_2, ev_X12_readersIn_3, ev_X12_readersIn_4, B_X12_readersIn_0, B_X12_readersIn_1, B_X12_readersIn_2, B_X12_readersIn_3, B_X12_readersIn_4, x_const, x_iadd, x_isub, x_imul, x_idiv, x_irem, x_ineg, x_dup, x_dup_x1, x_dup2, x_pop, x_goto, x_ifeq, x_ifne, x_iflt, x_ifge, x_ifgt, x_ifle, x_cmpeq, x_cmpne, x_cmplt, x_cmpge, x_cmpgt, x_cmple, x_null, x_nonnull, x_acmpeq, x_acmpne, x_get, x_put, x_putz, x_ald, x_ast, x_bast, x_zast, x_aast, x_alen, x_obj, x_ret, x_retz, x_vret, x_max, x_min, x_copy, x_i2l, qg_none, qg_inl, qg_inr, qg_ite, xr1, xr0, xrE, xri, xl0, xl1, xl2, xl3, xl4, xl5, xl6, xl7, xl8, xl9, xl10, xs0, xs1, xs2, xs3, xs4, xs5, xs6, xs7, xs8, xs9, xs10, xi0, xi1, xi2, xi3, xi4, xi5, xi6, xi7, xi8, xi9, xi10, xc0, xc1, xc2, xc3, xc4, xc5, xc6, xc7, xv1, xv2, xv3, xv4, xv5, xv6, xv7, dT_le, dF_le, dT_lt, dF_lt, loop 6 0 0]
theorem m_areBehind {m : Int → Int → Int} {kd : Int → Nat × Int} {w : Nat × Nat × Nat} {A : zA} (hK : KM kd) (hR : RM m) (hQ : QR A (m 79)) {b : Int} (hb : zBl A b) : f_X12_areBehind [(1, 77), (0, b)] (m, kd, w) = some (.inl (some (0, if 0 < zReaders A b ∧ zLowest A b = -1 then 1 else 0)), (m, kd, w)) := by
  obtain ⟨k77, k78, k79, k80, k81, k82, k83, k84, k85, k86, k87, k88, k89, k90⟩ := id hK
  obtain ⟨r1, r2, r3, r4, r6, r7, r8, r12, r13, r15, r23, r25, r26⟩ := id hR
  obtain ⟨g0, g1, gC, gI, gB, gJ, gR, gD, gE⟩ := id hQ
  obtain ⟨b1, b2, b3⟩ := id hb
  obtain ⟨u1, u2, u3⟩ := gB b b1 b2 b3
  have loop : ∀ (n : Nat) (k h : Int), 0 ≤ k → k + n = 6 → h = 0 ∨ h = 1 → qa_ev P_X12_areBehind 3 [(1, 77), (0, b), (0, h), (0, k)] [] (m, kd, w) = some (.inl (some (0, if h = 1 ∧ zff (fun r => zLow A r b) k n = -1 then 1 else 0)), (m, kd, w)) := by
    intro n
    induction n with
    | zero =>
      intro k h h1 h2 h3
      rw [ev_X12_areBehind_3]
      rcases h3 with rfl | rfl <;> simp (disch := omega) [ev_X12_areBehind_0, ev_X12_areBehind_1, ev_X12_areBehind_2, ev_X12_areBehind_4, ev_X12_areBehind_5, ev_X12_areBehind_6, ev_X12_areBehind_7, B_X12_areBehind_0, B_X12_areBehind_1, B_X12_areBehind_2, B_X12_areBehind_3, B_X12_areBehind_4, B_X12_areBehind_5, B_X12_areBehind_6, B_X12_areBehind_7, x_const, x_iadd, x_isub, x_imul, x_idiv, x_irem, x_ineg, x_dup, x_dup_x1, x_dup2, x_pop, x_goto, x_ifeq, x_ifne, x_iflt, x_ifge, x_ifgt, x_ifle, x_cmpeq, x_cmpne, x_cmplt, x_cmpge, x_cmpgt, x_cmple, x_null, x_nonnull, x_acmpeq, x_acmpne, x_get, x_put, x_putz, x_ald, x_ast, x_bast, x_zast, x_aast, x_alen, x_obj, x_ret, x_retz, x_vret, x_max, x_min, x_copy, x_i2l, qg_none, qg_inl, qg_inr, qg_ite, xr1, xr0, xrE, xri, xl0, xl1, xl2, xl3, xl4, xl5, xl6, xl7, xl8, xl9, xl10, xs0, xs1, xs2, xs3, xs4, xs5, xs6, xs7, xs8, xs9, xs10, xi0, xi1, xi2, xi3, xi4, xi5, xi6, xi7, xi8, xi9, xi10, xc0, xc1, xc2, xc3, xc4, xc5, xc6, xc7, xv1, xv2, xv3, xv4, xv5, xv6, xv7, dT_le, dF_le, dT_lt, dF_lt, zff]
    | succ n ih =>
      intro k h h1 h2 h3
      have e := m_isIn (w := w) hK hR hQ k b
      rw [ev_X12_areBehind_3]
      rcases h3 with rfl | rfl
      · have ih' := ih (k + 1) 0 (by omega) (by omega) (by omega)
        simp (disch := omega) [ev_X12_areBehind_0, ev_X12_areBehind_1, ev_X12_areBehind_2, ev_X12_areBehind_4, ev_X12_areBehind_5, ev_X12_areBehind_6, ev_X12_areBehind_7, B_X12_areBehind_0, B_X12_areBehind_1, B_X12_areBehind_2, B_X12_areBehind_3, B_X12_areBehind_4, B_X12_areBehind_5, B_X12_areBehind_6, B_X12_areBehind_7, x_const, x_iadd, x_isub, x_imul, x_idiv, x_irem, x_ineg, x_dup, x_dup_x1, x_dup2, x_pop, x_goto, x_ifeq, x_ifne, x_iflt, x_ifge, x_ifgt, x_ifle, x_cmpeq, x_cmpne, x_cmplt, x_cmpge, x_cmpgt, x_cmple, x_null, x_nonnull, x_acmpeq, x_acmpne, x_get, x_put, x_putz, x_ald, x_ast, x_bast, x_zast, x_aast, x_alen, x_obj, x_ret, x_retz, x_vret, x_max, x_min, x_copy, x_i2l, qg_none, qg_inl, qg_inr, qg_ite, xr1, xr0, xrE, xri, xl0, xl1, xl2, xl3, xl4, xl5, xl6, xl7, xl8, xl9, xl10, xs0, xs1, xs2, xs3, xs4, xs5, xs6, xs7, xs8, xs9, xs10, xi0, xi1, xi2, xi3, xi4, xi5, xi6, xi7, xi8, xi9, xi10, xc0, xc1, xc2, xc3, xc4, xc5, xc6, xc7, xv1, xv2, xv3, xv4, xv5, xv6, xv7, dT_le, dF_le, dT_lt, dF_lt, k77, e, ih']
      · by_cases hi : zIn A k b
        · have e2 := gR k 2 hi.1.1 hi.1.2.1 hi.1.2.2 (by decide) (by decide)
          rw [if_pos hi] at e
          by_cases hl : A.2.2.1 k 2 ≤ A.2.1 b 4
          · have ih' := ih (k + 1) 0 (by omega) (by omega) (by omega)
            have ez : zff (fun r => zLow A r b) k (n + 1) = k := if_pos ⟨hi, hl⟩
            simp (disch := omega) [ev_X12_areBehind_0, ev_X12_areBehind_1, ev_X12_areBehind_2, ev_X12_areBehind_4, ev_X12_areBehind_5, ev_X12_areBehind_6, ev_X12_areBehind_7, B_X12_areBehind_0, B_X12_areBehind_1, B_X12_areBehind_2, B_X12_areBehind_3, B_X12_areBehind_4, B_X12_areBehind_5, B_X12_areBehind_6, B_X12_areBehind_7, x_const, x_iadd, x_isub, x_imul, x_idiv, x_irem, x_ineg, x_dup, x_dup_x1, x_dup2, x_pop, x_goto, x_ifeq, x_ifne, x_iflt, x_ifge, x_ifgt, x_ifle, x_cmpeq, x_cmpne, x_cmplt, x_cmpge, x_cmpgt, x_cmple, x_null, x_nonnull, x_acmpeq, x_acmpne, x_get, x_put, x_putz, x_ald, x_ast, x_bast, x_zast, x_aast, x_alen, x_obj, x_ret, x_retz, x_vret, x_max, x_min, x_copy, x_i2l, qg_none, qg_inl, qg_inr, qg_ite, xr1, xr0, xrE, xri, xl0, xl1, xl2, xl3, xl4, xl5, xl6, xl7, xl8, xl9, xl10, xs0, xs1, xs2, xs3, xs4, xs5, xs6, xs7, xs8, xs9, xs10, xi0, xi1, xi2, xi3, xi4, xi5, xi6, xi7, xi8, xi9, xi10, xc0, xc1, xc2, xc3, xc4, xc5, xc6, xc7, xv1, xv2, xv3, xv4, xv5, xv6, xv7, dT_le, dF_le, dT_lt, dF_lt, k77, e, e2, u1, m_ofReader hK hR, m_ofBranch hK hR, hl, ih', ez]
            omega
          · have ih' := ih (k + 1) 1 (by omega) (by omega) (by omega)
            have ez : zff (fun r => zLow A r b) k (n + 1) = zff (fun r => zLow A r b) (k + 1) n := if_neg (fun z => hl z.2)
            simp (disch := omega) [ev_X12_areBehind_0, ev_X12_areBehind_1, ev_X12_areBehind_2, ev_X12_areBehind_4, ev_X12_areBehind_5, ev_X12_areBehind_6, ev_X12_areBehind_7, B_X12_areBehind_0, B_X12_areBehind_1, B_X12_areBehind_2, B_X12_areBehind_3, B_X12_areBehind_4, B_X12_areBehind_5, B_X12_areBehind_6, B_X12_areBehind_7, x_const, x_iadd, x_isub, x_imul, x_idiv, x_irem, x_ineg, x_dup, x_dup_x1, x_dup2, x_pop, x_goto, x_ifeq, x_ifne, x_iflt, x_ifge, x_ifgt, x_ifle, x_cmpeq, x_cmpne, x_cmplt, x_cmpge, x_cmpgt, x_cmple, x_null, x_nonnull, x_acmpeq, x_acmpne, x_get, x_put, x_putz, x_ald, x_ast, x_bast, x_zast, x_aast, x_alen, x_obj, x_ret, x_retz, x_vret, x_max, x_min, x_copy, x_i2l, qg_none, qg_inl, qg_inr, qg_ite, xr1, xr0, xrE, xri, xl0, xl1, xl2, xl3, xl4, xl5, xl6, xl7, xl8, xl9, xl10, xs0, xs1, xs2, xs3, xs4, xs5, xs6, xs7, xs8, xs9, xs10, xi0, xi1, xi2, xi3, xi4, xi5, xi6, xi7, xi8, xi9, xi10, xc0, xc1, xc2, xc3, xc4, xc5, xc6, xc7, xv1, xv2, xv3, xv4, xv5, xv6, xv7, dT_le, dF_le, dT_lt, dF_lt, k77, e, e2, u1, m_ofReader hK hR, m_ofBranch hK hR, hl, ih', ez]
        · have ih' := ih (k + 1) 1 (by omega) (by omega) (by omega)
          rw [if_neg hi] at e
          have ez : zff (fun r => zLow A r b) k (n + 1) = zff (fun r => zLow A r b) (k + 1) n := if_neg (fun z => hi z.1)
          simp (disch := omega) [ev_X12_areBehind_0, ev_X12_areBehind_1, ev_X12_areBehind_2, ev_X12_areBehind_4, ev_X12_areBehind_5, ev_X12_areBehind_6, ev_X12_areBehind_7, B_X12_areBehind_0, B_X12_areBehind_1, B_X12_areBehind_2, B_X12_areBehind_3, B_X12_areBehind_4, B_X12_areBehind_5, B_X12_areBehind_6, B_X12_areBehind_7, x_const, x_iadd, x_isub, x_imul, x_idiv, x_irem, x_ineg, x_dup, x_dup_x1, x_dup2, x_pop, x_goto, x_ifeq, x_ifne, x_iflt, x_ifge, x_ifgt, x_ifle, x_cmpeq, x_cmpne, x_cmplt, x_cmpge, x_cmpgt, x_cmple, x_null, x_nonnull, x_acmpeq, x_acmpne, x_get, x_put, x_putz, x_ald, x_ast, x_bast, x_zast, x_aast, x_alen, x_obj, x_ret, x_retz, x_vret, x_max, x_min, x_copy, x_i2l, qg_none, qg_inl, qg_inr, qg_ite, xr1, xr0, xrE, xri, xl0, xl1, xl2, xl3, xl4, xl5, xl6, xl7, xl8, xl9, xl10, xs0, xs1, xs2, xs3, xs4, xs5, xs6, xs7, xs8, xs9, xs10, xi0, xi1, xi2, xi3, xi4, xi5, xi6, xi7, xi8, xi9, xi10, xc0, xc1, xc2, xc3, xc4, xc5, xc6, xc7, xv1, xv2, xv3, xv4, xv5, xv6, xv7, dT_le, dF_le, dT_lt, dF_lt, k77, e, ih', ez]
  have er := m_readersIn (w := w) hK hR hQ b
  unfold f_X12_areBehind
  refine qa_fn_eq ?_ (by simp)
  have hz := zsf_01 (g := fun r => if zIn A r b then 1 else 0) (fun i => by split <;> decide) 6 0
  by_cases hc : 0 < zReaders A b
  · simp (disch := omega) [ev_X12_areBehind_0, ev_X12_areBehind_1, ev_X12_areBehind_2, ev_X12_areBehind_4, ev_X12_areBehind_5, ev_X12_areBehind_6, ev_X12_areBehind_7, B_X12_areBehind_0, B_X12_areBehind_1, B_X12_areBehind_2, B_X12_areBehind_3, B_X12_areBehind_4, B_X12_areBehind_5, B_X12_areBehind_6, B_X12_areBehind_7, x_const, x_iadd, x_isub, x_imul, x_idiv, x_irem, x_ineg, x_dup, x_dup_x1, x_dup2, x_pop, x_goto, x_ifeq, x_ifne, x_iflt, x_ifge, x_ifgt, x_ifle, x_cmpeq, x_cmpne, x_cmplt, x_cmpge, x_cmpgt, x_cmple, x_null, x_nonnull, x_acmpeq, x_acmpne, x_get, x_put, x_putz, x_ald, x_ast, x_bast, x_zast, x_aast, x_alen, x_obj, x_ret, x_retz, x_vret, x_max, x_min, x_copy, x_i2l, qg_none, qg_inl, qg_inr, qg_ite, xr1, xr0, xrE, xri, xl0, xl1, xl2, xl3, xl4, xl5, xl6, xl7, xl8, xl9, xl10, xs0, xs1, xs2, xs3, xs4, xs5, xs6, xs7, xs8, xs9, xs10, xi0, xi1, xi2, xi3, xi4, xi5, xi6, xi7, xi8, xi9, xi10, xc0, xc1, xc2, xc3, xc4, xc5, xc6, xc7, xv1, xv2, xv3, xv4, xv5, xv6, xv7, dT_le, dF_le, dT_lt, dF_lt, k77, er, hc, loop 6 0 1, zLowest]
  · simp (disch := omega) [ev_X12_areBehind_0, ev_X12_areBehind_1, ev_X12_areBehind_2, ev_X12_areBehind_4, ev_X12_areBehind_5, ev_X12_areBehind_6, ev_X12_areBehind_7, B_X12_areBehind_0, B_X12_areBehind_1, B_X12_areBehind_2, B_X12_areBehind_3, B_X12_areBehind_4, B_X12_areBehind_5, B_X12_areBehind_6, B_X12_areBehind_7, x_const, x_iadd, x_isub, x_imul, x_idiv, x_irem, x_ineg, x_dup, x_dup_x1, x_dup2, x_pop, x_goto, x_ifeq, x_ifne, x_iflt, x_ifge, x_ifgt, x_ifle, x_cmpeq, x_cmpne, x_cmplt, x_cmpge, x_cmpgt, x_cmple, x_null, x_nonnull, x_acmpeq, x_acmpne, x_get, x_put, x_putz, x_ald, x_ast, x_bast, x_zast, x_aast, x_alen, x_obj, x_ret, x_retz, x_vret, x_max, x_min, x_copy, x_i2l, qg_none, qg_inl, qg_inr, qg_ite, xr1, xr0, xrE, xri, xl0, xl1, xl2, xl3, xl4, xl5, xl6, xl7, xl8, xl9, xl10, xs0, xs1, xs2, xs3, xs4, xs5, xs6, xs7, xs8, xs9, xs10, xi0, xi1, xi2, xi3, xi4, xi5, xi6, xi7, xi8, xi9, xi10, xc0, xc1, xc2, xc3, xc4, xc5, xc6, xc7, xv1, xv2, xv3, xv4, xv5, xv6, xv7, dT_le, dF_le, dT_lt, dF_lt, k77, er, hc, loop 6 0 0]
theorem m_causeOf {m : Int → Int → Int} {kd : Int → Nat × Int} {w : Nat × Nat × Nat} {A : zA} (hK : KM kd) (hR : RM m) (hQ : QR A (m 79)) {M : Int} (hW : zW M A) {st : Int → Int} (hS : QS st m) (hs : zS st) {b : Int} (hb : zBl A b) : f_X12_causeOf [(1, 77), (0, b)] (m, kd, w) = some (.inl (some (0, zCause A st b)), (m, kd, w)) := by
  obtain ⟨k77, k78, k79, k80, k81, k82, k83, k84, k85, k86, k87, k88, k89, k90⟩ := id hK
  obtain ⟨r1, r2, r3, r4, r6, r7, r8, r12, r13, r15, r23, r25, r26⟩ := id hR
  obtain ⟨g0, g1, gC, gI, gB, gJ, gR, gD, gE⟩ := id hQ
  obtain ⟨b1, b2, b3⟩ := id hb
  obtain ⟨u1, u2, u3, u4⟩ := gB b b1 b2 b3
  obtain ⟨n1, n2, n3, n4, n5, n6, n7⟩ := hW.bn hb
  have h1 := m_holderOf (w := w) hK hR hQ hW hS hb
  have h2 := m_areBehind (w := w) hK hR hQ hb
  have s0 := hS 0 (by decide) (by decide)
  have s1 := hS 1 (by decide) (by decide)
  have s2 := hS 2 (by decide) (by decide)
  have s6 := hS 6 (by decide) (by decide)
  unfold zCause
  unfold f_X12_causeOf
  refine qa_fn_eq ?_ (by simp)
  by_cases hp : A.2.1 b 5 ≤ A.2.1 b 4
  · have : A.2.1 b 5 - A.2.1 b 4 = 0 := by omega
    simp (disch := omega) [ev_X12_causeOf_0, ev_X12_causeOf_1, ev_X12_causeOf_2, ev_X12_causeOf_3, ev_X12_causeOf_4, ev_X12_causeOf_5, ev_X12_causeOf_6, ev_X12_causeOf_7, ev_X12_causeOf_8, ev_X12_causeOf_9, ev_X12_causeOf_10, B_X12_causeOf_0, B_X12_causeOf_1, B_X12_causeOf_2, B_X12_causeOf_3, B_X12_causeOf_4, B_X12_causeOf_5, B_X12_causeOf_6, B_X12_causeOf_7, B_X12_causeOf_8, B_X12_causeOf_9, B_X12_causeOf_10, x_const, x_iadd, x_isub, x_imul, x_idiv, x_irem, x_ineg, x_dup, x_dup_x1, x_dup2, x_pop, x_goto, x_ifeq, x_ifne, x_iflt, x_ifge, x_ifgt, x_ifle, x_cmpeq, x_cmpne, x_cmplt, x_cmpge, x_cmpgt, x_cmple, x_null, x_nonnull, x_acmpeq, x_acmpne, x_get, x_put, x_putz, x_ald, x_ast, x_bast, x_zast, x_aast, x_alen, x_obj, x_ret, x_retz, x_vret, x_max, x_min, x_copy, x_i2l, qg_none, qg_inl, qg_inr, qg_ite, xr1, xr0, xrE, xri, xl0, xl1, xl2, xl3, xl4, xl5, xl6, xl7, xl8, xl9, xl10, xs0, xs1, xs2, xs3, xs4, xs5, xs6, xs7, xs8, xs9, xs10, xi0, xi1, xi2, xi3, xi4, xi5, xi6, xi7, xi8, xi9, xi10, xc0, xc1, xc2, xc3, xc4, xc5, xc6, xc7, xv1, xv2, xv3, xv4, xv5, xv6, xv7, dT_le, dF_le, dT_lt, dF_lt, k77, u2, this, m_ofBranch hK hR, hp]
  · have h3 := m_timeOf (w := w) hK hR hQ (k := 0) hb (by omega) (by decide) (by omega)
    obtain ⟨q1, q2, q3⟩ := hW.2.2.2.2.2.2.1 b _ b1 b2 b3 (Int.le_refl _) (by omega)
    have tn := hW.tn
    have : ¬ A.2.1 b 5 - A.2.1 b 4 = 0 := by omega
    simp only [Int.add_zero] at h3
    simp (disch := omega) [ev_X12_causeOf_0, ev_X12_causeOf_1, ev_X12_causeOf_2, ev_X12_causeOf_3, ev_X12_causeOf_4, ev_X12_causeOf_5, ev_X12_causeOf_6, ev_X12_causeOf_7, ev_X12_causeOf_8, ev_X12_causeOf_9, ev_X12_causeOf_10, B_X12_causeOf_0, B_X12_causeOf_1, B_X12_causeOf_2, B_X12_causeOf_3, B_X12_causeOf_4, B_X12_causeOf_5, B_X12_causeOf_6, B_X12_causeOf_7, B_X12_causeOf_8, B_X12_causeOf_9, B_X12_causeOf_10, x_const, x_iadd, x_isub, x_imul, x_idiv, x_irem, x_ineg, x_dup, x_dup_x1, x_dup2, x_pop, x_goto, x_ifeq, x_ifne, x_iflt, x_ifge, x_ifgt, x_ifle, x_cmpeq, x_cmpne, x_cmplt, x_cmpge, x_cmpgt, x_cmple, x_null, x_nonnull, x_acmpeq, x_acmpne, x_get, x_put, x_putz, x_ald, x_ast, x_bast, x_zast, x_aast, x_alen, x_obj, x_ret, x_retz, x_vret, x_max, x_min, x_copy, x_i2l, qg_none, qg_inl, qg_inr, qg_ite, xr1, xr0, xrE, xri, xl0, xl1, xl2, xl3, xl4, xl5, xl6, xl7, xl8, xl9, xl10, xs0, xs1, xs2, xs3, xs4, xs5, xs6, xs7, xs8, xs9, xs10, xi0, xi1, xi2, xi3, xi4, xi5, xi6, xi7, xi8, xi9, xi10, xc0, xc1, xc2, xc3, xc4, xc5, xc6, xc7, xv1, xv2, xv3, xv4, xv5, xv6, xv7, dT_le, dF_le, dT_lt, dF_lt, k77, k78, k79, r1, r2, u2, u3, g0, s0, s1, s2, s6, this, m_ofBranch hK hR, hp, h1, h2, h3]
    grind
