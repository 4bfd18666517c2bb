theorem m_isAbove {m : Int → Int → Int} {kd : Int → Nat × Int} {w : Nat × Nat × Nat} {A : zA} (hK : KM kd) (hR : RM m) (hQ : QR A (m 79)) (hT : zT A) {s f : Int} (hs : zBl A s) (hf : zBl A f) : f_X12_isAbove [(1, 77), (0, s), (0, f)] (m, kd, w) = some (.inl (some (0, zab A s 4 f)), (m, kd, w)) := by
  obtain ⟨k77, k78, k79, k80, k81, k82, k83, k84, k85, k86, k87, k88, k89, k90⟩ := id hK
  obtain ⟨r1, r2, r3, r4, r6, r7, r8, r12, r13, r15, r23, r25, r26⟩ := id hR
  obtain ⟨g0, g1, gC, gI, gB, gJ, gR, gD, gE⟩ := id hQ
  obtain ⟨s1, s2, s3⟩ := id hs
  have loop : ∀ (n : Nat) (x : Int), zdep A n x → qa_ev P_X12_isAbove 1 [(1, 77), (0, s), (0, f), (0, x)] [] (m, kd, w) = some (.inl (some (0, zab A s n x)), (m, kd, w)) := by
    intro n
    induction n with
    | zero =>
      intro x h
      have h : x = -1 := h
      subst h
      rw [ev_X12_isAbove_1]
      simp (disch := omega) [ev_X12_isAbove_0, ev_X12_isAbove_2, ev_X12_isAbove_3, ev_X12_isAbove_4, B_X12_isAbove_0, B_X12_isAbove_1, B_X12_isAbove_2, B_X12_isAbove_3, B_X12_isAbove_4, x_const, x_iadd, x_isub, x_imul, x_idiv, x_irem, x_ineg, x_dup, x_dup_x1, x_dup2, x_pop, x_goto, x_ifeq, x_ifne, x_iflt, x_ifge, x_ifgt, x_ifle, x_cmpeq, x_cmpne, x_cmplt, x_cmpge, x_cmpgt, x_cmple, x_null, x_nonnull, x_acmpeq, x_acmpne, x_get, x_put, x_putz, x_ald, x_ast, x_bast, x_zast, x_aast, x_alen, x_obj, x_ret, x_retz, x_vret, x_max, x_min, x_copy, x_i2l, qg_none, qg_inl, qg_inr, qg_ite, xr1, xr0, xrE, xri, xl0, xl1, xl2, xl3, xl4, xl5, xl6, xl7, xl8, xl9, xl10, xs0, xs1, xs2, xs3, xs4, xs5, xs6, xs7, xs8, xs9, xs10, xi0, xi1, xi2, xi3, xi4, xi5, xi6, xi7, xi8, xi9, xi10, xc0, xc1, xc2, xc3, xc4, xc5, xc6, xc7, xv1, xv2, xv3, xv4, xv5, xv6, xv7, dT_le, dF_le, dT_lt, dF_lt, dF_eq, zab]
    | succ n ih =>
      intro x h
      have u : zab A s (n + 1) x = if x = -1 then 0 else if x = s then 1 else zab A s n (A.2.1 x 2) := rfl
      rw [ev_X12_isAbove_1]
      by_cases hx : x = -1
      · rw [if_pos hx] at u
        rw [u, hx]
        simp (disch := omega) [ev_X12_isAbove_0, ev_X12_isAbove_2, ev_X12_isAbove_3, ev_X12_isAbove_4, B_X12_isAbove_0, B_X12_isAbove_1, B_X12_isAbove_2, B_X12_isAbove_3, B_X12_isAbove_4, x_const, x_iadd, x_isub, x_imul, x_idiv, x_irem, x_ineg, x_dup, x_dup_x1, x_dup2, x_pop, x_goto, x_ifeq, x_ifne, x_iflt, x_ifge, x_ifgt, x_ifle, x_cmpeq, x_cmpne, x_cmplt, x_cmpge, x_cmpgt, x_cmple, x_null, x_nonnull, x_acmpeq, x_acmpne, x_get, x_put, x_putz, x_ald, x_ast, x_bast, x_zast, x_aast, x_alen, x_obj, x_ret, x_retz, x_vret, x_max, x_min, x_copy, x_i2l, qg_none, qg_inl, qg_inr, qg_ite, xr1, xr0, xrE, xri, xl0, xl1, xl2, xl3, xl4, xl5, xl6, xl7, xl8, xl9, xl10, xs0, xs1, xs2, xs3, xs4, xs5, xs6, xs7, xs8, xs9, xs10, xi0, xi1, xi2, xi3, xi4, xi5, xi6, xi7, xi8, xi9, xi10, xc0, xc1, xc2, xc3, xc4, xc5, xc6, xc7, xv1, xv2, xv3, xv4, xv5, xv6, xv7, dT_le, dF_le, dT_lt, dF_lt, dF_eq]
      · rw [if_neg hx] at u
        rcases h with h | ⟨hb, h⟩
        · exact absurd h hx
        · by_cases e : x = s
          · rw [if_pos e] at u
            rw [u, e]
            have : ¬ s = -1 := by omega
            simp (disch := omega) [ev_X12_isAbove_0, ev_X12_isAbove_2, ev_X12_isAbove_3, ev_X12_isAbove_4, B_X12_isAbove_0, B_X12_isAbove_1, B_X12_isAbove_2, B_X12_isAbove_3, B_X12_isAbove_4, x_const, x_iadd, x_isub, x_imul, x_idiv, x_irem, x_ineg, x_dup, x_dup_x1, x_dup2, x_pop, x_goto, x_ifeq, x_ifne, x_iflt, x_ifge, x_ifgt, x_ifle, x_cmpeq, x_cmpne, x_cmplt, x_cmpge, x_cmpgt, x_cmple, x_null, x_nonnull, x_acmpeq, x_acmpne, x_get, x_put, x_putz, x_ald, x_ast, x_bast, x_zast, x_aast, x_alen, x_obj, x_ret, x_retz, x_vret, x_max, x_min, x_copy, x_i2l, qg_none, qg_inl, qg_inr, qg_ite, xr1, xr0, xrE, xri, xl0, xl1, xl2, xl3, xl4, xl5, xl6, xl7, xl8, xl9, xl10, xs0, xs1, xs2, xs3, xs4, xs5, xs6, xs7, xs8, xs9, xs10, xi0, xi1, xi2, xi3, xi4, xi5, xi6, xi7, xi8, xi9, xi10, xc0, xc1, xc2, xc3, xc4, xc5, xc6, xc7, xv1, xv2, xv3, xv4, xv5, xv6, xv7, dT_le, dF_le, dT_lt, dF_lt, this]
          · rw [if_neg e] at u
            rw [u]
            have u4 := (gB x hb.1 hb.2.1 hb.2.2).2.2.2.1
            obtain ⟨x1, x2, x3⟩ := id hb
            have ih' := ih _ h
            simp (disch := omega) [ev_X12_isAbove_0, ev_X12_isAbove_2, ev_X12_isAbove_3, ev_X12_isAbove_4, B_X12_isAbove_0, B_X12_isAbove_1, B_X12_isAbove_2, B_X12_isAbove_3, B_X12_isAbove_4, x_const, x_iadd, x_isub, x_imul, x_idiv, x_irem, x_ineg, x_dup, x_dup_x1, x_dup2, x_pop, x_goto, x_ifeq, x_ifne, x_iflt, x_ifge, x_ifgt, x_ifle, x_cmpeq, x_cmpne, x_cmplt, x_cmpge, x_cmpgt, x_cmple, x_null, x_nonnull, x_acmpeq, x_acmpne, x_get, x_put, x_putz, x_ald, x_ast, x_bast, x_zast, x_aast, x_alen, x_obj, x_ret, x_retz, x_vret, x_max, x_min, x_copy, x_i2l, qg_none, qg_inl, qg_inr, qg_ite, xr1, xr0, xrE, xri, xl0, xl1, xl2, xl3, xl4, xl5, xl6, xl7, xl8, xl9, xl10, xs0, xs1, xs2, xs3, xs4, xs5, xs6, xs7, xs8, xs9, xs10, xi0, xi1, xi2, xi3, xi4, xi5, xi6, xi7, xi8, xi9, xi10, xc0, xc1, xc2, xc3, xc4, xc5, xc6, xc7, xv1, xv2, xv3, xv4, xv5, xv6, xv7, dT_le, dF_le, dT_lt, dF_lt, k77, m_ofBranch hK hR, hx, e, u4, ih']
  unfold f_X12_isAbove
  refine qa_fn_eq ?_ (by simp)
  simp (disch := omega) [ev_X12_isAbove_0, ev_X12_isAbove_2, ev_X12_isAbove_3, ev_X12_isAbove_4, B_X12_isAbove_0, B_X12_isAbove_1, B_X12_isAbove_2, B_X12_isAbove_3, B_X12_isAbove_4, x_const, x_iadd, x_isub, x_imul, x_idiv, x_irem, x_ineg, x_dup, x_dup_x1, x_dup2, x_pop, x_goto, x_ifeq, x_ifne, x_iflt, x_ifge, x_ifgt, x_ifle, x_cmpeq, x_cmpne, x_cmplt, x_cmpge, x_cmpgt, x_cmple, x_null, x_nonnull, x_acmpeq, x_acmpne, x_get, x_put, x_putz, x_ald, x_ast, x_bast, x_zast, x_aast, x_alen, x_obj, x_ret, x_retz, x_vret, x_max, x_min, x_copy, x_i2l, qg_none, qg_inl, qg_inr, qg_ite, xr1, xr0, xrE, xri, xl0, xl1, xl2, xl3, xl4, xl5, xl6, xl7, xl8, xl9, xl10, xs0, xs1, xs2, xs3, xs4, xs5, xs6, xs7, xs8, xs9, xs10, xi0, xi1, xi2, xi3, xi4, xi5, xi6, xi7, xi8, xi9, xi10, xc0, xc1, xc2, xc3, xc4, xc5, xc6, xc7, xv1, xv2, xv3, xv4, xv5, xv6, xv7, dT_le, dF_le, dT_lt, dF_lt, loop 4 f (zdep_4 hT hf)]
theorem m_commonOf {m : Int → Int → Int} {kd : Int → Nat × Int} {w : Nat × Nat × Nat} {A : zA} (hK : KM kd) (hR : RM m) (hQ : QR A (m 79)) {M : Int} (hW : zW M A) (hT : zT A) {o f : Int} (ho : zBl A o) (hf : zBl A f) : f_X12_commonOf [(1, 77), (0, f), (0, o)] (m, kd, w) = some (.inl (some (0, zcommon A f o)), (m, kd, w)) := by
  obtain ⟨k77, k78, k79, k80, k81, k82, k83, k84, k85, k86, k87, k88, k89, k90⟩ := id hK
  obtain ⟨r1, r2, r3, r4, r6, r7, r8, r12, r13, r15, r23, r25, r26⟩ := id hR
  obtain ⟨g0, g1, gC, gI, gB, gJ, gR, gD, gE⟩ := id hQ
  obtain ⟨s1, s2, s3⟩ := id ho
  obtain ⟨f1, f2, f3⟩ := id hf
  have hbn := hW.bn hf
  have hEn := m_endOf (w := w) hK hR hQ hf ⟨hbn.1, hbn.2.1, hbn.2.2.1⟩
  unfold zcommon
  by_cases e : f = o
  · subst e
    rw [if_pos rfl]
    unfold f_X12_commonOf
    refine qa_fn_eq ?_ (by simp)
    simp (disch := omega) [ev_X12_commonOf_0, ev_X12_commonOf_1, ev_X12_commonOf_3, ev_X12_commonOf_4, ev_X12_commonOf_5, ev_X12_commonOf_6, ev_X12_commonOf_8, ev_X12_commonOf_9, ev_X12_commonOf_10, ev_X12_commonOf_11, B_X12_commonOf_0, B_X12_commonOf_1, B_X12_commonOf_2, B_X12_commonOf_3, B_X12_commonOf_4, B_X12_commonOf_5, B_X12_commonOf_6, B_X12_commonOf_7, B_X12_commonOf_8, B_X12_commonOf_9, B_X12_commonOf_10, B_X12_commonOf_11, x_const, x_iadd, x_isub, x_imul, x_idiv, x_irem, x_ineg, x_dup, x_dup_x1, x_dup2, x_pop, x_goto, x_ifeq, x_ifne, x_iflt, x_ifge, x_ifgt, x_ifle, x_cmpeq, x_cmpne, x_cmplt, x_cmpge, x_cmpgt, x_cmple, x_null, x_nonnull, x_acmpeq, x_acmpne, x_get, x_put, x_putz, x_ald, x_ast, x_bast, x_zast, x_aast, x_alen, x_obj, x_ret, x_retz, x_vret, x_max, x_min, x_copy, x_i2l, qg_none, qg_inl, qg_inr, qg_ite, xr1, xr0, xrE, xri, xl0, xl1, xl2, xl3, xl4, xl5, xl6, xl7, xl8, xl9, xl10, xs0, xs1, xs2, xs3, xs4, xs5, xs6, xs7, xs8, xs9, xs10, xi0, xi1, xi2, xi3, xi4, xi5, xi6, xi7, xi8, xi9, xi10, xc0, xc1, xc2, xc3, xc4, xc5, xc6, xc7, xv1, xv2, xv3, xv4, xv5, xv6, xv7, dT_le, dF_le, dT_lt, dF_lt, k77, hEn]
  · rw [if_neg e]
    have hd := zdep_4 hT hf
    have hm := zmeet_ok hT ho 4 f hd (by omega)
    have hup := zmeet_up hT ho 4 f hd (by omega)
    have loop2 : ∀ (n : Nat) (x le fi ℓ : Int) (l6 : qV), zBl A x → zdep A n x → ((fi = 1 ∧ ℓ = 1073741824) ∨ (fi = 0 ∧ le = ℓ ∧ ℓ < 1073741824)) → ∃ le' fi', qa_ev P_X12_commonOf 2 [(1, 77), (0, f), (0, o), (0, x), (0, le), (0, fi), l6] [] (m, kd, w) = qa_ev P_X12_commonOf 6 [(1, 77), (0, f), (0, o), (0, zmeet A o n x), (0, le'), (0, fi'), l6] [] (m, kd, w) ∧ ((fi' = 1 ∧ zlf A (zmeet A o n x) n x ℓ = 1073741824) ∨ (fi' = 0 ∧ le' = zlf A (zmeet A o n x) n x ℓ ∧ zlf A (zmeet A o n x) n x ℓ < 1073741824)) ∧ (x ≠ zmeet A o n x → fi' = 0) := by
      intro n
      induction n with
      | zero =>
        intro x le fi ℓ l6 h1 h2 h3
        exfalso
        have := h1.1
        have : x = -1 := h2
        omega
      | succ n ih =>
        intro x le fi ℓ l6 h1 h2 h3
        obtain ⟨x1, x2, x3⟩ := id h1
        have hxn : x ≠ -1 := by omega
        have u : zmeet A o (n + 1) x = if zab A x 4 o = 1 then x else zmeet A o n (A.2.1 x 2) := rfl
        have uz : ∀ t, zlf A t (n + 1) x ℓ = if x = t then ℓ else zlf A t n (A.2.1 x 2) (if A.2.1 x 3 < ℓ then A.2.1 x 3 else ℓ) := fun t => rfl
        rcases h2 with h2 | ⟨-, h2⟩
        · exact absurd h2 hxn
        have hw := m_isAbove (w := w) hK hR hQ hT h1 ho
        rw [ev_X12_commonOf_2]
        rcases zab_01 A x 4 o with ea | ea
        · rw [if_neg (by omega)] at u
          rw [u]
          rw [ea] at hw
          rcases zpar hT h1 with h | h
          · exfalso
            rw [h.1] at ea
            have := zab_root hT 4 o (zdep_4 hT ho) (by omega)
            omega
          · have hbx := hW.bn h1
            obtain ⟨u1, u2, u3, u4, u5, u6⟩ := gB x x1 x2 x3
            have hmx := zmeet_ok hT ho n (A.2.1 x 2) h2 (by have := h.2.1.1; omega)
            have hne : x ≠ zmeet A o n (A.2.1 x 2) := fun z => by rw [← z] at hmx; omega
            rw [uz, if_neg hne]
            rcases h3 with ⟨q1, q2⟩ | ⟨q1, q2, q3⟩
            · subst q1
              rw [if_pos (by omega)]
              obtain ⟨le', fi', i1, i2, i3⟩ := ih (A.2.1 x 2) (A.2.1 x 3) 0 (A.2.1 x 3) l6 h.2.1 h2 (Or.inr ⟨rfl, rfl, by omega⟩)
              refine ⟨le', fi', ?_, i2, fun _ => ?_⟩
              · simp (disch := omega) [ev_X12_commonOf_0, ev_X12_commonOf_1, ev_X12_commonOf_3, ev_X12_commonOf_4, ev_X12_commonOf_5, ev_X12_commonOf_8, ev_X12_commonOf_9, ev_X12_commonOf_10, ev_X12_commonOf_11, B_X12_commonOf_0, B_X12_commonOf_1, B_X12_commonOf_2, B_X12_commonOf_3, B_X12_commonOf_4, B_X12_commonOf_5, B_X12_commonOf_6, B_X12_commonOf_7, B_X12_commonOf_8, B_X12_commonOf_9, B_X12_commonOf_10, B_X12_commonOf_11, x_const, x_iadd, x_isub, x_imul, x_idiv, x_irem, x_ineg, x_dup, x_dup_x1, x_dup2, x_pop, x_goto, x_ifeq, x_ifne, x_iflt, x_ifge, x_ifgt, x_ifle, x_cmpeq, x_cmpne, x_cmplt, x_cmpge, x_cmpgt, x_cmple, x_null, x_nonnull, x_acmpeq, x_acmpne, x_get, x_put, x_putz, x_ald, x_ast, x_bast, x_zast, x_aast, x_alen, x_obj, x_ret, x_retz, x_vret, x_max, x_min, x_copy, x_i2l, qg_none, qg_inl, qg_inr, qg_ite, xr1, xr0, xrE, xri, xl0, xl1, xl2, xl3, xl4, xl5, xl6, xl7, xl8, xl9, xl10, xs0, xs1, xs2, xs3, xs4, xs5, xs6, xs7, xs8, xs9, xs10, xi0, xi1, xi2, xi3, xi4, xi5, xi6, xi7, xi8, xi9, xi10, xc0, xc1, xc2, xc3, xc4, xc5, xc6, xc7, xv1, xv2, xv3, xv4, xv5, xv6, xv7, dT_le, dF_le, dT_lt, dF_lt, k77, m_ofBranch hK hR, hw, u5, u4, i1]
              · rcases i2 with i2 | i2
                · exfalso
                  have := zlf_le A (zmeet A o n (A.2.1 x 2)) n (A.2.1 x 2) (A.2.1 x 3)
                  omega
                · exact i2.1
            · subst q1
              subst q2
              by_cases c : A.2.1 x 3 < le
              · rw [if_pos c]
                obtain ⟨le', fi', i1, i2, i3⟩ := ih (A.2.1 x 2) (A.2.1 x 3) 0 (A.2.1 x 3) l6 h.2.1 h2 (Or.inr ⟨rfl, rfl, by omega⟩)
                refine ⟨le', fi', ?_, i2, fun _ => ?_⟩
                · simp (disch := omega) [ev_X12_commonOf_0, ev_X12_commonOf_1, ev_X12_commonOf_3, ev_X12_commonOf_4, ev_X12_commonOf_5, ev_X12_commonOf_8, ev_X12_commonOf_9, ev_X12_commonOf_10, ev_X12_commonOf_11, B_X12_commonOf_0, B_X12_commonOf_1, B_X12_commonOf_2, B_X12_commonOf_3, B_X12_commonOf_4, B_X12_commonOf_5, B_X12_commonOf_6, B_X12_commonOf_7, B_X12_commonOf_8, B_X12_commonOf_9, B_X12_commonOf_10, B_X12_commonOf_11, x_const, x_iadd, x_isub, x_imul, x_idiv, x_irem, x_ineg, x_dup, x_dup_x1, x_dup2, x_pop, x_goto, x_ifeq, x_ifne, x_iflt, x_ifge, x_ifgt, x_ifle, x_cmpeq, x_cmpne, x_cmplt, x_cmpge, x_cmpgt, x_cmple, x_null, x_nonnull, x_acmpeq, x_acmpne, x_get, x_put, x_putz, x_ald, x_ast, x_bast, x_zast, x_aast, x_alen, x_obj, x_ret, x_retz, x_vret, x_max, x_min, x_copy, x_i2l, qg_none, qg_inl, qg_inr, qg_ite, xr1, xr0, xrE, xri, xl0, xl1, xl2, xl3, xl4, xl5, xl6, xl7, xl8, xl9, xl10, xs0, xs1, xs2, xs3, xs4, xs5, xs6, xs7, xs8, xs9, xs10, xi0, xi1, xi2, xi3, xi4, xi5, xi6, xi7, xi8, xi9, xi10, xc0, xc1, xc2, xc3, xc4, xc5, xc6, xc7, xv1, xv2, xv3, xv4, xv5, xv6, xv7, dT_le, dF_le, dT_lt, dF_lt, k77, m_ofBranch hK hR, hw, u5, u4, c, i1]
                · rcases i2 with i2 | i2
                  · exfalso
                    have := zlf_le A (zmeet A o n (A.2.1 x 2)) n (A.2.1 x 2) (A.2.1 x 3)
                    omega
                  · exact i2.1
              · rw [if_neg c]
                obtain ⟨le', fi', i1, i2, i3⟩ := ih (A.2.1 x 2) le 0 le l6 h.2.1 h2 (Or.inr ⟨rfl, rfl, by omega⟩)
                refine ⟨le', fi', ?_, i2, fun _ => ?_⟩
                · simp (disch := omega) [ev_X12_commonOf_0, ev_X12_commonOf_1, ev_X12_commonOf_3, ev_X12_commonOf_4, ev_X12_commonOf_5, ev_X12_commonOf_8, ev_X12_commonOf_9, ev_X12_commonOf_10, ev_X12_commonOf_11, B_X12_commonOf_0, B_X12_commonOf_1, B_X12_commonOf_2, B_X12_commonOf_3, B_X12_commonOf_4, B_X12_commonOf_5, B_X12_commonOf_6, B_X12_commonOf_7, B_X12_commonOf_8, B_X12_commonOf_9, B_X12_commonOf_10, B_X12_commonOf_11, x_const, x_iadd, x_isub, x_imul, x_idiv, x_irem, x_ineg, x_dup, x_dup_x1, x_dup2, x_pop, x_goto, x_ifeq, x_ifne, x_iflt, x_ifge, x_ifgt, x_ifle, x_cmpeq, x_cmpne, x_cmplt, x_cmpge, x_cmpgt, x_cmple, x_null, x_nonnull, x_acmpeq, x_acmpne, x_get, x_put, x_putz, x_ald, x_ast, x_bast, x_zast, x_aast, x_alen, x_obj, x_ret, x_retz, x_vret, x_max, x_min, x_copy, x_i2l, qg_none, qg_inl, qg_inr, qg_ite, xr1, xr0, xrE, xri, xl0, xl1, xl2, xl3, xl4, xl5, xl6, xl7, xl8, xl9, xl10, xs0, xs1, xs2, xs3, xs4, xs5, xs6, xs7, xs8, xs9, xs10, xi0, xi1, xi2, xi3, xi4, xi5, xi6, xi7, xi8, xi9, xi10, xc0, xc1, xc2, xc3, xc4, xc5, xc6, xc7, xv1, xv2, xv3, xv4, xv5, xv6, xv7, dT_le, dF_le, dT_lt, dF_lt, k77, m_ofBranch hK hR, hw, u5, u4, c, i1]
                · rcases i2 with i2 | i2
                  · exfalso
                    have := zlf_le A (zmeet A o n (A.2.1 x 2)) n (A.2.1 x 2) le
                    omega
                  · exact i2.1
        · rw [if_pos ea] at u
          rw [u]
          rw [ea] at hw
          refine ⟨le, fi, ?_, ?_, fun z => absurd rfl z⟩
          · simp (disch := omega) [B_X12_commonOf_2, x_const, x_iadd, x_isub, x_imul, x_idiv, x_irem, x_ineg, x_dup, x_dup_x1, x_dup2, x_pop, x_goto, x_ifeq, x_ifne, x_iflt, x_ifge, x_ifgt, x_ifle, x_cmpeq, x_cmpne, x_cmplt, x_cmpge, x_cmpgt, x_cmple, x_null, x_nonnull, x_acmpeq, x_acmpne, x_get, x_put, x_putz, x_ald, x_ast, x_bast, x_zast, x_aast, x_alen, x_obj, x_ret, x_retz, x_vret, x_max, x_min, x_copy, x_i2l, qg_none, qg_inl, qg_inr, qg_ite, xr1, xr0, xrE, xri, xl0, xl1, xl2, xl3, xl4, xl5, xl6, xl7, xl8, xl9, xl10, xs0, xs1, xs2, xs3, xs4, xs5, xs6, xs7, xs8, xs9, xs10, xi0, xi1, xi2, xi3, xi4, xi5, xi6, xi7, xi8, xi9, xi10, xc0, xc1, xc2, xc3, xc4, xc5, xc6, xc7, xv1, xv2, xv3, xv4, xv5, xv6, xv7, dT_le, dF_le, dT_lt, dF_lt, k77, hw]
          · rw [uz, if_pos rfl]
            omega
    have loop7 : ∀ (n : Nat) (t x le fi ℓ : Int), zBl A t → zBl A x → zdep A n x → zab A t n x = 1 → ((fi = 1 ∧ ℓ = 1073741824) ∨ (fi = 0 ∧ le = ℓ ∧ ℓ < 1073741824)) → (fi = 0 ∨ x ≠ t) → qa_ev P_X12_commonOf 7 [(1, 77), (0, f), (0, o), (0, t), (0, le), (0, fi), (0, x)] [] (m, kd, w) = some (.inl (some (0, zlf A t n x ℓ)), (m, kd, w)) := by
      intro n
      induction n with
      | zero =>
        intro t x le fi ℓ ht h1 h2 _ h3 h4
        exfalso
        have := h1.1
        have : x = -1 := h2
        omega
      | succ n ih =>
        intro t x le fi ℓ ht h1 h2 h5 h3 h4
        obtain ⟨x1, x2, x3⟩ := id h1
        have hxn : x ≠ -1 := by omega
        have uz : zlf A t (n + 1) x ℓ = if x = t then ℓ else zlf A t n (A.2.1 x 2) (if A.2.1 x 3 < ℓ then A.2.1 x 3 else ℓ) := rfl
        have u5' : zab A t (n + 1) x = if x = -1 then 0 else if x = t then 1 else zab A t n (A.2.1 x 2) := rfl
        rw [if_neg hxn] at u5'
        rcases h2 with h2 | ⟨-, h2⟩
        · exact absurd h2 hxn
        rw [ev_X12_commonOf_7]
        by_cases ex : x = t
        · rw [if_pos ex] at uz
          have : fi = 0 ∧ le = ℓ := by omega
          obtain ⟨rfl, rfl⟩ := this
          rw [uz, ex]
          simp (disch := omega) [ev_X12_commonOf_0, ev_X12_commonOf_1, ev_X12_commonOf_3, ev_X12_commonOf_4, ev_X12_commonOf_5, ev_X12_commonOf_6, ev_X12_commonOf_8, ev_X12_commonOf_9, ev_X12_commonOf_10, ev_X12_commonOf_11, B_X12_commonOf_0, B_X12_commonOf_1, B_X12_commonOf_2, B_X12_commonOf_3, B_X12_commonOf_4, B_X12_commonOf_5, B_X12_commonOf_6, B_X12_commonOf_7, B_X12_commonOf_8, B_X12_commonOf_9, B_X12_commonOf_10, B_X12_commonOf_11, x_const, x_iadd, x_isub, x_imul, x_idiv, x_irem, x_ineg, x_dup, x_dup_x1, x_dup2, x_pop, x_goto, x_ifeq, x_ifne, x_iflt, x_ifge, x_ifgt, x_ifle, x_cmpeq, x_cmpne, x_cmplt, x_cmpge, x_cmpgt, x_cmple, x_null, x_nonnull, x_acmpeq, x_acmpne, x_get, x_put, x_putz, x_ald, x_ast, x_bast, x_zast, x_aast, x_alen, x_obj, x_ret, x_retz, x_vret, x_max, x_min, x_copy, x_i2l, qg_none, qg_inl, qg_inr, qg_ite, xr1, xr0, xrE, xri, xl0, xl1, xl2, xl3, xl4, xl5, xl6, xl7, xl8, xl9, xl10, xs0, xs1, xs2, xs3, xs4, xs5, xs6, xs7, xs8, xs9, xs10, xi0, xi1, xi2, xi3, xi4, xi5, xi6, xi7, xi8, xi9, xi10, xc0, xc1, xc2, xc3, xc4, xc5, xc6, xc7, xv1, xv2, xv3, xv4, xv5, xv6, xv7, dT_le, dF_le, dT_lt, dF_lt]
        · rw [if_neg ex] at uz u5'
          rw [u5'] at h5
          rw [uz]
          rcases zpar hT h1 with h | h
          · exfalso
            rw [h.2.1] at h5
            cases n with
            | zero => exact absurd h5 (by simp [zab])
            | succ n => exact absurd h5 (by simp [zab])
          · have hbx := hW.bn h1
            obtain ⟨u1, u2, u3, u4, u5, u6⟩ := gB x x1 x2 x3
            rcases h3 with ⟨q1, q2⟩ | ⟨q1, q2, q3⟩
            · subst q1
              rw [if_pos (by omega)]
              have ih' := ih t (A.2.1 x 2) (A.2.1 x 3) 0 (A.2.1 x 3) ht h.2.1 h2 h5 (Or.inr ⟨rfl, rfl, by omega⟩) (Or.inl rfl)
              simp (disch := omega) [ev_X12_commonOf_0, ev_X12_commonOf_1, ev_X12_commonOf_3, ev_X12_commonOf_4, ev_X12_commonOf_5, ev_X12_commonOf_6, ev_X12_commonOf_8, ev_X12_commonOf_9, ev_X12_commonOf_10, ev_X12_commonOf_11, B_X12_commonOf_0, B_X12_commonOf_1, B_X12_commonOf_2, B_X12_commonOf_3, B_X12_commonOf_4, B_X12_commonOf_5, B_X12_commonOf_6, B_X12_commonOf_7, B_X12_commonOf_8, B_X12_commonOf_9, B_X12_commonOf_10, B_X12_commonOf_11, x_const, x_iadd, x_isub, x_imul, x_idiv, x_irem, x_ineg, x_dup, x_dup_x1, x_dup2, x_pop, x_goto, x_ifeq, x_ifne, x_iflt, x_ifge, x_ifgt, x_ifle, x_cmpeq, x_cmpne, x_cmplt, x_cmpge, x_cmpgt, x_cmple, x_null, x_nonnull, x_acmpeq, x_acmpne, x_get, x_put, x_putz, x_ald, x_ast, x_bast, x_zast, x_aast, x_alen, x_obj, x_ret, x_retz, x_vret, x_max, x_min, x_copy, x_i2l, qg_none, qg_inl, qg_inr, qg_ite, xr1, xr0, xrE, xri, xl0, xl1, xl2, xl3, xl4, xl5, xl6, xl7, xl8, xl9, xl10, xs0, xs1, xs2, xs3, xs4, xs5, xs6, xs7, xs8, xs9, xs10, xi0, xi1, xi2, xi3, xi4, xi5, xi6, xi7, xi8, xi9, xi10, xc0, xc1, xc2, xc3, xc4, xc5, xc6, xc7, xv1, xv2, xv3, xv4, xv5, xv6, xv7, dT_le, dF_le, dT_lt, dF_lt, k77, m_ofBranch hK hR, ex, u5, u4, ih']
            · subst q1
              subst q2
              by_cases c : A.2.1 x 3 < le
              · rw [if_pos c]
                have ih' := ih t (A.2.1 x 2) (A.2.1 x 3) 0 (A.2.1 x 3) ht h.2.1 h2 h5 (Or.inr ⟨rfl, rfl, by omega⟩) (Or.inl rfl)
                simp (disch := omega) [ev_X12_commonOf_0, ev_X12_commonOf_1, ev_X12_commonOf_3, ev_X12_commonOf_4, ev_X12_commonOf_5, ev_X12_commonOf_6, ev_X12_commonOf_8, ev_X12_commonOf_9, ev_X12_commonOf_10, ev_X12_commonOf_11, B_X12_commonOf_0, B_X12_commonOf_1, B_X12_commonOf_2, B_X12_commonOf_3, B_X12_commonOf_4, B_X12_commonOf_5, B_X12_commonOf_6, B_X12_commonOf_7, B_X12_commonOf_8, B_X12_commonOf_9, B_X12_commonOf_10, B_X12_commonOf_11, x_const, x_iadd, x_isub, x_imul, x_idiv, x_irem, x_ineg, x_dup, x_dup_x1, x_dup2, x_pop, x_goto, x_ifeq, x_ifne, x_iflt, x_ifge, x_ifgt, x_ifle, x_cmpeq, x_cmpne, x_cmplt, x_cmpge, x_cmpgt, x_cmple, x_null, x_nonnull, x_acmpeq, x_acmpne, x_get, x_put, x_putz, x_ald, x_ast, x_bast, x_zast, x_aast, x_alen, x_obj, x_ret, x_retz, x_vret, x_max, x_min, x_copy, x_i2l, qg_none, qg_inl, qg_inr, qg_ite, xr1, xr0, xrE, xri, xl0, xl1, xl2, xl3, xl4, xl5, xl6, xl7, xl8, xl9, xl10, xs0, xs1, xs2, xs3, xs4, xs5, xs6, xs7, xs8, xs9, xs10, xi0, xi1, xi2, xi3, xi4, xi5, xi6, xi7, xi8, xi9, xi10, xc0, xc1, xc2, xc3, xc4, xc5, xc6, xc7, xv1, xv2, xv3, xv4, xv5, xv6, xv7, dT_le, dF_le, dT_lt, dF_lt, k77, m_ofBranch hK hR, ex, u5, u4, c, ih']
              · rw [if_neg c]
                have ih' := ih t (A.2.1 x 2) le 0 le ht h.2.1 h2 h5 (Or.inr ⟨rfl, rfl, by omega⟩) (Or.inl rfl)
                simp (disch := omega) [ev_X12_commonOf_0, ev_X12_commonOf_1, ev_X12_commonOf_3, ev_X12_commonOf_4, ev_X12_commonOf_5, ev_X12_commonOf_6, ev_X12_commonOf_8, ev_X12_commonOf_9, ev_X12_commonOf_10, ev_X12_commonOf_11, B_X12_commonOf_0, B_X12_commonOf_1, B_X12_commonOf_2, B_X12_commonOf_3, B_X12_commonOf_4, B_X12_commonOf_5, B_X12_commonOf_6, B_X12_commonOf_7, B_X12_commonOf_8, B_X12_commonOf_9, B_X12_commonOf_10, B_X12_commonOf_11, x_const, x_iadd, x_isub, x_imul, x_idiv, x_irem, x_ineg, x_dup, x_dup_x1, x_dup2, x_pop, x_goto, x_ifeq, x_ifne, x_iflt, x_ifge, x_ifgt, x_ifle, x_cmpeq, x_cmpne, x_cmplt, x_cmpge, x_cmpgt, x_cmple, x_null, x_nonnull, x_acmpeq, x_acmpne, x_get, x_put, x_putz, x_ald, x_ast, x_bast, x_zast, x_aast, x_alen, x_obj, x_ret, x_retz, x_vret, x_max, x_min, x_copy, x_i2l, qg_none, qg_inl, qg_inr, qg_ite, xr1, xr0, xrE, xri, xl0, xl1, xl2, xl3, xl4, xl5, xl6, xl7, xl8, xl9, xl10, xs0, xs1, xs2, xs3, xs4, xs5, xs6, xs7, xs8, xs9, xs10, xi0, xi1, xi2, xi3, xi4, xi5, xi6, xi7, xi8, xi9, xi10, xc0, xc1, xc2, xc3, xc4, xc5, xc6, xc7, xv1, xv2, xv3, xv4, xv5, xv6, xv7, dT_le, dF_le, dT_lt, dF_lt, k77, m_ofBranch hK hR, ex, u5, u4, c, ih']
    obtain ⟨le', fi', i1, i2, i3⟩ := loop2 4 f (A.2.1 f 5) 1 1073741824 (9, 0) hf hd (Or.inl ⟨rfl, rfl⟩)
    have i7 := loop7 4 (zmeet A o 4 f) o le' fi' (zlf A (zmeet A o 4 f) 4 f 1073741824) hm.1 ho (zdep_4 hT ho) hm.2 i2 (by
      by_cases z : f = zmeet A o 4 f
      · right
        rw [← z]
        exact fun z' => e z'.symm
      · exact Or.inl (i3 z))
    have hz := zlf_min A (zmeet A o 4 f) 4 o 1073741824 (zlf A (zmeet A o 4 f) 4 f 1073741824) (zlf_le _ _ _ _ _)
    have hend : zlf A (zmeet A o 4 f) 4 o (zlf A (zmeet A o 4 f) 4 f 1073741824) = if zlf A (zmeet A o 4 f) 4 o 1073741824 < zlf A (zmeet A o 4 f) 4 f 1073741824 then zlf A (zmeet A o 4 f) 4 o 1073741824 else zlf A (zmeet A o 4 f) 4 f 1073741824 := by
      rw [hz]
      repeat' split
      all_goals omega
    rw [hend] at i7
    unfold f_X12_commonOf
    refine qa_fn_eq ?_ (by simp)
    simp (disch := omega) [ev_X12_commonOf_0, ev_X12_commonOf_1, ev_X12_commonOf_3, ev_X12_commonOf_4, ev_X12_commonOf_5, ev_X12_commonOf_8, ev_X12_commonOf_9, ev_X12_commonOf_10, ev_X12_commonOf_11, B_X12_commonOf_0, B_X12_commonOf_1, B_X12_commonOf_2, B_X12_commonOf_3, B_X12_commonOf_4, B_X12_commonOf_5, B_X12_commonOf_6, B_X12_commonOf_7, B_X12_commonOf_8, B_X12_commonOf_9, B_X12_commonOf_10, B_X12_commonOf_11, x_const, x_iadd, x_isub, x_imul, x_idiv, x_irem, x_ineg, x_dup, x_dup_x1, x_dup2, x_pop, x_goto, x_ifeq, x_ifne, x_iflt, x_ifge, x_ifgt, x_ifle, x_cmpeq, x_cmpne, x_cmplt, x_cmpge, x_cmpgt, x_cmple, x_null, x_nonnull, x_acmpeq, x_acmpne, x_get, x_put, x_putz, x_ald, x_ast, x_bast, x_zast, x_aast, x_alen, x_obj, x_ret, x_retz, x_vret, x_max, x_min, x_copy, x_i2l, qg_none, qg_inl, qg_inr, qg_ite, xr1, xr0, xrE, xri, xl0, xl1, xl2, xl3, xl4, xl5, xl6, xl7, xl8, xl9, xl10, xs0, xs1, xs2, xs3, xs4, xs5, xs6, xs7, xs8, xs9, xs10, xi0, xi1, xi2, xi3, xi4, xi5, xi6, xi7, xi8, xi9, xi10, xc0, xc1, xc2, xc3, xc4, xc5, xc6, xc7, xv1, xv2, xv3, xv4, xv5, xv6, xv7, dT_le, dF_le, dT_lt, dF_lt, k77, hEn, e, i1]
    rw [ev_X12_commonOf_6]
    simp (disch := omega) [ev_X12_commonOf_0, ev_X12_commonOf_1, ev_X12_commonOf_3, ev_X12_commonOf_4, ev_X12_commonOf_5, ev_X12_commonOf_8, ev_X12_commonOf_9, ev_X12_commonOf_10, ev_X12_commonOf_11, B_X12_commonOf_0, B_X12_commonOf_1, B_X12_commonOf_2, B_X12_commonOf_3, B_X12_commonOf_4, B_X12_commonOf_5, B_X12_commonOf_6, B_X12_commonOf_7, B_X12_commonOf_8, B_X12_commonOf_9, B_X12_commonOf_10, B_X12_commonOf_11, x_const, x_iadd, x_isub, x_imul, x_idiv, x_irem, x_ineg, x_dup, x_dup_x1, x_dup2, x_pop, x_goto, x_ifeq, x_ifne, x_iflt, x_ifge, x_ifgt, x_ifle, x_cmpeq, x_cmpne, x_cmplt, x_cmpge, x_cmpgt, x_cmple, x_null, x_nonnull, x_acmpeq, x_acmpne, x_get, x_put, x_putz, x_ald, x_ast, x_bast, x_zast, x_aast, x_alen, x_obj, x_ret, x_retz, x_vret, x_max, x_min, x_copy, x_i2l, qg_none, qg_inl, qg_inr, qg_ite, xr1, xr0, xrE, xri, xl0, xl1, xl2, xl3, xl4, xl5, xl6, xl7, xl8, xl9, xl10, xs0, xs1, xs2, xs3, xs4, xs5, xs6, xs7, xs8, xs9, xs10, xi0, xi1, xi2, xi3, xi4, xi5, xi6, xi7, xi8, xi9, xi10, xc0, xc1, xc2, xc3, xc4, xc5, xc6, xc7, xv1, xv2, xv3, xv4, xv5, xv6, xv7, dT_le, dF_le, dT_lt, dF_lt, i7]
theorem cq_common {m : Int → Int → Int} {kd : Int → Nat × Int} {w : Nat × Nat × Nat} {A : zA} {S : Int} (hK : KS kd S) (hC : RC A m kd S) {M : Int} (hW : zW M A) (hx : kd 0 = (14, 0)) (hn : m 0 1 = S) (hT : zT A) (hS : 0 ≤ S) (b o : Int) : f_X11_common [(1, 0), (0, b), (0, o)] (m, kd, w) = zAns 1 2 (zA1 (zBl A b ∧ zBl A o) (zcommon A b o)) m kd w := by
  have ne1 := c_needBranch (w := w) hK hC hW hx hn b
  have ne2 := c_needBranch (w := w) hK hC hW hx hn o
  obtain ⟨⟨f2, f3, f4, fV, fW, f0, f8, f9, f7⟩, e0, e1, eC, eB, eR, eD, eL, eE⟩ := id hC
  obtain ⟨kN, kS, kC, kV, kW, kB, kE, kR, kD, kL⟩ := id hK
  by_cases h1 : zBl A b
  · rw [if_pos h1] at ne1
    by_cases h2 : zBl A o
    · rw [if_pos h2] at ne2
      rw [zA1_v ⟨h1, h2⟩, zAns_0]
      have ra := c_alikeUpTo (w := w) hK hC hW hT hS h2 h1
      unfold f_X11_common
      refine qa_fn_eq ?_ (by simp)
      simp (disch := omega) [ev_X11_common_0, B_X11_common_0, x_const, x_iadd, x_isub, x_imul, x_idiv, x_irem, x_ineg, x_dup, x_dup_x1, x_dup2, x_pop, x_goto, x_ifeq, x_ifne, x_iflt, x_ifge, x_ifgt, x_ifle, x_cmpeq, x_cmpne, x_cmplt, x_cmpge, x_cmpgt, x_cmple, x_null, x_nonnull, x_acmpeq, x_acmpne, x_get, x_put, x_putz, x_ald, x_ast, x_bast, x_zast, x_aast, x_alen, x_obj, x_ret, x_retz, x_vret, x_max, x_min, x_copy, x_i2l, qg_none, qg_inl, qg_inr, qg_ite, xr1, xr0, xrE, xri, xl0, xl1, xl2, xl3, xl4, xl5, xl6, xl7, xl8, xl9, xl10, xs0, xs1, xs2, xs3, xs4, xs5, xs6, xs7, xs8, xs9, xs10, xi0, xi1, xi2, xi3, xi4, xi5, xi6, xi7, xi8, xi9, xi10, xc0, xc1, xc2, xc3, xc4, xc5, xc6, xc7, xv1, xv2, xv3, xv4, xv5, xv6, xv7, dT_le, dF_le, dT_lt, dF_lt, hx, hn, kS, ne1, ne2, ra]
    · rw [if_neg h2] at ne2
      rw [zA1_1 (fun z => h2 z.2), zAns_1]
      unfold f_X11_common
      refine qa_fn_eq ?_ (by simp)
      simp (disch := omega) [ev_X11_common_0, B_X11_common_0, x_const, x_iadd, x_isub, x_imul, x_idiv, x_irem, x_ineg, x_dup, x_dup_x1, x_dup2, x_pop, x_goto, x_ifeq, x_ifne, x_iflt, x_ifge, x_ifgt, x_ifle, x_cmpeq, x_cmpne, x_cmplt, x_cmpge, x_cmpgt, x_cmple, x_null, x_nonnull, x_acmpeq, x_acmpne, x_get, x_put, x_putz, x_ald, x_ast, x_bast, x_zast, x_aast, x_alen, x_obj, x_ret, x_retz, x_vret, x_max, x_min, x_copy, x_i2l, qg_none, qg_inl, qg_inr, qg_ite, xr1, xr0, xrE, xri, xl0, xl1, xl2, xl3, xl4, xl5, xl6, xl7, xl8, xl9, xl10, xs0, xs1, xs2, xs3, xs4, xs5, xs6, xs7, xs8, xs9, xs10, xi0, xi1, xi2, xi3, xi4, xi5, xi6, xi7, xi8, xi9, xi10, xc0, xc1, xc2, xc3, xc4, xc5, xc6, xc7, xv1, xv2, xv3, xv4, xv5, xv6, xv7, dT_le, dF_le, dT_lt, dF_lt, hx, hn, kS, ne1, ne2]
  · rw [if_neg h1] at ne1
    rw [zA1_1 (fun z => h1 z.1), zAns_1]
    unfold f_X11_common
    refine qa_fn_eq ?_ (by simp)
    simp (disch := omega) [ev_X11_common_0, B_X11_common_0, x_const, x_iadd, x_isub, x_imul, x_idiv, x_irem, x_ineg, x_dup, x_dup_x1, x_dup2, x_pop, x_goto, x_ifeq, x_ifne, x_iflt, x_ifge, x_ifgt, x_ifle, x_cmpeq, x_cmpne, x_cmplt, x_cmpge, x_cmpgt, x_cmple, x_null, x_nonnull, x_acmpeq, x_acmpne, x_get, x_put, x_putz, x_ald, x_ast, x_bast, x_zast, x_aast, x_alen, x_obj, x_ret, x_retz, x_vret, x_max, x_min, x_copy, x_i2l, qg_none, qg_inl, qg_inr, qg_ite, xr1, xr0, xrE, xri, xl0, xl1, xl2, xl3, xl4, xl5, xl6, xl7, xl8, xl9, xl10, xs0, xs1, xs2, xs3, xs4, xs5, xs6, xs7, xs8, xs9, xs10, xi0, xi1, xi2, xi3, xi4, xi5, xi6, xi7, xi8, xi9, xi10, xc0, xc1, xc2, xc3, xc4, xc5, xc6, xc7, xv1, xv2, xv3, xv4, xv5, xv6, xv7, dT_le, dF_le, dT_lt, dF_lt, hx, hn, kS, ne1]
theorem mq_common {m : Int → Int → Int} {kd : Int → Nat × Int} {w : Nat × Nat × Nat} {A : zA} (hK : KM kd) (hR : RM m) (hQ : QR A (m 79)) {M : Int} (hW : zW M A) (hT : zT A) (b o : Int) : f_X12_common [(1, 77), (0, b), (0, o)] (m, kd, w) = mAns (zA1 (zBl A b ∧ zBl A o) (zcommon A b o)) m kd w := by
  have n1 := m_isBranch (w := w) hK hR hQ b
  have n2 := m_isBranch (w := w) hK hR hQ o
  have hRt : ∀ t, RM (qa_up m 77 0 t) := fun t => by rw [RM_t]; exact hR
  have hQt : ∀ t, QR A ((qa_up m 77 0 t) 79) := fun t => hQ
  obtain ⟨k77, k78, k79, k80, k81, k82, k83, k84, k85, k86, k87, k88, k89, k90⟩ := id hK
  obtain ⟨r1, r2, r3, r4, r6, r7, r8, r12, r13, r15, r23, r25, r26⟩ := id hR
  by_cases h1 : zBl A b
  · rw [if_pos h1] at n1
    by_cases h2 : zBl A o
    · rw [if_pos h2] at n2
      rw [zA1_v ⟨h1, h2⟩, mAns_e]
      have ra := m_commonOf (w := w) hK (hRt 0) (hQt 0) hW hT h2 h1
      unfold f_X12_common
      refine qa_fn_eq ?_ (by simp)
      simp (disch := omega) [ev_X12_common_0, ev_X12_common_1, ev_X12_common_2, ev_X12_common_3, ev_X12_common_4, B_X12_common_0, B_X12_common_1, B_X12_common_2, B_X12_common_3, B_X12_common_4, x_const, x_iadd, x_isub, x_imul, x_idiv, x_irem, x_ineg, x_dup, x_dup_x1, x_dup2, x_pop, x_goto, x_ifeq, x_ifne, x_iflt, x_ifge, x_ifgt, x_ifle, x_cmpeq, x_cmpne, x_cmplt, x_cmpge, x_cmpgt, x_cmple, x_null, x_nonnull, x_acmpeq, x_acmpne, x_get, x_put, x_putz, x_ald, x_ast, x_bast, x_zast, x_aast, x_alen, x_obj, x_ret, x_retz, x_vret, x_max, x_min, x_copy, x_i2l, qg_none, qg_inl, qg_inr, qg_ite, xr1, xr0, xrE, xri, xl0, xl1, xl2, xl3, xl4, xl5, xl6, xl7, xl8, xl9, xl10, xs0, xs1, xs2, xs3, xs4, xs5, xs6, xs7, xs8, xs9, xs10, xi0, xi1, xi2, xi3, xi4, xi5, xi6, xi7, xi8, xi9, xi10, xc0, xc1, xc2, xc3, xc4, xc5, xc6, xc7, xv1, xv2, xv3, xv4, xv5, xv6, xv7, dT_le, dF_le, dT_lt, dF_lt, dT_eq, dF_eq, qa_up_hit, qa_up_no, k77, n1, n2, ra]
    · rw [if_neg h2] at n2
      rw [zA1_1 (fun z => h2 z.2), mAns_e]
      unfold f_X12_common
      refine qa_fn_eq ?_ (by simp)
      simp (disch := omega) [ev_X12_common_0, ev_X12_common_1, ev_X12_common_2, ev_X12_common_3, ev_X12_common_4, B_X12_common_0, B_X12_common_1, B_X12_common_2, B_X12_common_3, B_X12_common_4, x_const, x_iadd, x_isub, x_imul, x_idiv, x_irem, x_ineg, x_dup, x_dup_x1, x_dup2, x_pop, x_goto, x_ifeq, x_ifne, x_iflt, x_ifge, x_ifgt, x_ifle, x_cmpeq, x_cmpne, x_cmplt, x_cmpge, x_cmpgt, x_cmple, x_null, x_nonnull, x_acmpeq, x_acmpne, x_get, x_put, x_putz, x_ald, x_ast, x_bast, x_zast, x_aast, x_alen, x_obj, x_ret, x_retz, x_vret, x_max, x_min, x_copy, x_i2l, qg_none, qg_inl, qg_inr, qg_ite, xr1, xr0, xrE, xri, xl0, xl1, xl2, xl3, xl4, xl5, xl6, xl7, xl8, xl9, xl10, xs0, xs1, xs2, xs3, xs4, xs5, xs6, xs7, xs8, xs9, xs10, xi0, xi1, xi2, xi3, xi4, xi5, xi6, xi7, xi8, xi9, xi10, xc0, xc1, xc2, xc3, xc4, xc5, xc6, xc7, xv1, xv2, xv3, xv4, xv5, xv6, xv7, dT_le, dF_le, dT_lt, dF_lt, dT_eq, dF_eq, qa_up_hit, qa_up_no, k77, n1, n2]
  · rw [if_neg h1] at n1
    rw [zA1_1 (fun z => h1 z.1), mAns_e]
    unfold f_X12_common
    refine qa_fn_eq ?_ (by simp)
    simp (disch := omega) [ev_X12_common_0, ev_X12_common_1, ev_X12_common_2, ev_X12_common_3, ev_X12_common_4, B_X12_common_0, B_X12_common_1, B_X12_common_2, B_X12_common_3, B_X12_common_4, x_const, x_iadd, x_isub, x_imul, x_idiv, x_irem, x_ineg, x_dup, x_dup_x1, x_dup2, x_pop, x_goto, x_ifeq, x_ifne, x_iflt, x_ifge, x_ifgt, x_ifle, x_cmpeq, x_cmpne, x_cmplt, x_cmpge, x_cmpgt, x_cmple, x_null, x_nonnull, x_acmpeq, x_acmpne, x_get, x_put, x_putz, x_ald, x_ast, x_bast, x_zast, x_aast, x_alen, x_obj, x_ret, x_retz, x_vret, x_max, x_min, x_copy, x_i2l, qg_none, qg_inl, qg_inr, qg_ite, xr1, xr0, xrE, xri, xl0, xl1, xl2, xl3, xl4, xl5, xl6, xl7, xl8, xl9, xl10, xs0, xs1, xs2, xs3, xs4, xs5, xs6, xs7, xs8, xs9, xs10, xi0, xi1, xi2, xi3, xi4, xi5, xi6, xi7, xi8, xi9, xi10, xc0, xc1, xc2, xc3, xc4, xc5, xc6, xc7, xv1, xv2, xv3, xv4, xv5, xv6, xv7, dT_le, dF_le, dT_lt, dF_lt, dT_eq, dF_eq, qa_up_hit, qa_up_no, k77, n1]
