def vEntry (A : zA) (b p what : Int) : Int := if what = 4 then zNotBehind A b p else A.2.2.2 b p what
theorem cq_entry {m : Int → Int → Int} {kd : Int → Nat × Int} {w : Nat × Nat × Nat} {A : zA} {S : Int} (hK : KS kd S) (hC : RC A m kd S) {M : Int} (hW : zW M A) (hx : kd 0 = (14, 0)) (hn : m 0 1 = S) (b p what : Int) : f_X11_entry [(1, 0), (0, b), (0, p), (0, what)] (m, kd, w) = zAns 1 2 (zA2 (zBl A b ∧ A.2.1 b 4 ≤ p ∧ p < A.2.1 b 5) (0 ≤ what ∧ what ≤ 4) (vEntry A b p what)) m kd w := by
  have ne := c_needBranch (w := w) hK hC hW hx hn b
  have rg := c_needRange (m := m) (kd := kd) (w := w) what 0 4
  obtain ⟨⟨f2, f3, f4, fV, fW, f0, f8, f9, f7⟩, e0, e1, eC, eB, eR, eD, eL, eE⟩ := id hC
  obtain ⟨kN, kS, kC, kV, kW, kB, kE, kR, kD, kL⟩ := id hK
  by_cases hb : zBl A b
  · rw [if_pos hb] at ne
    obtain ⟨e, he1, he2, he3⟩ := c_entryAt (w := w) (p := p) hK hC hW hb
    by_cases hp : A.2.1 b 4 ≤ p ∧ p < A.2.1 b 5
    · obtain ⟨q1, q2, q3⟩ := he2 hp
      have h : zBl A b ∧ A.2.1 b 4 ≤ p ∧ p < A.2.1 b 5 := ⟨hb, hp⟩
      by_cases h2 : 0 ≤ what ∧ what ≤ 4
      · rw [if_pos h2] at rg
        rw [zA2_v h h2, zAns_0]
        have ra := c_readersNotBehind (w := w) (p := p) hK hC hW ⟨hb.1, hb.2.1⟩
        obtain ⟨b1, b2, b3⟩ := id hb
        have hw : what = 0 ∨ what = 1 ∨ what = 2 ∨ what = 3 ∨ what = 4 := by omega
        rcases hw with rfl | rfl | rfl | rfl | rfl <;>
        · unfold f_X11_entry
          refine qa_fn_eq ?_ (by simp)
          simp (disch := omega) [ev_X11_entry_0, ev_X11_entry_1, ev_X11_entry_2, ev_X11_entry_3, ev_X11_entry_4, ev_X11_entry_5, ev_X11_entry_6, B_X11_entry_0, B_X11_entry_1, B_X11_entry_2, B_X11_entry_3, B_X11_entry_4, B_X11_entry_5, B_X11_entry_6, x_const, x_iadd, x_isub, x_imul, x_idiv, x_irem, x_ineg, x_dup, x_dup_x1, x_dup2, x_pop, x_goto, x_ifeq, x_ifne, x_iflt, x_ifge, x_ifgt, x_ifle, x_cmpeq, x_cmpne, x_cmplt, x_cmpge, x_cmpgt, x_cmple, x_null, x_nonnull, x_acmpeq, x_acmpne, x_get, x_put, x_putz, x_ald, x_ast, x_bast, x_zast, x_aast, x_alen, x_obj, x_ret, x_retz, x_vret, x_max, x_min, x_copy, x_i2l, qg_none, qg_inl, qg_inr, qg_ite, xr1, xr0, xrE, xri, xl0, xl1, xl2, xl3, xl4, xl5, xl6, xl7, xl8, xl9, xl10, xs0, xs1, xs2, xs3, xs4, xs5, xs6, xs7, xs8, xs9, xs10, xi0, xi1, xi2, xi3, xi4, xi5, xi6, xi7, xi8, xi9, xi10, xc0, xc1, xc2, xc3, xc4, xc5, xc6, xc7, xv1, xv2, xv3, xv4, xv5, xv6, xv7, dT_le, dF_le, dT_lt, dF_lt, f2, f3, f4, fV, fW, f0, f8, f9, f7, e0, e1, eC, eB, eR, kS, kC, kV, kW, kB, kE, kR, kD, kL, hx, hn, x_switch, zsw, ne, rg, he1, q1, q2, q3, ra, vEntry]
      · rw [if_neg h2] at rg
        rw [zA2_2 h h2, zAns_2]
        unfold f_X11_entry
        refine qa_fn_eq ?_ (by simp)
        simp (disch := omega) [ev_X11_entry_0, ev_X11_entry_1, ev_X11_entry_2, ev_X11_entry_3, ev_X11_entry_4, ev_X11_entry_5, ev_X11_entry_6, B_X11_entry_0, B_X11_entry_1, B_X11_entry_2, B_X11_entry_3, B_X11_entry_4, B_X11_entry_5, B_X11_entry_6, x_const, x_iadd, x_isub, x_imul, x_idiv, x_irem, x_ineg, x_dup, x_dup_x1, x_dup2, x_pop, x_goto, x_ifeq, x_ifne, x_iflt, x_ifge, x_ifgt, x_ifle, x_cmpeq, x_cmpne, x_cmplt, x_cmpge, x_cmpgt, x_cmple, x_null, x_nonnull, x_acmpeq, x_acmpne, x_get, x_put, x_putz, x_ald, x_ast, x_bast, x_zast, x_aast, x_alen, x_obj, x_ret, x_retz, x_vret, x_max, x_min, x_copy, x_i2l, qg_none, qg_inl, qg_inr, qg_ite, xr1, xr0, xrE, xri, xl0, xl1, xl2, xl3, xl4, xl5, xl6, xl7, xl8, xl9, xl10, xs0, xs1, xs2, xs3, xs4, xs5, xs6, xs7, xs8, xs9, xs10, xi0, xi1, xi2, xi3, xi4, xi5, xi6, xi7, xi8, xi9, xi10, xc0, xc1, xc2, xc3, xc4, xc5, xc6, xc7, xv1, xv2, xv3, xv4, xv5, xv6, xv7, dT_le, dF_le, dT_lt, dF_lt, f2, f3, f4, fV, fW, f0, f8, f9, f7, e0, e1, eC, eB, eR, kS, kC, kV, kW, kB, kE, kR, kD, kL, hx, hn, ne, rg, he1, q1, q2]
    · rw [zA2_1 (fun z => hp z.2), zAns_1]
      have := he3 hp
      subst this
      unfold f_X11_entry
      refine qa_fn_eq ?_ (by simp)
      simp (disch := omega) [ev_X11_entry_0, ev_X11_entry_1, ev_X11_entry_2, ev_X11_entry_3, ev_X11_entry_4, ev_X11_entry_5, ev_X11_entry_6, B_X11_entry_0, B_X11_entry_1, B_X11_entry_2, B_X11_entry_3, B_X11_entry_4, B_X11_entry_5, B_X11_entry_6, x_const, x_iadd, x_isub, x_imul, x_idiv, x_irem, x_ineg, x_dup, x_dup_x1, x_dup2, x_pop, x_goto, x_ifeq, x_ifne, x_iflt, x_ifge, x_ifgt, x_ifle, x_cmpeq, x_cmpne, x_cmplt, x_cmpge, x_cmpgt, x_cmple, x_null, x_nonnull, x_acmpeq, x_acmpne, x_get, x_put, x_putz, x_ald, x_ast, x_bast, x_zast, x_aast, x_alen, x_obj, x_ret, x_retz, x_vret, x_max, x_min, x_copy, x_i2l, qg_none, qg_inl, qg_inr, qg_ite, xr1, xr0, xrE, xri, xl0, xl1, xl2, xl3, xl4, xl5, xl6, xl7, xl8, xl9, xl10, xs0, xs1, xs2, xs3, xs4, xs5, xs6, xs7, xs8, xs9, xs10, xi0, xi1, xi2, xi3, xi4, xi5, xi6, xi7, xi8, xi9, xi10, xc0, xc1, xc2, xc3, xc4, xc5, xc6, xc7, xv1, xv2, xv3, xv4, xv5, xv6, xv7, dT_le, dF_le, dT_lt, dF_lt, f2, f3, f4, fV, fW, f0, f8, f9, f7, e0, e1, eC, eB, eR, kS, kC, kV, kW, kB, kE, kR, kD, kL, hx, hn, ne, he1, x_thr]
  · rw [if_neg hb] at ne
    rw [zA2_1 (fun z => hb z.1), zAns_1]
    unfold f_X11_entry
    refine qa_fn_eq ?_ (by simp)
    simp (disch := omega) [ev_X11_entry_0, ev_X11_entry_1, ev_X11_entry_2, ev_X11_entry_3, ev_X11_entry_4, ev_X11_entry_5, ev_X11_entry_6, B_X11_entry_0, B_X11_entry_1, B_X11_entry_2, B_X11_entry_3, B_X11_entry_4, B_X11_entry_5, B_X11_entry_6, x_const, x_iadd, x_isub, x_imul, x_idiv, x_irem, x_ineg, x_dup, x_dup_x1, x_dup2, x_pop, x_goto, x_ifeq, x_ifne, x_iflt, x_ifge, x_ifgt, x_ifle, x_cmpeq, x_cmpne, x_cmplt, x_cmpge, x_cmpgt, x_cmple, x_null, x_nonnull, x_acmpeq, x_acmpne, x_get, x_put, x_putz, x_ald, x_ast, x_bast, x_zast, x_aast, x_alen, x_obj, x_ret, x_retz, x_vret, x_max, x_min, x_copy, x_i2l, qg_none, qg_inl, qg_inr, qg_ite, xr1, xr0, xrE, xri, xl0, xl1, xl2, xl3, xl4, xl5, xl6, xl7, xl8, xl9, xl10, xs0, xs1, xs2, xs3, xs4, xs5, xs6, xs7, xs8, xs9, xs10, xi0, xi1, xi2, xi3, xi4, xi5, xi6, xi7, xi8, xi9, xi10, xc0, xc1, xc2, xc3, xc4, xc5, xc6, xc7, xv1, xv2, xv3, xv4, xv5, xv6, xv7, dT_le, dF_le, dT_lt, dF_lt, f2, f3, f4, fV, fW, f0, f8, f9, f7, e0, e1, eC, eB, eR, kS, kC, kV, kW, kB, kE, kR, kD, kL, hx, hn, ne]
theorem mq_entry {m : Int → Int → Int} {kd : Int → Nat × Int} {w : Nat × Nat × Nat} {A : zA} (hK : KM kd) (hR : RM m) (hQ : QR A (m 79)) {M : Int} (hW : zW M A) (b p what : Int) : f_X12_entry [(1, 77), (0, b), (0, p), (0, what)] (m, kd, w) = mAns (zA2 (zBl A b ∧ A.2.1 b 4 ≤ p ∧ p < A.2.1 b 5) (0 ≤ what ∧ what ≤ 4) (vEntry A b p what)) m kd w := by
  have ni := m_isBranch (w := w) hK hR hQ b
  have rg := m_in (m := m) (kd := kd) (w := w) what 0 4
  have hRt : ∀ t, RM (qa_up m 77 0 t) := fun t => by rw [RM_t]; exact hR
  have hQt : ∀ t, QR A ((qa_up m 77 0 t) 79) := fun t => hQ
  obtain ⟨k77, k78, k79, k80, k81, k82, k83, k84, k85, k86, k87, k88, k89, k90⟩ := id hK
  obtain ⟨r1, r2, r3, r4, r6, r7, r8, r12, r13, r15, r23, r25, r26⟩ := id hR
  obtain ⟨g0, g1, gC, gI, gB, gJ, gR, gD, gE⟩ := id hQ
  by_cases hb : zBl A b
  · rw [if_pos hb] at ni
    have hbn := hW.bn hb
    obtain ⟨b1, b2, b3⟩ := id hb
    obtain ⟨u1, u2, u3⟩ := gB b b1 b2 b3
    have rE := m_endOf (w := w) hK hR hQ hb ⟨hbn.1, hbn.2.1, hbn.2.2.1⟩
    have rp := m_in (m := m) (kd := kd) (w := w) p (A.2.1 b 4) (A.2.1 b 5 - 1)
    by_cases hp : A.2.1 b 4 ≤ p ∧ p < A.2.1 b 5
    · rw [if_pos (by omega)] at rp
      have h : zBl A b ∧ A.2.1 b 4 ≤ p ∧ p < A.2.1 b 5 := ⟨hb, hp⟩
      by_cases h2 : 0 ≤ what ∧ what ≤ 4
      · rw [if_pos h2] at rg
        rw [zA2_v h h2, mAns_e]
        have he := hW.2.2.2.2.2.2.1 b p b1 b2 b3 hp.1 hp.2
        have ep : A.2.1 b 4 + (p - A.2.1 b 4) = p := by omega
        have ra := m_notBehind (w := w) hK (hRt 0) (hQt 0) b p
        have r0 := m_timeOf (w := w) hK (hRt 0) (hQt 0) (k := p - A.2.1 b 4) hb (by omega) (by omega) (by omega)
        have ra1 := m_keyOf (w := w) hK (hRt 0) (hQt 0) (k := p - A.2.1 b 4) hb (by omega) (by omega) (by omega) (by rw [ep]; exact he)
        have ra2 := m_sizeOf (w := w) hK (hRt 0) (hQt 0) (k := p - A.2.1 b 4) hb (by omega) (by omega) (by omega) (by rw [ep]; exact he)
        have ra3 := m_valueOf (w := w) hK (hRt 0) (hQt 0) (k := p - A.2.1 b 4) hb (by omega) (by omega) (by omega) (by rw [ep]; exact he)
        rw [ep] at r0 ra1 ra2 ra3
        have hw : what = 0 ∨ what = 1 ∨ what = 2 ∨ what = 3 ∨ what = 4 := by omega
        rcases hw with rfl | rfl | rfl | rfl | rfl <;>
        · unfold f_X12_entry
          refine qa_fn_eq ?_ (by simp)
          simp (disch := omega) [ev_X12_entry_0, ev_X12_entry_1, ev_X12_entry_2, ev_X12_entry_3, ev_X12_entry_4, ev_X12_entry_5, ev_X12_entry_6, ev_X12_entry_7, ev_X12_entry_8, ev_X12_entry_9, ev_X12_entry_10, ev_X12_entry_11, B_X12_entry_0, B_X12_entry_1, B_X12_entry_2, B_X12_entry_3, B_X12_entry_4, B_X12_entry_5, B_X12_entry_6, B_X12_entry_7, B_X12_entry_8, B_X12_entry_9, B_X12_entry_10, B_X12_entry_11, x_const, x_iadd, x_isub, x_imul, x_idiv, x_irem, x_ineg, x_dup, x_dup_x1, x_dup2, x_pop, x_goto, x_ifeq, x_ifne, x_iflt, x_ifge, x_ifgt, x_ifle, x_cmpeq, x_cmpne, x_cmplt, x_cmpge, x_cmpgt, x_cmple, x_null, x_nonnull, x_acmpeq, x_acmpne, x_get, x_put, x_putz, x_ald, x_ast, x_bast, x_zast, x_aast, x_alen, x_obj, x_ret, x_retz, x_vret, x_max, x_min, x_copy, x_i2l, qg_none, qg_inl, qg_inr, qg_ite, xr1, xr0, xrE, xri, xl0, xl1, xl2, xl3, xl4, xl5, xl6, xl7, xl8, xl9, xl10, xs0, xs1, xs2, xs3, xs4, xs5, xs6, xs7, xs8, xs9, xs10, xi0, xi1, xi2, xi3, xi4, xi5, xi6, xi7, xi8, xi9, xi10, xc0, xc1, xc2, xc3, xc4, xc5, xc6, xc7, xv1, xv2, xv3, xv4, xv5, xv6, xv7, dT_le, dF_le, dT_lt, dF_lt, dT_eq, dF_eq, qa_up_hit, qa_up_no, k77, k79, r2, x_switch, zsw, ni, rg, rE, rp, m_ofBranch hK hR, m_ofBranch hK (hRt 0), u1, r0, ra1, ra2, ra3, ra, vEntry]
      · rw [if_neg h2] at rg
        rw [zA2_2 h h2, mAns_e]
        unfold f_X12_entry
        refine qa_fn_eq ?_ (by simp)
        simp (disch := omega) [ev_X12_entry_0, ev_X12_entry_1, ev_X12_entry_2, ev_X12_entry_3, ev_X12_entry_4, ev_X12_entry_5, ev_X12_entry_6, ev_X12_entry_7, ev_X12_entry_8, ev_X12_entry_9, ev_X12_entry_10, ev_X12_entry_11, B_X12_entry_0, B_X12_entry_1, B_X12_entry_2, B_X12_entry_3, B_X12_entry_4, B_X12_entry_5, B_X12_entry_6, B_X12_entry_7, B_X12_entry_8, B_X12_entry_9, B_X12_entry_10, B_X12_entry_11, x_const, x_iadd, x_isub, x_imul, x_idiv, x_irem, x_ineg, x_dup, x_dup_x1, x_dup2, x_pop, x_goto, x_ifeq, x_ifne, x_iflt, x_ifge, x_ifgt, x_ifle, x_cmpeq, x_cmpne, x_cmplt, x_cmpge, x_cmpgt, x_cmple, x_null, x_nonnull, x_acmpeq, x_acmpne, x_get, x_put, x_putz, x_ald, x_ast, x_bast, x_zast, x_aast, x_alen, x_obj, x_ret, x_retz, x_vret, x_max, x_min, x_copy, x_i2l, qg_none, qg_inl, qg_inr, qg_ite, xr1, xr0, xrE, xri, xl0, xl1, xl2, xl3, xl4, xl5, xl6, xl7, xl8, xl9, xl10, xs0, xs1, xs2, xs3, xs4, xs5, xs6, xs7, xs8, xs9, xs10, xi0, xi1, xi2, xi3, xi4, xi5, xi6, xi7, xi8, xi9, xi10, xc0, xc1, xc2, xc3, xc4, xc5, xc6, xc7, xv1, xv2, xv3, xv4, xv5, xv6, xv7, dT_le, dF_le, dT_lt, dF_lt, dT_eq, dF_eq, qa_up_hit, qa_up_no, k77, k79, r2, ni, rg, rE, rp, m_ofBranch hK hR, u1]
    · rw [if_neg (by omega)] at rp
      rw [zA2_1 (fun z => hp z.2), mAns_e]
      unfold f_X12_entry
      refine qa_fn_eq ?_ (by simp)
      simp (disch := omega) [ev_X12_entry_0, ev_X12_entry_1, ev_X12_entry_2, ev_X12_entry_3, ev_X12_entry_4, ev_X12_entry_5, ev_X12_entry_6, ev_X12_entry_7, ev_X12_entry_8, ev_X12_entry_9, ev_X12_entry_10, ev_X12_entry_11, B_X12_entry_0, B_X12_entry_1, B_X12_entry_2, B_X12_entry_3, B_X12_entry_4, B_X12_entry_5, B_X12_entry_6, B_X12_entry_7, B_X12_entry_8, B_X12_entry_9, B_X12_entry_10, B_X12_entry_11, x_const, x_iadd, x_isub, x_imul, x_idiv, x_irem, x_ineg, x_dup, x_dup_x1, x_dup2, x_pop, x_goto, x_ifeq, x_ifne, x_iflt, x_ifge, x_ifgt, x_ifle, x_cmpeq, x_cmpne, x_cmplt, x_cmpge, x_cmpgt, x_cmple, x_null, x_nonnull, x_acmpeq, x_acmpne, x_get, x_put, x_putz, x_ald, x_ast, x_bast, x_zast, x_aast, x_alen, x_obj, x_ret, x_retz, x_vret, x_max, x_min, x_copy, x_i2l, qg_none, qg_inl, qg_inr, qg_ite, xr1, xr0, xrE, xri, xl0, xl1, xl2, xl3, xl4, xl5, xl6, xl7, xl8, xl9, xl10, xs0, xs1, xs2, xs3, xs4, xs5, xs6, xs7, xs8, xs9, xs10, xi0, xi1, xi2, xi3, xi4, xi5, xi6, xi7, xi8, xi9, xi10, xc0, xc1, xc2, xc3, xc4, xc5, xc6, xc7, xv1, xv2, xv3, xv4, xv5, xv6, xv7, dT_le, dF_le, dT_lt, dF_lt, dT_eq, dF_eq, qa_up_hit, qa_up_no, k77, k79, r2, ni, rE, rp, m_ofBranch hK hR, u1]
  · rw [if_neg hb] at ni
    rw [zA2_1 (fun z => hb z.1), mAns_e]
    unfold f_X12_entry
    refine qa_fn_eq ?_ (by simp)
    simp (disch := omega) [ev_X12_entry_0, ev_X12_entry_1, ev_X12_entry_2, ev_X12_entry_3, ev_X12_entry_4, ev_X12_entry_5, ev_X12_entry_6, ev_X12_entry_7, ev_X12_entry_8, ev_X12_entry_9, ev_X12_entry_10, ev_X12_entry_11, B_X12_entry_0, B_X12_entry_1, B_X12_entry_2, B_X12_entry_3, B_X12_entry_4, B_X12_entry_5, B_X12_entry_6, B_X12_entry_7, B_X12_entry_8, B_X12_entry_9, B_X12_entry_10, B_X12_entry_11, x_const, x_iadd, x_isub, x_imul, x_idiv, x_irem, x_ineg, x_dup, x_dup_x1, x_dup2, x_pop, x_goto, x_ifeq, x_ifne, x_iflt, x_ifge, x_ifgt, x_ifle, x_cmpeq, x_cmpne, x_cmplt, x_cmpge, x_cmpgt, x_cmple, x_null, x_nonnull, x_acmpeq, x_acmpne, x_get, x_put, x_putz, x_ald, x_ast, x_bast, x_zast, x_aast, x_alen, x_obj, x_ret, x_retz, x_vret, x_max, x_min, x_copy, x_i2l, qg_none, qg_inl, qg_inr, qg_ite, xr1, xr0, xrE, xri, xl0, xl1, xl2, xl3, xl4, xl5, xl6, xl7, xl8, xl9, xl10, xs0, xs1, xs2, xs3, xs4, xs5, xs6, xs7, xs8, xs9, xs10, xi0, xi1, xi2, xi3, xi4, xi5, xi6, xi7, xi8, xi9, xi10, xc0, xc1, xc2, xc3, xc4, xc5, xc6, xc7, xv1, xv2, xv3, xv4, xv5, xv6, xv7, dT_le, dF_le, dT_lt, dF_lt, dT_eq, dF_eq, qa_up_hit, qa_up_no, k77, k79, r2, ni]
theorem mq_slowest {m : Int → Int → Int} {kd : Int → Nat × Int} {w : Nat × Nat × Nat} {A : zA} (hK : KM kd) (hR : RM m) (hQ : QR A (m 79)) {M : Int} (hW : zW M A) (b : Int) : f_X12_slowest [(1, 77), (0, b)] (m, kd, w) = mAns (zA1 (zBl A b) (zslow A b (-1) 0 6)) m kd w := by
  have ni := m_isBranch (w := w) hK hR hQ b
  have hRt : ∀ t, RM (qa_up m 77 0 t) := fun t => by rw [RM_t]; exact hR
  have hQt : ∀ t, QR A ((qa_up m 77 0 t) 79) := fun t => hQ
  obtain ⟨k77, k78, k79, k80, k81, k82, k83, k84, k85, k86, k87, k88, k89, k90⟩ := id hK
  obtain ⟨r1, r2, r3, r4, r6, r7, r8, r12, r13, r15, r23, r25, r26⟩ := id hR
  obtain ⟨g0, g1, gC, gI, gB, gJ, gR, gD, gE⟩ := id hQ
  by_cases hb : zBl A b
  · rw [if_pos hb] at ni
    rw [zA1_v hb, mAns_e]
    have loop : ∀ (n : Nat) (k s : Int), 0 ≤ k → k + n = 6 → (s = -1 ∨ (0 ≤ s ∧ s < k ∧ A.2.2.1 s 0 = 1)) → qa_ev P_X12_slowest 3 [(1, 77), (0, b), (0, s), (0, k)] [] (qa_up m 77 0 0, kd, w) = some (.inl (some (0, zslow A b s k n)), (qa_up m 77 0 0, kd, w)) := by
      intro n
      induction n with
      | zero =>
        intro k s h1 h2 h3
        rw [ev_X12_slowest_3]
        simp (disch := omega) [ev_X12_slowest_0, ev_X12_slowest_1, ev_X12_slowest_2, ev_X12_slowest_4, ev_X12_slowest_5, ev_X12_slowest_6, ev_X12_slowest_7, ev_X12_slowest_8, ev_X12_slowest_9, B_X12_slowest_0, B_X12_slowest_1, B_X12_slowest_2, B_X12_slowest_3, B_X12_slowest_4, B_X12_slowest_5, B_X12_slowest_6, B_X12_slowest_7, B_X12_slowest_8, B_X12_slowest_9, x_const, x_iadd, x_isub, x_imul, x_idiv, x_irem, x_ineg, x_dup, x_dup_x1, x_dup2, x_pop, x_goto, x_ifeq, x_ifne, x_iflt, x_ifge, x_ifgt, x_ifle, x_cmpeq, x_cmpne, x_cmplt, x_cmpge, x_cmpgt, x_cmple, x_null, x_nonnull, x_acmpeq, x_acmpne, x_get, x_put, x_putz, x_ald, x_ast, x_bast, x_zast, x_aast, x_alen, x_obj, x_ret, x_retz, x_vret, x_max, x_min, x_copy, x_i2l, qg_none, qg_inl, qg_inr, qg_ite, xr1, xr0, xrE, xri, xl0, xl1, xl2, xl3, xl4, xl5, xl6, xl7, xl8, xl9, xl10, xs0, xs1, xs2, xs3, xs4, xs5, xs6, xs7, xs8, xs9, xs10, xi0, xi1, xi2, xi3, xi4, xi5, xi6, xi7, xi8, xi9, xi10, xc0, xc1, xc2, xc3, xc4, xc5, xc6, xc7, xv1, xv2, xv3, xv4, xv5, xv6, xv7, dT_le, dF_le, dT_lt, dF_lt, dT_eq, dF_eq, qa_up_hit, qa_up_no, k77, zslow]
      | succ n ih =>
        intro k s h1 h2 h3
        have hi := m_isIn (w := w) hK (hRt 0) (hQt 0) k b
        have ihs := ih (k + 1) s (by omega) (by omega) (by omega)
        rw [ev_X12_slowest_3]
        by_cases hin : zIn A k b
        · rw [if_pos hin] at hi
          have ihk := ih (k + 1) k (by omega) (by omega) (Or.inr ⟨h1, by omega, hin.1.2.2⟩)
          have ek := gR k 2 h1 (by omega) hin.1.2.2 (by decide) (by decide)
          rcases h3 with h3 | h3
          · subst h3
            have ez : zslow A b (-1) k (n + 1) = zslow A b k (k + 1) n := by
              simp only [zslow]
              rw [if_pos ⟨hin, by simp⟩]
            simp (disch := omega) [ev_X12_slowest_0, ev_X12_slowest_1, ev_X12_slowest_2, ev_X12_slowest_4, ev_X12_slowest_5, ev_X12_slowest_6, ev_X12_slowest_7, ev_X12_slowest_8, ev_X12_slowest_9, B_X12_slowest_0, B_X12_slowest_1, B_X12_slowest_2, B_X12_slowest_3, B_X12_slowest_4, B_X12_slowest_5, B_X12_slowest_6, B_X12_slowest_7, B_X12_slowest_8, B_X12_slowest_9, x_const, x_iadd, x_isub, x_imul, x_idiv, x_irem, x_ineg, x_dup, x_dup_x1, x_dup2, x_pop, x_goto, x_ifeq, x_ifne, x_iflt, x_ifge, x_ifgt, x_ifle, x_cmpeq, x_cmpne, x_cmplt, x_cmpge, x_cmpgt, x_cmple, x_null, x_nonnull, x_acmpeq, x_acmpne, x_get, x_put, x_putz, x_ald, x_ast, x_bast, x_zast, x_aast, x_alen, x_obj, x_ret, x_retz, x_vret, x_max, x_min, x_copy, x_i2l, qg_none, qg_inl, qg_inr, qg_ite, xr1, xr0, xrE, xri, xl0, xl1, xl2, xl3, xl4, xl5, xl6, xl7, xl8, xl9, xl10, xs0, xs1, xs2, xs3, xs4, xs5, xs6, xs7, xs8, xs9, xs10, xi0, xi1, xi2, xi3, xi4, xi5, xi6, xi7, xi8, xi9, xi10, xc0, xc1, xc2, xc3, xc4, xc5, xc6, xc7, xv1, xv2, xv3, xv4, xv5, xv6, xv7, dT_le, dF_le, dT_lt, dF_lt, dT_eq, dF_eq, qa_up_hit, qa_up_no, k77, hi, ez, ihk]
          · have hsn : ¬ s = -1 := by omega
            have es := gR s 2 h3.1 (by omega) h3.2.2 (by decide) (by decide)
            by_cases hl : A.2.2.1 k 2 < A.2.2.1 s 2
            · have ez : zslow A b s k (n + 1) = zslow A b k (k + 1) n := by
                simp only [zslow]
                rw [if_pos ⟨hin, Or.inr hl⟩]
              simp (disch := omega) [ev_X12_slowest_0, ev_X12_slowest_1, ev_X12_slowest_2, ev_X12_slowest_4, ev_X12_slowest_5, ev_X12_slowest_6, ev_X12_slowest_7, ev_X12_slowest_8, ev_X12_slowest_9, B_X12_slowest_0, B_X12_slowest_1, B_X12_slowest_2, B_X12_slowest_3, B_X12_slowest_4, B_X12_slowest_5, B_X12_slowest_6, B_X12_slowest_7, B_X12_slowest_8, B_X12_slowest_9, x_const, x_iadd, x_isub, x_imul, x_idiv, x_irem, x_ineg, x_dup, x_dup_x1, x_dup2, x_pop, x_goto, x_ifeq, x_ifne, x_iflt, x_ifge, x_ifgt, x_ifle, x_cmpeq, x_cmpne, x_cmplt, x_cmpge, x_cmpgt, x_cmple, x_null, x_nonnull, x_acmpeq, x_acmpne, x_get, x_put, x_putz, x_ald, x_ast, x_bast, x_zast, x_aast, x_alen, x_obj, x_ret, x_retz, x_vret, x_max, x_min, x_copy, x_i2l, qg_none, qg_inl, qg_inr, qg_ite, xr1, xr0, xrE, xri, xl0, xl1, xl2, xl3, xl4, xl5, xl6, xl7, xl8, xl9, xl10, xs0, xs1, xs2, xs3, xs4, xs5, xs6, xs7, xs8, xs9, xs10, xi0, xi1, xi2, xi3, xi4, xi5, xi6, xi7, xi8, xi9, xi10, xc0, xc1, xc2, xc3, xc4, xc5, xc6, xc7, xv1, xv2, xv3, xv4, xv5, xv6, xv7, dT_le, dF_le, dT_lt, dF_lt, dT_eq, dF_eq, qa_up_hit, qa_up_no, k77, hi, hsn, m_ofReader hK (hRt 0), ek, es, hl, ez, ihk]
            · have ez : zslow A b s k (n + 1) = zslow A b s (k + 1) n := by
                simp only [zslow]
                rw [if_neg (fun z => by omega)]
              simp (disch := omega) [ev_X12_slowest_0, ev_X12_slowest_1, ev_X12_slowest_2, ev_X12_slowest_4, ev_X12_slowest_5, ev_X12_slowest_6, ev_X12_slowest_7, ev_X12_slowest_8, ev_X12_slowest_9, B_X12_slowest_0, B_X12_slowest_1, B_X12_slowest_2, B_X12_slowest_3, B_X12_slowest_4, B_X12_slowest_5, B_X12_slowest_6, B_X12_slowest_7, B_X12_slowest_8, B_X12_slowest_9, x_const, x_iadd, x_isub, x_imul, x_idiv, x_irem, x_ineg, x_dup, x_dup_x1, x_dup2, x_pop, x_goto, x_ifeq, x_ifne, x_iflt, x_ifge, x_ifgt, x_ifle, x_cmpeq, x_cmpne, x_cmplt, x_cmpge, x_cmpgt, x_cmple, x_null, x_nonnull, x_acmpeq, x_acmpne, x_get, x_put, x_putz, x_ald, x_ast, x_bast, x_zast, x_aast, x_alen, x_obj, x_ret, x_retz, x_vret, x_max, x_min, x_copy, x_i2l, qg_none, qg_inl, qg_inr, qg_ite, xr1, xr0, xrE, xri, xl0, xl1, xl2, xl3, xl4, xl5, xl6, xl7, xl8, xl9, xl10, xs0, xs1, xs2, xs3, xs4, xs5, xs6, xs7, xs8, xs9, xs10, xi0, xi1, xi2, xi3, xi4, xi5, xi6, xi7, xi8, xi9, xi10, xc0, xc1, xc2, xc3, xc4, xc5, xc6, xc7, xv1, xv2, xv3, xv4, xv5, xv6, xv7, dT_le, dF_le, dT_lt, dF_lt, dT_eq, dF_eq, qa_up_hit, qa_up_no, k77, hi, hsn, m_ofReader hK (hRt 0), ek, es, hl, ez, ihs]
        · rw [if_neg hin] at hi
          have ez : zslow A b s k (n + 1) = zslow A b s (k + 1) n := by
            simp only [zslow]
            rw [if_neg (fun z => hin z.1)]
          simp (disch := omega) [ev_X12_slowest_0, ev_X12_slowest_1, ev_X12_slowest_2, ev_X12_slowest_4, ev_X12_slowest_5, ev_X12_slowest_6, ev_X12_slowest_7, ev_X12_slowest_8, ev_X12_slowest_9, B_X12_slowest_0, B_X12_slowest_1, B_X12_slowest_2, B_X12_slowest_3, B_X12_slowest_4, B_X12_slowest_5, B_X12_slowest_6, B_X12_slowest_7, B_X12_slowest_8, B_X12_slowest_9, x_const, x_iadd, x_isub, x_imul, x_idiv, x_irem, x_ineg, x_dup, x_dup_x1, x_dup2, x_pop, x_goto, x_ifeq, x_ifne, x_iflt, x_ifge, x_ifgt, x_ifle, x_cmpeq, x_cmpne, x_cmplt, x_cmpge, x_cmpgt, x_cmple, x_null, x_nonnull, x_acmpeq, x_acmpne, x_get, x_put, x_putz, x_ald, x_ast, x_bast, x_zast, x_aast, x_alen, x_obj, x_ret, x_retz, x_vret, x_max, x_min, x_copy, x_i2l, qg_none, qg_inl, qg_inr, qg_ite, xr1, xr0, xrE, xri, xl0, xl1, xl2, xl3, xl4, xl5, xl6, xl7, xl8, xl9, xl10, xs0, xs1, xs2, xs3, xs4, xs5, xs6, xs7, xs8, xs9, xs10, xi0, xi1, xi2, xi3, xi4, xi5, xi6, xi7, xi8, xi9, xi10, xc0, xc1, xc2, xc3, xc4, xc5, xc6, xc7, xv1, xv2, xv3, xv4, xv5, xv6, xv7, dT_le, dF_le, dT_lt, dF_lt, dT_eq, dF_eq, qa_up_hit, qa_up_no, k77, hi, ez, ihs]
    have lp := loop 6 0 (-1) (by decide) (by decide) (Or.inl rfl)
    unfold f_X12_slowest
    refine qa_fn_eq ?_ (by simp)
    simp (disch := omega) [ev_X12_slowest_0, ev_X12_slowest_1, ev_X12_slowest_2, ev_X12_slowest_4, ev_X12_slowest_5, ev_X12_slowest_6, ev_X12_slowest_7, ev_X12_slowest_8, ev_X12_slowest_9, B_X12_slowest_0, B_X12_slowest_1, B_X12_slowest_2, B_X12_slowest_3, B_X12_slowest_4, B_X12_slowest_5, B_X12_slowest_6, B_X12_slowest_7, B_X12_slowest_8, B_X12_slowest_9, x_const, x_iadd, x_isub, x_imul, x_idiv, x_irem, x_ineg, x_dup, x_dup_x1, x_dup2, x_pop, x_goto, x_ifeq, x_ifne, x_iflt, x_ifge, x_ifgt, x_ifle, x_cmpeq, x_cmpne, x_cmplt, x_cmpge, x_cmpgt, x_cmple, x_null, x_nonnull, x_acmpeq, x_acmpne, x_get, x_put, x_putz, x_ald, x_ast, x_bast, x_zast, x_aast, x_alen, x_obj, x_ret, x_retz, x_vret, x_max, x_min, x_copy, x_i2l, qg_none, qg_inl, qg_inr, qg_ite, xr1, xr0, xrE, xri, xl0, xl1, xl2, xl3, xl4, xl5, xl6, xl7, xl8, xl9, xl10, xs0, xs1, xs2, xs3, xs4, xs5, xs6, xs7, xs8, xs9, xs10, xi0, xi1, xi2, xi3, xi4, xi5, xi6, xi7, xi8, xi9, xi10, xc0, xc1, xc2, xc3, xc4, xc5, xc6, xc7, xv1, xv2, xv3, xv4, xv5, xv6, xv7, dT_le, dF_le, dT_lt, dF_lt, dT_eq, dF_eq, qa_up_hit, qa_up_no, k77, ni, lp]
  · rw [if_neg hb] at ni
    rw [zA1_1 hb, mAns_e]
    unfold f_X12_slowest
    refine qa_fn_eq ?_ (by simp)
    simp (disch := omega) [ev_X12_slowest_0, ev_X12_slowest_1, ev_X12_slowest_2, ev_X12_slowest_3, ev_X12_slowest_4, ev_X12_slowest_5, ev_X12_slowest_6, ev_X12_slowest_7, ev_X12_slowest_8, ev_X12_slowest_9, B_X12_slowest_0, B_X12_slowest_1, B_X12_slowest_2, B_X12_slowest_3, B_X12_slowest_4, B_X12_slowest_5, B_X12_slowest_6, B_X12_slowest_7, B_X12_slowest_8, B_X12_slowest_9, x_const, x_iadd, x_isub, x_imul, x_idiv, x_irem, x_ineg, x_dup, x_dup_x1, x_dup2, x_pop, x_goto, x_ifeq, x_ifne, x_iflt, x_ifge, x_ifgt, x_ifle, x_cmpeq, x_cmpne, x_cmplt, x_cmpge, x_cmpgt, x_cmple, x_null, x_nonnull, x_acmpeq, x_acmpne, x_get, x_put, x_putz, x_ald, x_ast, x_bast, x_zast, x_aast, x_alen, x_obj, x_ret, x_retz, x_vret, x_max, x_min, x_copy, x_i2l, qg_none, qg_inl, qg_inr, qg_ite, xr1, xr0, xrE, xri, xl0, xl1, xl2, xl3, xl4, xl5, xl6, xl7, xl8, xl9, xl10, xs0, xs1, xs2, xs3, xs4, xs5, xs6, xs7, xs8, xs9, xs10, xi0, xi1, xi2, xi3, xi4, xi5, xi6, xi7, xi8, xi9, xi10, xc0, xc1, xc2, xc3, xc4, xc5, xc6, xc7, xv1, xv2, xv3, xv4, xv5, xv6, xv7, dT_le, dF_le, dT_lt, dF_lt, dT_eq, dF_eq, qa_up_hit, qa_up_no, k77, ni]
theorem mq_latest {m : Int → Int → Int} {kd : Int → Nat × Int} {w : Nat × Nat × Nat} {A : zA} (hK : KM kd) (hR : RM m) (hQ : QR A (m 79)) {M : Int} (hW : zW M A) (b key : Int) : f_X12_latest [(1, 77), (0, b), (0, key)] (m, kd, w) = mAns (zA2 (zBl A b) (0 ≤ key ∧ key ≤ 9) (zback A b key (A.2.1 b 4) (A.2.1 b 5 - A.2.1 b 4).toNat)) m kd w := by
  have ni := m_isBranch (w := w) hK hR hQ b
  have rg := m_in (m := m) (kd := kd) (w := w) key 0 9
  have hRt : ∀ t, RM (qa_up m 77 0 t) := fun t => by rw [RM_t]; exact hR
  have hQt : ∀ t, QR A ((qa_up m 77 0 t) 79) := fun t => hQ
  obtain ⟨k77, k78, k79, k80, k81, k82, k83, k84, k85, k86, k87, k88, k89, k90⟩ := id hK
  obtain ⟨r1, r2, r3, r4, r6, r7, r8, r12, r13, r15, r23, r25, r26⟩ := id hR
  obtain ⟨g0, g1, gC, gI, gB, gJ, gR, gD, gE⟩ := id hQ
  by_cases hb : zBl A b
  · rw [if_pos hb] at ni
    by_cases h2 : 0 ≤ key ∧ key ≤ 9
    · rw [if_pos h2] at rg
      rw [zA2_v hb h2, mAns_e]
      have hbn := hW.bn hb
      obtain ⟨b1, b2, b3⟩ := id hb
      obtain ⟨u1, u2, u3⟩ := gB b b1 b2 b3
      have loop : ∀ (n : Nat) (k : Int), k + 1 = n → n ≤ A.2.1 b 5 - A.2.1 b 4 → qa_ev P_X12_latest 5 [(1, 77), (0, b), (0, key), (0, k)] [] (qa_up m 77 0 0, kd, w) = some (.inl (some (0, zback A b key (A.2.1 b 4) n)), (qa_up m 77 0 0, kd, w)) := by
        intro n
        induction n with
        | zero =>
          intro k h1 h2
          rw [ev_X12_latest_5]
          simp (disch := omega) [ev_X12_latest_0, ev_X12_latest_1, ev_X12_latest_2, ev_X12_latest_3, ev_X12_latest_4, ev_X12_latest_6, ev_X12_latest_7, B_X12_latest_0, B_X12_latest_1, B_X12_latest_2, B_X12_latest_3, B_X12_latest_4, B_X12_latest_5, B_X12_latest_6, B_X12_latest_7, x_const, x_iadd, x_isub, x_imul, x_idiv, x_irem, x_ineg, x_dup, x_dup_x1, x_dup2, x_pop, x_goto, x_ifeq, x_ifne, x_iflt, x_ifge, x_ifgt, x_ifle, x_cmpeq, x_cmpne, x_cmplt, x_cmpge, x_cmpgt, x_cmple, x_null, x_nonnull, x_acmpeq, x_acmpne, x_get, x_put, x_putz, x_ald, x_ast, x_bast, x_zast, x_aast, x_alen, x_obj, x_ret, x_retz, x_vret, x_max, x_min, x_copy, x_i2l, qg_none, qg_inl, qg_inr, qg_ite, xr1, xr0, xrE, xri, xl0, xl1, xl2, xl3, xl4, xl5, xl6, xl7, xl8, xl9, xl10, xs0, xs1, xs2, xs3, xs4, xs5, xs6, xs7, xs8, xs9, xs10, xi0, xi1, xi2, xi3, xi4, xi5, xi6, xi7, xi8, xi9, xi10, xc0, xc1, xc2, xc3, xc4, xc5, xc6, xc7, xv1, xv2, xv3, xv4, xv5, xv6, xv7, dT_le, dF_le, dT_lt, dF_lt, zback]
        | succ n ih =>
          intro k h1 h2
          have ih' := ih (k + -1) (by omega) (by omega)
          have he := hW.2.2.2.2.2.2.1 b (A.2.1 b 4 + k) b1 b2 b3 (by omega) (by omega)
          have ra1 := m_keyOf (w := w) hK (hRt 0) (hQt 0) (k := k) hb (by omega) (by omega) (by omega) he
          have ra3 := m_valueOf (w := w) hK (hRt 0) (hQt 0) (k := k) hb (by omega) (by omega) (by omega) he
          have hkn : (n : Int) = k := by omega
          rw [ev_X12_latest_5]
          by_cases hk : A.2.2.2 b (A.2.1 b 4 + k) 1 = key
          · simp (disch := omega) [ev_X12_latest_0, ev_X12_latest_1, ev_X12_latest_2, ev_X12_latest_3, ev_X12_latest_4, ev_X12_latest_6, ev_X12_latest_7, B_X12_latest_0, B_X12_latest_1, B_X12_latest_2, B_X12_latest_3, B_X12_latest_4, B_X12_latest_5, B_X12_latest_6, B_X12_latest_7, x_const, x_iadd, x_isub, x_imul, x_idiv, x_irem, x_ineg, x_dup, x_dup_x1, x_dup2, x_pop, x_goto, x_ifeq, x_ifne, x_iflt, x_ifge, x_ifgt, x_ifle, x_cmpeq, x_cmpne, x_cmplt, x_cmpge, x_cmpgt, x_cmple, x_null, x_nonnull, x_acmpeq, x_acmpne, x_get, x_put, x_putz, x_ald, x_ast, x_bast, x_zast, x_aast, x_alen, x_obj, x_ret, x_retz, x_vret, x_max, x_min, x_copy, x_i2l, qg_none, qg_inl, qg_inr, qg_ite, xr1, xr0, xrE, xri, xl0, xl1, xl2, xl3, xl4, xl5, xl6, xl7, xl8, xl9, xl10, xs0, xs1, xs2, xs3, xs4, xs5, xs6, xs7, xs8, xs9, xs10, xi0, xi1, xi2, xi3, xi4, xi5, xi6, xi7, xi8, xi9, xi10, xc0, xc1, xc2, xc3, xc4, xc5, xc6, xc7, xv1, xv2, xv3, xv4, xv5, xv6, xv7, dT_le, dF_le, dT_lt, dF_lt, k77, zback, hkn, ra1, ra3, hk]
          · simp (disch := omega) [ev_X12_latest_0, ev_X12_latest_1, ev_X12_latest_2, ev_X12_latest_3, ev_X12_latest_4, ev_X12_latest_6, ev_X12_latest_7, B_X12_latest_0, B_X12_latest_1, B_X12_latest_2, B_X12_latest_3, B_X12_latest_4, B_X12_latest_5, B_X12_latest_6, B_X12_latest_7, x_const, x_iadd, x_isub, x_imul, x_idiv, x_irem, x_ineg, x_dup, x_dup_x1, x_dup2, x_pop, x_goto, x_ifeq, x_ifne, x_iflt, x_ifge, x_ifgt, x_ifle, x_cmpeq, x_cmpne, x_cmplt, x_cmpge, x_cmpgt, x_cmple, x_null, x_nonnull, x_acmpeq, x_acmpne, x_get, x_put, x_putz, x_ald, x_ast, x_bast, x_zast, x_aast, x_alen, x_obj, x_ret, x_retz, x_vret, x_max, x_min, x_copy, x_i2l, qg_none, qg_inl, qg_inr, qg_ite, xr1, xr0, xrE, xri, xl0, xl1, xl2, xl3, xl4, xl5, xl6, xl7, xl8, xl9, xl10, xs0, xs1, xs2, xs3, xs4, xs5, xs6, xs7, xs8, xs9, xs10, xi0, xi1, xi2, xi3, xi4, xi5, xi6, xi7, xi8, xi9, xi10, xc0, xc1, xc2, xc3, xc4, xc5, xc6, xc7, xv1, xv2, xv3, xv4, xv5, xv6, xv7, dT_le, dF_le, dT_lt, dF_lt, k77, zback, hkn, ra1, hk, ih']
      have lp := loop (A.2.1 b 5 - A.2.1 b 4).toNat (A.2.1 b 5 - A.2.1 b 4 - 1) (by omega) (by omega)
      unfold f_X12_latest
      refine qa_fn_eq ?_ (by simp)
      simp (disch := omega) [ev_X12_latest_0, ev_X12_latest_1, ev_X12_latest_2, ev_X12_latest_3, ev_X12_latest_4, ev_X12_latest_6, ev_X12_latest_7, B_X12_latest_0, B_X12_latest_1, B_X12_latest_2, B_X12_latest_3, B_X12_latest_4, B_X12_latest_5, B_X12_latest_6, B_X12_latest_7, x_const, x_iadd, x_isub, x_imul, x_idiv, x_irem, x_ineg, x_dup, x_dup_x1, x_dup2, x_pop, x_goto, x_ifeq, x_ifne, x_iflt, x_ifge, x_ifgt, x_ifle, x_cmpeq, x_cmpne, x_cmplt, x_cmpge, x_cmpgt, x_cmple, x_null, x_nonnull, x_acmpeq, x_acmpne, x_get, x_put, x_putz, x_ald, x_ast, x_bast, x_zast, x_aast, x_alen, x_obj, x_ret, x_retz, x_vret, x_max, x_min, x_copy, x_i2l, qg_none, qg_inl, qg_inr, qg_ite, xr1, xr0, xrE, xri, xl0, xl1, xl2, xl3, xl4, xl5, xl6, xl7, xl8, xl9, xl10, xs0, xs1, xs2, xs3, xs4, xs5, xs6, xs7, xs8, xs9, xs10, xi0, xi1, xi2, xi3, xi4, xi5, xi6, xi7, xi8, xi9, xi10, xc0, xc1, xc2, xc3, xc4, xc5, xc6, xc7, xv1, xv2, xv3, xv4, xv5, xv6, xv7, dT_le, dF_le, dT_lt, dF_lt, dT_eq, dF_eq, qa_up_hit, qa_up_no, k77, ni, rg, m_ofBranch hK (hRt 0), u2, lp]
    · rw [if_neg h2] at rg
      rw [zA2_2 hb h2, mAns_e]
      unfold f_X12_latest
      refine qa_fn_eq ?_ (by simp)
      simp (disch := omega) [ev_X12_latest_0, ev_X12_latest_1, ev_X12_latest_2, ev_X12_latest_3, ev_X12_latest_4, ev_X12_latest_5, ev_X12_latest_6, ev_X12_latest_7, B_X12_latest_0, B_X12_latest_1, B_X12_latest_2, B_X12_latest_3, B_X12_latest_4, B_X12_latest_5, B_X12_latest_6, B_X12_latest_7, x_const, x_iadd, x_isub, x_imul, x_idiv, x_irem, x_ineg, x_dup, x_dup_x1, x_dup2, x_pop, x_goto, x_ifeq, x_ifne, x_iflt, x_ifge, x_ifgt, x_ifle, x_cmpeq, x_cmpne, x_cmplt, x_cmpge, x_cmpgt, x_cmple, x_null, x_nonnull, x_acmpeq, x_acmpne, x_get, x_put, x_putz, x_ald, x_ast, x_bast, x_zast, x_aast, x_alen, x_obj, x_ret, x_retz, x_vret, x_max, x_min, x_copy, x_i2l, qg_none, qg_inl, qg_inr, qg_ite, xr1, xr0, xrE, xri, xl0, xl1, xl2, xl3, xl4, xl5, xl6, xl7, xl8, xl9, xl10, xs0, xs1, xs2, xs3, xs4, xs5, xs6, xs7, xs8, xs9, xs10, xi0, xi1, xi2, xi3, xi4, xi5, xi6, xi7, xi8, xi9, xi10, xc0, xc1, xc2, xc3, xc4, xc5, xc6, xc7, xv1, xv2, xv3, xv4, xv5, xv6, xv7, dT_le, dF_le, dT_lt, dF_lt, dT_eq, dF_eq, qa_up_hit, qa_up_no, k77, ni, rg]
  · rw [if_neg hb] at ni
    rw [zA2_1 hb, mAns_e]
    unfold f_X12_latest
    refine qa_fn_eq ?_ (by simp)
    simp (disch := omega) [ev_X12_latest_0, ev_X12_latest_1, ev_X12_latest_2, ev_X12_latest_3, ev_X12_latest_4, ev_X12_latest_5, ev_X12_latest_6, ev_X12_latest_7, B_X12_latest_0, B_X12_latest_1, B_X12_latest_2, B_X12_latest_3, B_X12_latest_4, B_X12_latest_5, B_X12_latest_6, B_X12_latest_7, x_const, x_iadd, x_isub, x_imul, x_idiv, x_irem, x_ineg, x_dup, x_dup_x1, x_dup2, x_pop, x_goto, x_ifeq, x_ifne, x_iflt, x_ifge, x_ifgt, x_ifle, x_cmpeq, x_cmpne, x_cmplt, x_cmpge, x_cmpgt, x_cmple, x_null, x_nonnull, x_acmpeq, x_acmpne, x_get, x_put, x_putz, x_ald, x_ast, x_bast, x_zast, x_aast, x_alen, x_obj, x_ret, x_retz, x_vret, x_max, x_min, x_copy, x_i2l, qg_none, qg_inl, qg_inr, qg_ite, xr1, xr0, xrE, xri, xl0, xl1, xl2, xl3, xl4, xl5, xl6, xl7, xl8, xl9, xl10, xs0, xs1, xs2, xs3, xs4, xs5, xs6, xs7, xs8, xs9, xs10, xi0, xi1, xi2, xi3, xi4, xi5, xi6, xi7, xi8, xi9, xi10, xc0, xc1, xc2, xc3, xc4, xc5, xc6, xc7, xv1, xv2, xv3, xv4, xv5, xv6, xv7, dT_le, dF_le, dT_lt, dF_lt, dT_eq, dF_eq, qa_up_hit, qa_up_no, k77, ni]
theorem mq_unread {m : Int → Int → Int} {kd : Int → Nat × Int} {w : Nat × Nat × Nat} {A : zA} (hK : KM kd) (hR : RM m) (hQ : QR A (m 79)) {M : Int} (hW : zW M A) (r key : Int) : f_X12_unread [(1, 77), (0, r), (0, key)] (m, kd, w) = mAns (zA2 (zRl A r) (0 ≤ key ∧ key ≤ 9) (zsf (fun q => if A.2.2.2 (A.2.2.1 r 1) q 1 = key then 1 else 0) (A.2.2.1 r 2) (A.2.1 (A.2.2.1 r 1) 5 - A.2.2.1 r 2).toNat)) m kd w := by
  have ni := m_isReader (w := w) hK hR hQ r
  have rg := m_in (m := m) (kd := kd) (w := w) key 0 9
  have hRt : ∀ t, RM (qa_up m 77 0 t) := fun t => by rw [RM_t]; exact hR
  have hQt : ∀ t, QR A ((qa_up m 77 0 t) 79) := fun t => hQ
  obtain ⟨k77, k78, k79, k80, k81, k82, k83, k84, k85, k86, k87, k88, k89, k90⟩ := id hK
  obtain ⟨r1, r2, r3, r4, r6, r7, r8, r12, r13, r15, r23, r25, r26⟩ := id hR
  obtain ⟨g0, g1, gC, gI, gB, gJ, gR, gD, gE⟩ := id hQ
  by_cases h : zRl A r
  · rw [if_pos h] at ni
    by_cases h2 : 0 ≤ key ∧ key ≤ 9
    · rw [if_pos h2] at rg
      rw [zA2_v h h2, mAns_e]
      obtain ⟨s1, s2, s3⟩ := id h
      obtain ⟨t1, t2, t3, t4, t5, t6, t7, t8, t9, t10, t11, t12, t13, t14, t15, t16, t17, t18, t19⟩ := hW.rn h
      have e1 := gR r 1 s1 s2 s3 (by decide) (by decide)
      have e2 := gR r 2 s1 s2 s3 (by decide) (by decide)
      have hb : zBl A (A.2.2.1 r 1) := ⟨t1, t2, t3⟩
      have hbn := hW.bn hb
      obtain ⟨u1, u2, u3⟩ := gB _ t1 t2 t3
      generalize hbb : A.2.2.1 r 1 = b at *
      have loop : ∀ (n : Nat) (k s : Int), 0 ≤ k → k + n = A.2.1 b 5 - A.2.1 b 4 → 0 ≤ s → s ≤ k → qa_ev P_X12_unread 5 [(1, 77), (0, r), (0, key), (0, b), (0, s), (0, k)] [] (qa_up m 77 0 0, kd, w) = some (.inl (some (0, s + zsf (fun q => if A.2.2.2 b q 1 = key then 1 else 0) (A.2.1 b 4 + k) n)), (qa_up m 77 0 0, kd, w)) := by
        intro n
        induction n with
        | zero =>
          intro k s h1 h2 h3 h4
          rw [ev_X12_unread_5]
          simp (disch := omega) [ev_X12_unread_0, ev_X12_unread_1, ev_X12_unread_2, ev_X12_unread_3, ev_X12_unread_4, ev_X12_unread_6, ev_X12_unread_7, ev_X12_unread_8, B_X12_unread_0, B_X12_unread_1, B_X12_unread_2, B_X12_unread_3, B_X12_unread_4, B_X12_unread_5, B_X12_unread_6, B_X12_unread_7, B_X12_unread_8, x_const, x_iadd, x_isub, x_imul, x_idiv, x_irem, x_ineg, x_dup, x_dup_x1, x_dup2, x_pop, x_goto, x_ifeq, x_ifne, x_iflt, x_ifge, x_ifgt, x_ifle, x_cmpeq, x_cmpne, x_cmplt, x_cmpge, x_cmpgt, x_cmple, x_null, x_nonnull, x_acmpeq, x_acmpne, x_get, x_put, x_putz, x_ald, x_ast, x_bast, x_zast, x_aast, x_alen, x_obj, x_ret, x_retz, x_vret, x_max, x_min, x_copy, x_i2l, qg_none, qg_inl, qg_inr, qg_ite, xr1, xr0, xrE, xri, xl0, xl1, xl2, xl3, xl4, xl5, xl6, xl7, xl8, xl9, xl10, xs0, xs1, xs2, xs3, xs4, xs5, xs6, xs7, xs8, xs9, xs10, xi0, xi1, xi2, xi3, xi4, xi5, xi6, xi7, xi8, xi9, xi10, xc0, xc1, xc2, xc3, xc4, xc5, xc6, xc7, xv1, xv2, xv3, xv4, xv5, xv6, xv7, dT_le, dF_le, dT_lt, dF_lt, dT_eq, dF_eq, qa_up_hit, qa_up_no, k77, m_ofBranch hK (hRt 0), u2, zsf]
        | succ n ih =>
          intro k s h1 h2 h3 h4
          have ih' := ih (k + 1)
          have he := hW.2.2.2.2.2.2.1 b (A.2.1 b 4 + k) t1 t2 t3 (by omega) (by omega)
          have ra1 := m_keyOf (w := w) hK (hRt 0) (hQt 0) (k := k) hb (by omega) (by omega) (by omega) he
          rw [ev_X12_unread_5]
          by_cases hk : A.2.2.2 b (A.2.1 b 4 + k) 1 = key
          · simp (disch := omega) [ev_X12_unread_0, ev_X12_unread_1, ev_X12_unread_2, ev_X12_unread_3, ev_X12_unread_4, ev_X12_unread_6, ev_X12_unread_7, ev_X12_unread_8, B_X12_unread_0, B_X12_unread_1, B_X12_unread_2, B_X12_unread_3, B_X12_unread_4, B_X12_unread_5, B_X12_unread_6, B_X12_unread_7, B_X12_unread_8, x_const, x_iadd, x_isub, x_imul, x_idiv, x_irem, x_ineg, x_dup, x_dup_x1, x_dup2, x_pop, x_goto, x_ifeq, x_ifne, x_iflt, x_ifge, x_ifgt, x_ifle, x_cmpeq, x_cmpne, x_cmplt, x_cmpge, x_cmpgt, x_cmple, x_null, x_nonnull, x_acmpeq, x_acmpne, x_get, x_put, x_putz, x_ald, x_ast, x_bast, x_zast, x_aast, x_alen, x_obj, x_ret, x_retz, x_vret, x_max, x_min, x_copy, x_i2l, qg_none, qg_inl, qg_inr, qg_ite, xr1, xr0, xrE, xri, xl0, xl1, xl2, xl3, xl4, xl5, xl6, xl7, xl8, xl9, xl10, xs0, xs1, xs2, xs3, xs4, xs5, xs6, xs7, xs8, xs9, xs10, xi0, xi1, xi2, xi3, xi4, xi5, xi6, xi7, xi8, xi9, xi10, xc0, xc1, xc2, xc3, xc4, xc5, xc6, xc7, xv1, xv2, xv3, xv4, xv5, xv6, xv7, dT_le, dF_le, dT_lt, dF_lt, dT_eq, dF_eq, qa_up_hit, qa_up_no, k77, m_ofBranch hK (hRt 0), u2, zsf, ra1, hk, ih']
            rw [show A.2.1 b 4 + (k + 1) = A.2.1 b 4 + k + 1 by omega]
            omega
          · simp (disch := omega) [ev_X12_unread_0, ev_X12_unread_1, ev_X12_unread_2, ev_X12_unread_3, ev_X12_unread_4, ev_X12_unread_6, ev_X12_unread_7, ev_X12_unread_8, B_X12_unread_0, B_X12_unread_1, B_X12_unread_2, B_X12_unread_3, B_X12_unread_4, B_X12_unread_5, B_X12_unread_6, B_X12_unread_7, B_X12_unread_8, x_const, x_iadd, x_isub, x_imul, x_idiv, x_irem, x_ineg, x_dup, x_dup_x1, x_dup2, x_pop, x_goto, x_ifeq, x_ifne, x_iflt, x_ifge, x_ifgt, x_ifle, x_cmpeq, x_cmpne, x_cmplt, x_cmpge, x_cmpgt, x_cmple, x_null, x_nonnull, x_acmpeq, x_acmpne, x_get, x_put, x_putz, x_ald, x_ast, x_bast, x_zast, x_aast, x_alen, x_obj, x_ret, x_retz, x_vret, x_max, x_min, x_copy, x_i2l, qg_none, qg_inl, qg_inr, qg_ite, xr1, xr0, xrE, xri, xl0, xl1, xl2, xl3, xl4, xl5, xl6, xl7, xl8, xl9, xl10, xs0, xs1, xs2, xs3, xs4, xs5, xs6, xs7, xs8, xs9, xs10, xi0, xi1, xi2, xi3, xi4, xi5, xi6, xi7, xi8, xi9, xi10, xc0, xc1, xc2, xc3, xc4, xc5, xc6, xc7, xv1, xv2, xv3, xv4, xv5, xv6, xv7, dT_le, dF_le, dT_lt, dF_lt, dT_eq, dF_eq, qa_up_hit, qa_up_no, k77, m_ofBranch hK (hRt 0), u2, zsf, ra1, hk, ih']
            rw [show A.2.1 b 4 + (k + 1) = A.2.1 b 4 + k + 1 by omega]
      have lp := loop (A.2.1 b 5 - A.2.2.1 r 2).toNat (A.2.2.1 r 2 - A.2.1 b 4) 0 (by omega) (by omega) (by decide) (by omega)
      rw [show A.2.1 b 4 + (A.2.2.1 r 2 - A.2.1 b 4) = A.2.2.1 r 2 by omega] at lp
      unfold f_X12_unread
      refine qa_fn_eq ?_ (by simp)
      simp (disch := omega) [ev_X12_unread_0, ev_X12_unread_1, ev_X12_unread_2, ev_X12_unread_3, ev_X12_unread_4, ev_X12_unread_6, ev_X12_unread_7, ev_X12_unread_8, B_X12_unread_0, B_X12_unread_1, B_X12_unread_2, B_X12_unread_3, B_X12_unread_4, B_X12_unread_5, B_X12_unread_6, B_X12_unread_7, B_X12_unread_8, x_const, x_iadd, x_isub, x_imul, x_idiv, x_irem, x_ineg, x_dup, x_dup_x1, x_dup2, x_pop, x_goto, x_ifeq, x_ifne, x_iflt, x_ifge, x_ifgt, x_ifle, x_cmpeq, x_cmpne, x_cmplt, x_cmpge, x_cmpgt, x_cmple, x_null, x_nonnull, x_acmpeq, x_acmpne, x_get, x_put, x_putz, x_ald, x_ast, x_bast, x_zast, x_aast, x_alen, x_obj, x_ret, x_retz, x_vret, x_max, x_min, x_copy, x_i2l, qg_none, qg_inl, qg_inr, qg_ite, xr1, xr0, xrE, xri, xl0, xl1, xl2, xl3, xl4, xl5, xl6, xl7, xl8, xl9, xl10, xs0, xs1, xs2, xs3, xs4, xs5, xs6, xs7, xs8, xs9, xs10, xi0, xi1, xi2, xi3, xi4, xi5, xi6, xi7, xi8, xi9, xi10, xc0, xc1, xc2, xc3, xc4, xc5, xc6, xc7, xv1, xv2, xv3, xv4, xv5, xv6, xv7, dT_le, dF_le, dT_lt, dF_lt, dT_eq, dF_eq, qa_up_hit, qa_up_no, k77, ni, rg, m_ofReader hK (hRt 0), m_ofBranch hK (hRt 0), e1, e2, u1, lp]
    · rw [if_neg h2] at rg
      rw [zA2_2 h h2, mAns_e]
      unfold f_X12_unread
      refine qa_fn_eq ?_ (by simp)
      simp (disch := omega) [ev_X12_unread_0, ev_X12_unread_1, ev_X12_unread_2, ev_X12_unread_3, ev_X12_unread_4, ev_X12_unread_5, ev_X12_unread_6, ev_X12_unread_7, ev_X12_unread_8, B_X12_unread_0, B_X12_unread_1, B_X12_unread_2, B_X12_unread_3, B_X12_unread_4, B_X12_unread_5, B_X12_unread_6, B_X12_unread_7, B_X12_unread_8, x_const, x_iadd, x_isub, x_imul, x_idiv, x_irem, x_ineg, x_dup, x_dup_x1, x_dup2, x_pop, x_goto, x_ifeq, x_ifne, x_iflt, x_ifge, x_ifgt, x_ifle, x_cmpeq, x_cmpne, x_cmplt, x_cmpge, x_cmpgt, x_cmple, x_null, x_nonnull, x_acmpeq, x_acmpne, x_get, x_put, x_putz, x_ald, x_ast, x_bast, x_zast, x_aast, x_alen, x_obj, x_ret, x_retz, x_vret, x_max, x_min, x_copy, x_i2l, qg_none, qg_inl, qg_inr, qg_ite, xr1, xr0, xrE, xri, xl0, xl1, xl2, xl3, xl4, xl5, xl6, xl7, xl8, xl9, xl10, xs0, xs1, xs2, xs3, xs4, xs5, xs6, xs7, xs8, xs9, xs10, xi0, xi1, xi2, xi3, xi4, xi5, xi6, xi7, xi8, xi9, xi10, xc0, xc1, xc2, xc3, xc4, xc5, xc6, xc7, xv1, xv2, xv3, xv4, xv5, xv6, xv7, dT_le, dF_le, dT_lt, dF_lt, dT_eq, dF_eq, qa_up_hit, qa_up_no, k77, ni, rg]
  · rw [if_neg h] at ni
    rw [zA2_1 h, mAns_e]
    unfold f_X12_unread
    refine qa_fn_eq ?_ (by simp)
    simp (disch := omega) [ev_X12_unread_0, ev_X12_unread_1, ev_X12_unread_2, ev_X12_unread_3, ev_X12_unread_4, ev_X12_unread_5, ev_X12_unread_6, ev_X12_unread_7, ev_X12_unread_8, B_X12_unread_0, B_X12_unread_1, B_X12_unread_2, B_X12_unread_3, B_X12_unread_4, B_X12_unread_5, B_X12_unread_6, B_X12_unread_7, B_X12_unread_8, x_const, x_iadd, x_isub, x_imul, x_idiv, x_irem, x_ineg, x_dup, x_dup_x1, x_dup2, x_pop, x_goto, x_ifeq, x_ifne, x_iflt, x_ifge, x_ifgt, x_ifle, x_cmpeq, x_cmpne, x_cmplt, x_cmpge, x_cmpgt, x_cmple, x_null, x_nonnull, x_acmpeq, x_acmpne, x_get, x_put, x_putz, x_ald, x_ast, x_bast, x_zast, x_aast, x_alen, x_obj, x_ret, x_retz, x_vret, x_max, x_min, x_copy, x_i2l, qg_none, qg_inl, qg_inr, qg_ite, xr1, xr0, xrE, xri, xl0, xl1, xl2, xl3, xl4, xl5, xl6, xl7, xl8, xl9, xl10, xs0, xs1, xs2, xs3, xs4, xs5, xs6, xs7, xs8, xs9, xs10, xi0, xi1, xi2, xi3, xi4, xi5, xi6, xi7, xi8, xi9, xi10, xc0, xc1, xc2, xc3, xc4, xc5, xc6, xc7, xv1, xv2, xv3, xv4, xv5, xv6, xv7, dT_le, dF_le, dT_lt, dF_lt, dT_eq, dF_eq, qa_up_hit, qa_up_no, k77, ni]
theorem mq_promised {m : Int → Int → Int} {kd : Int → Nat × Int} {w : Nat × Nat × Nat} {A : zA} (hK : KM kd) (hR : RM m) (hQ : QR A (m 79)) {M : Int} (hW : zW M A) (i : Int) : f_X12_promised [(1, 77), (0, i)] (m, kd, w) = mAns (zA1 (0 ≤ i) (zff (fun r => zPr A r ∧ zAhead A r (A.2.2.1 r 4) = i) 0 6)) m kd w := by
  have hRt : ∀ t, RM (qa_up m 77 0 t) := fun t => by rw [RM_t]; exact hR
  have hQt : ∀ t, QR A ((qa_up m 77 0 t) 79) := fun t => hQ
  obtain ⟨k77, k78, k79, k80, k81, k82, k83, k84, k85, k86, k87, k88, k89, k90⟩ := id hK
  obtain ⟨r1, r2, r3, r4, r6, r7, r8, r12, r13, r15, r23, r25, r26⟩ := id hR
  obtain ⟨g0, g1, gC, gI, gB, gJ, gR, gD, gE⟩ := id hQ
  by_cases h : 0 ≤ i
  · rw [zA1_v h, mAns_e]
    have loop : ∀ (n : Nat) (k : Int), 0 ≤ k → k + n = 6 → qa_ev P_X12_promised 3 [(1, 77), (0, i), (0, k)] [] (qa_up m 77 0 0, kd, w) = some (.inl (some (0, zff (fun r => zPr A r ∧ zAhead A r (A.2.2.1 r 4) = i) k n)), (qa_up m 77 0 0, kd, w)) := by
      intro n
      induction n with
      | zero =>
        intro k h1 h2
        rw [ev_X12_promised_3]
        simp (disch := omega) [ev_X12_promised_0, ev_X12_promised_1, ev_X12_promised_2, ev_X12_promised_4, ev_X12_promised_5, ev_X12_promised_6, ev_X12_promised_7, B_X12_promised_0, B_X12_promised_1, B_X12_promised_2, B_X12_promised_3, B_X12_promised_4, B_X12_promised_5, B_X12_promised_6, B_X12_promised_7, x_const, x_iadd, x_isub, x_imul, x_idiv, x_irem, x_ineg, x_dup, x_dup_x1, x_dup2, x_pop, x_goto, x_ifeq, x_ifne, x_iflt, x_ifge, x_ifgt, x_ifle, x_cmpeq, x_cmpne, x_cmplt, x_cmpge, x_cmpgt, x_cmple, x_null, x_nonnull, x_acmpeq, x_acmpne, x_get, x_put, x_putz, x_ald, x_ast, x_bast, x_zast, x_aast, x_alen, x_obj, x_ret, x_retz, x_vret, x_max, x_min, x_copy, x_i2l, qg_none, qg_inl, qg_inr, qg_ite, xr1, xr0, xrE, xri, xl0, xl1, xl2, xl3, xl4, xl5, xl6, xl7, xl8, xl9, xl10, xs0, xs1, xs2, xs3, xs4, xs5, xs6, xs7, xs8, xs9, xs10, xi0, xi1, xi2, xi3, xi4, xi5, xi6, xi7, xi8, xi9, xi10, xc0, xc1, xc2, xc3, xc4, xc5, xc6, xc7, xv1, xv2, xv3, xv4, xv5, xv6, xv7, dT_le, dF_le, dT_lt, dF_lt, dT_eq, dF_eq, qa_up_hit, qa_up_no, k77, zff]
      | succ n ih =>
        intro k h1 h2
        have ih' := ih (k + 1) (by omega) (by omega)
        have hp := m_hasPromise (w := w) hK (hRt 0) (hQt 0) k
        have ez1 : (zPr A k ∧ zAhead A k (A.2.2.1 k 4) = i) → zff (fun r => zPr A r ∧ zAhead A r (A.2.2.1 r 4) = i) k (n + 1) = k := fun h => if_pos h
        have ez0 : ¬ (zPr A k ∧ zAhead A k (A.2.2.1 k 4) = i) → zff (fun r => zPr A r ∧ zAhead A r (A.2.2.1 r 4) = i) k (n + 1) = zff (fun r => zPr A r ∧ zAhead A r (A.2.2.1 r 4) = i) (k + 1) n := fun h => if_neg h
        rw [ev_X12_promised_3]
        by_cases hpr : zPr A k
        · rw [if_pos hpr] at hp
          have ha := m_aheadOf (w := w) hK (hRt 0) (hQt 0) hpr.1
          by_cases hi : zAhead A k (A.2.2.1 k 4) = i
          · have ez := ez1 ⟨hpr, hi⟩
            simp (disch := omega) [ev_X12_promised_0, ev_X12_promised_1, ev_X12_promised_2, ev_X12_promised_4, ev_X12_promised_5, ev_X12_promised_6, ev_X12_promised_7, B_X12_promised_0, B_X12_promised_1, B_X12_promised_2, B_X12_promised_3, B_X12_promised_4, B_X12_promised_5, B_X12_promised_6, B_X12_promised_7, x_const, x_iadd, x_isub, x_imul, x_idiv, x_irem, x_ineg, x_dup, x_dup_x1, x_dup2, x_pop, x_goto, x_ifeq, x_ifne, x_iflt, x_ifge, x_ifgt, x_ifle, x_cmpeq, x_cmpne, x_cmplt, x_cmpge, x_cmpgt, x_cmple, x_null, x_nonnull, x_acmpeq, x_acmpne, x_get, x_put, x_putz, x_ald, x_ast, x_bast, x_zast, x_aast, x_alen, x_obj, x_ret, x_retz, x_vret, x_max, x_min, x_copy, x_i2l, qg_none, qg_inl, qg_inr, qg_ite, xr1, xr0, xrE, xri, xl0, xl1, xl2, xl3, xl4, xl5, xl6, xl7, xl8, xl9, xl10, xs0, xs1, xs2, xs3, xs4, xs5, xs6, xs7, xs8, xs9, xs10, xi0, xi1, xi2, xi3, xi4, xi5, xi6, xi7, xi8, xi9, xi10, xc0, xc1, xc2, xc3, xc4, xc5, xc6, xc7, xv1, xv2, xv3, xv4, xv5, xv6, xv7, dT_le, dF_le, dT_lt, dF_lt, dT_eq, dF_eq, qa_up_hit, qa_up_no, k77, hp, ha, hi, ez]
          · have ez := ez0 (fun z => hi z.2)
            simp (disch := omega) [ev_X12_promised_0, ev_X12_promised_1, ev_X12_promised_2, ev_X12_promised_4, ev_X12_promised_5, ev_X12_promised_6, ev_X12_promised_7, B_X12_promised_0, B_X12_promised_1, B_X12_promised_2, B_X12_promised_3, B_X12_promised_4, B_X12_promised_5, B_X12_promised_6, B_X12_promised_7, x_const, x_iadd, x_isub, x_imul, x_idiv, x_irem, x_ineg, x_dup, x_dup_x1, x_dup2, x_pop, x_goto, x_ifeq, x_ifne, x_iflt, x_ifge, x_ifgt, x_ifle, x_cmpeq, x_cmpne, x_cmplt, x_cmpge, x_cmpgt, x_cmple, x_null, x_nonnull, x_acmpeq, x_acmpne, x_get, x_put, x_putz, x_ald, x_ast, x_bast, x_zast, x_aast, x_alen, x_obj, x_ret, x_retz, x_vret, x_max, x_min, x_copy, x_i2l, qg_none, qg_inl, qg_inr, qg_ite, xr1, xr0, xrE, xri, xl0, xl1, xl2, xl3, xl4, xl5, xl6, xl7, xl8, xl9, xl10, xs0, xs1, xs2, xs3, xs4, xs5, xs6, xs7, xs8, xs9, xs10, xi0, xi1, xi2, xi3, xi4, xi5, xi6, xi7, xi8, xi9, xi10, xc0, xc1, xc2, xc3, xc4, xc5, xc6, xc7, xv1, xv2, xv3, xv4, xv5, xv6, xv7, dT_le, dF_le, dT_lt, dF_lt, dT_eq, dF_eq, qa_up_hit, qa_up_no, k77, hp, ha, hi, ez, ih']
        · rw [if_neg hpr] at hp
          have ez := ez0 (fun z => hpr z.1)
          simp (disch := omega) [ev_X12_promised_0, ev_X12_promised_1, ev_X12_promised_2, ev_X12_promised_4, ev_X12_promised_5, ev_X12_promised_6, ev_X12_promised_7, B_X12_promised_0, B_X12_promised_1, B_X12_promised_2, B_X12_promised_3, B_X12_promised_4, B_X12_promised_5, B_X12_promised_6, B_X12_promised_7, x_const, x_iadd, x_isub, x_imul, x_idiv, x_irem, x_ineg, x_dup, x_dup_x1, x_dup2, x_pop, x_goto, x_ifeq, x_ifne, x_iflt, x_ifge, x_ifgt, x_ifle, x_cmpeq, x_cmpne, x_cmplt, x_cmpge, x_cmpgt, x_cmple, x_null, x_nonnull, x_acmpeq, x_acmpne, x_get, x_put, x_putz, x_ald, x_ast, x_bast, x_zast, x_aast, x_alen, x_obj, x_ret, x_retz, x_vret, x_max, x_min, x_copy, x_i2l, qg_none, qg_inl, qg_inr, qg_ite, xr1, xr0, xrE, xri, xl0, xl1, xl2, xl3, xl4, xl5, xl6, xl7, xl8, xl9, xl10, xs0, xs1, xs2, xs3, xs4, xs5, xs6, xs7, xs8, xs9, xs10, xi0, xi1, xi2, xi3, xi4, xi5, xi6, xi7, xi8, xi9, xi10, xc0, xc1, xc2, xc3, xc4, xc5, xc6, xc7, xv1, xv2, xv3, xv4, xv5, xv6, xv7, dT_le, dF_le, dT_lt, dF_lt, dT_eq, dF_eq, qa_up_hit, qa_up_no, k77, hp, ez, ih']
    unfold f_X12_promised
    refine qa_fn_eq ?_ (by simp)
    simp (disch := omega) [ev_X12_promised_0, ev_X12_promised_1, ev_X12_promised_2, ev_X12_promised_4, ev_X12_promised_5, ev_X12_promised_6, ev_X12_promised_7, B_X12_promised_0, B_X12_promised_1, B_X12_promised_2, B_X12_promised_3, B_X12_promised_4, B_X12_promised_5, B_X12_promised_6, B_X12_promised_7, x_const, x_iadd, x_isub, x_imul, x_idiv, x_irem, x_ineg, x_dup, x_dup_x1, x_dup2, x_pop, x_goto, x_ifeq, x_ifne, x_iflt, x_ifge, x_ifgt, x_ifle, x_cmpeq, x_cmpne, x_cmplt, x_cmpge, x_cmpgt, x_cmple, x_null, x_nonnull, x_acmpeq, x_acmpne, x_get, x_put, x_putz, x_ald, x_ast, x_bast, x_zast, x_aast, x_alen, x_obj, x_ret, x_retz, x_vret, x_max, x_min, x_copy, x_i2l, qg_none, qg_inl, qg_inr, qg_ite, xr1, xr0, xrE, xri, xl0, xl1, xl2, xl3, xl4, xl5, xl6, xl7, xl8, xl9, xl10, xs0, xs1, xs2, xs3, xs4, xs5, xs6, xs7, xs8, xs9, xs10, xi0, xi1, xi2, xi3, xi4, xi5, xi6, xi7, xi8, xi9, xi10, xc0, xc1, xc2, xc3, xc4, xc5, xc6, xc7, xv1, xv2, xv3, xv4, xv5, xv6, xv7, dT_le, dF_le, dT_lt, dF_lt, dT_eq, dF_eq, qa_up_hit, qa_up_no, k77, loop 6 0]
  · rw [zA1_1 h, mAns_e]
    unfold f_X12_promised
    refine qa_fn_eq ?_ (by simp)
    simp (disch := omega) [ev_X12_promised_0, ev_X12_promised_1, ev_X12_promised_2, ev_X12_promised_3, ev_X12_promised_4, ev_X12_promised_5, ev_X12_promised_6, ev_X12_promised_7, B_X12_promised_0, B_X12_promised_1, B_X12_promised_2, B_X12_promised_3, B_X12_promised_4, B_X12_promised_5, B_X12_promised_6, B_X12_promised_7, x_const, x_iadd, x_isub, x_imul, x_idiv, x_irem, x_ineg, x_dup, x_dup_x1, x_dup2, x_pop, x_goto, x_ifeq, x_ifne, x_iflt, x_ifge, x_ifgt, x_ifle, x_cmpeq, x_cmpne, x_cmplt, x_cmpge, x_cmpgt, x_cmple, x_null, x_nonnull, x_acmpeq, x_acmpne, x_get, x_put, x_putz, x_ald, x_ast, x_bast, x_zast, x_aast, x_alen, x_obj, x_ret, x_retz, x_vret, x_max, x_min, x_copy, x_i2l, qg_none, qg_inl, qg_inr, qg_ite, xr1, xr0, xrE, xri, xl0, xl1, xl2, xl3, xl4, xl5, xl6, xl7, xl8, xl9, xl10, xs0, xs1, xs2, xs3, xs4, xs5, xs6, xs7, xs8, xs9, xs10, xi0, xi1, xi2, xi3, xi4, xi5, xi6, xi7, xi8, xi9, xi10, xc0, xc1, xc2, xc3, xc4, xc5, xc6, xc7, xv1, xv2, xv3, xv4, xv5, xv6, xv7, dT_le, dF_le, dT_lt, dF_lt, dT_eq, dF_eq, qa_up_hit, qa_up_no, k77]
