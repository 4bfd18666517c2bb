theorem ma_fork {m : Int → Int → Int} {kd : Int → Nat × Int} {w : Nat × Nat × Nat} {A : zA} (hK : KM kd) (hR : RM m) (hQ : QR A (m 79)) {M : Int} (hW : zW M A) {um : Int} {U : Int → zA} (hU : MU um U m) (hUW : ∀ k, 0 ≤ k → k < um → zW M (U k)) (ha : ∀ i, 0 ≤ i → i ≤ 10 → 0 ≤ m 84 i ∧ m 84 i < 100000000) {b : Int} (hb : zBl A b) : (zff (fun b => A.2.1 b 1 = 0) 0 4 = -1 → mRef 2 m kd w (f_X12_forks [(1, 77), (0, b)] (m, kd, w))) ∧ (zff (fun b => A.2.1 b 1 = 0) 0 4 ≠ -1 → mDone um U A (zFork A (zff (fun b => A.2.1 b 1 = 0) 0 4) b) (zff (fun b => A.2.1 b 1 = 0) 0 4) m kd w (f_X12_forks [(1, 77), (0, b)] (m, kd, w))) := by
  obtain ⟨b1, b2, b3⟩ := id hb
  have k77 := hK.1
  have k79 := hK.2.2.1
  have rf := m_refuses (w := w) (r := 2) hK hR (by decide) (ha 2 (by decide) (by decide))
  have rc := m_branchMany (w := w) hK hR hQ
  have hz := zfree (p := fun b => A.2.1 b 1) 4 (fun i i1 i2 => hW.bt i1 (by omega))
  refine ⟨fun h => ⟨by decide, by decide, ?_⟩, fun h => ?_⟩
  · rcases hz with ⟨_, z2⟩ | ⟨z1, _⟩
    · rw [z2] at rc
      unfold f_X12_forks
      refine qa_fn_eq ?_ (by simp)
      simp (disch := omega) [ev_X12_forks_0, ev_X12_forks_1, ev_X12_forks_3, ev_X12_forks_5, ev_X12_forks_7, ev_X12_forks_8, B_X12_forks_0, B_X12_forks_1, B_X12_forks_2, B_X12_forks_3, B_X12_forks_4, B_X12_forks_5, B_X12_forks_6, B_X12_forks_7, B_X12_forks_8, x_const, x_iadd, x_isub, x_imul, x_idiv, x_irem, x_ineg, x_dup, x_dup_x1, x_dup2, x_pop, x_goto, x_ifeq, x_ifne, x_iflt, x_ifge, x_ifgt, x_ifle, x_cmpeq, x_cmpne, x_cmplt, x_cmpge, x_cmpgt, x_cmple, x_null, x_nonnull, x_acmpeq, x_acmpne, x_get, x_put, x_putz, x_ald, x_ast, x_bast, x_zast, x_aast, x_alen, x_obj, x_ret, x_retz, x_vret, x_max, x_min, x_copy, x_i2l, qg_none, qg_inl, qg_inr, qg_ite, xr1, xr0, xrE, xri, xl0, xl1, xl2, xl3, xl4, xl5, xl6, xl7, xl8, xl9, xl10, xs0, xs1, xs2, xs3, xs4, xs5, xs6, xs7, xs8, xs9, xs10, xi0, xi1, xi2, xi3, xi4, xi5, xi6, xi7, xi8, xi9, xi10, xc0, xc1, xc2, xc3, xc4, xc5, xc6, xc7, xv1, xv2, xv3, xv4, xv5, xv6, xv7, dT_le, dF_le, dT_lt, dF_lt, k77, rc, rf]
    · exact absurd h z1
  · obtain ⟨m1, i1, i2, i3, i4, i5, i6, i7, i8⟩ := m_keeps (w := w) hK hR hQ hW hU hUW (ha 0 (by decide) (by decide))
    have hR1 := zfk_RM i3 hR
    have hQ1 : QR A (m1 79) := by rw [i4]; exact hQ
    rcases hz with ⟨z1, _⟩ | ⟨_, z2, z3, z4, z5⟩
    · exact absurd z1 h
    have lp2 := m_forks2 (w := w) hK hR1 hQ1 hW (b := b) 4 0 (by decide) (by decide) h
    generalize zff (fun b => A.2.1 b 1 = 0) 0 4 = f at z3 z4 z5 h lp2 ⊢
    have hbf : b ≠ f := fun z => by rw [← z] at z5; omega
    have hbn := hW.bn hb
    have lp4 := m_forks4 (w := w) hK hR1 ⟨b1, b2⟩ ⟨z3, by omega⟩ hbf 7 0 (by decide) (by decide)
    rw [qa_cp_0] at lp4
    obtain ⟨g0, g1, gC, gI, gB, gJ, gR, gD, gE⟩ := id hQ1
    obtain ⟨u1, u2, u3, u4, u5, u6⟩ := gB b b1 b2 b3
    have u0 := gI b b1 b2
    rw [b3] at u0
    generalize hm2 : qa_cp m1 79 (6 + 7 * b) 79 (6 + 7 * f) 7 = m2 at lp4
    have n2 : ∀ c i, (c ≠ 79 ∨ i < 6 + 7 * f ∨ 6 + 7 * f + 7 ≤ i) → m2 c i = m1 c i := fun c i hh => by
      rw [← hm2]; exact qa_cp_no hh
    have y2 : ∀ j, 0 ≤ j → j < 7 → m2 79 (6 + 7 * f + j) = m1 79 (6 + 7 * b + j) := fun j a1 a2 => by
      rw [← hm2, qa_cp_y (by omega) (by omega)]
      congr 1
      omega
    have o2 : ∀ c, c ≠ 79 → m2 c = m1 c := fun c hc => by
      funext i
      exact n2 c i (Or.inl hc)
    have hR2 : RM m2 := zfm_RM (zfm_o o2) hR1
    have hR3 : RM (qa_up m2 79 (6 + 7 * f + 4) b) := by rw [RM_u]; exact hR2
    have v1 : m2 79 (6 + 7 * b + 1) = A.2.1 b 4 := by rw [n2 _ _ (by omega)]; exact u1
    have v2 : m2 79 (6 + 7 * b + 2) = A.2.1 b 5 - A.2.1 b 4 := by rw [n2 _ _ (by omega)]; exact u2
    have pl : f_X12_endOf [(1, 77), (0, b)] (qa_up m2 79 (6 + 7 * f + 4) b, kd, w) = some (.inl (some (0, A.2.1 b 5)), (qa_up m2 79 (6 + 7 * f + 4) b, kd, w)) := by
      unfold f_X12_endOf
      refine qa_fn_eq ?_ (by simp)
      simp (disch := omega) [ev_X12_endOf_0, B_X12_endOf_0, x_const, x_iadd, x_isub, x_imul, x_idiv, x_irem, x_ineg, x_dup, x_dup_x1, x_dup2, x_pop, x_goto, x_ifeq, x_ifne, x_iflt, x_ifge, x_ifgt, x_ifle, x_cmpeq, x_cmpne, x_cmplt, x_cmpge, x_cmpgt, x_cmple, x_null, x_nonnull, x_acmpeq, x_acmpne, x_get, x_put, x_putz, x_ald, x_ast, x_bast, x_zast, x_aast, x_alen, x_obj, x_ret, x_retz, x_vret, x_max, x_min, x_copy, x_i2l, qg_none, qg_inl, qg_inr, qg_ite, xr1, xr0, xrE, xri, xl0, xl1, xl2, xl3, xl4, xl5, xl6, xl7, xl8, xl9, xl10, xs0, xs1, xs2, xs3, xs4, xs5, xs6, xs7, xs8, xs9, xs10, xi0, xi1, xi2, xi3, xi4, xi5, xi6, xi7, xi8, xi9, xi10, xc0, xc1, xc2, xc3, xc4, xc5, xc6, xc7, xv1, xv2, xv3, xv4, xv5, xv6, xv7, dT_le, dF_le, dT_lt, dF_lt, dT_eq, dF_eq, qa_up_hit, qa_up_no, k77, m_ofBranch hK hR3, v1, v2]
    have r22 : m2 77 2 = 79 := hR2.2.1
    generalize hm4 : qa_up (qa_up (qa_up m2 79 (6 + 7 * f + 4) b) 79 (6 + 7 * f + 5) (A.2.1 b 5)) 79 (6 + 7 * f + 6) 0 = m4
    have n4 : ∀ c i, (c ≠ 79 ∨ (i ≠ 6 + 7 * f + 4 ∧ i ≠ 6 + 7 * f + 5 ∧ i ≠ 6 + 7 * f + 6)) → m4 c i = m2 c i := fun c i hh => by
      rw [← hm4, qa_up_no _ (by omega), qa_up_no _ (by omega), qa_up_no _ (by omega)]
    have o4 : ∀ c, c ≠ 79 → m4 c = m1 c := fun c hc => by
      funext i
      rw [n4 c i (Or.inl hc), o2 c hc]
    have hR4 : RM m4 := zfm_RM (zfm_o o4) hR1
    have hc4 : m4 79 (6 + 7 * b + 2) = A.2.1 b 5 - A.2.1 b 4 := by rw [n4 _ _ (by omega), n2 _ _ (by omega)]; exact u2
    have lp6 := m_forks6 (w := w) hK hR4 ⟨b1, b2⟩ ⟨z3, by omega⟩ hbf hc4 ⟨by omega, by omega⟩ (A.2.1 b 5 - A.2.1 b 4).toNat 0 (by decide) (by omega)
    rw [zce_0] at lp6
    generalize hm5 : zce m4 f b (A.2.1 b 5 - A.2.1 b 4) = m5 at lp6
    have o5 : ∀ c, c ≠ 79 → m5 c = m1 c := fun c hc => by
      funext i
      rw [← hm5, zce_no (Or.inl hc), o4 c hc]
    have q5 : ∀ i, (i < 6 + 7 * f ∨ 6 + 7 * f + 7 ≤ i) → (i < 190 + 1804 * f ∨ 190 + 1804 * f + (A.2.1 b 5 - A.2.1 b 4) ≤ i) → (i < 7406 + 1804 * f ∨ 7406 + 1804 * f + (A.2.1 b 5 - A.2.1 b 4) ≤ i) → m5 79 i = m1 79 i := fun i x1 x2 x3 => by
      rw [← hm5, zce_no (by omega), n4 _ _ (by omega), n2 _ _ (by omega)]
    have p5 : ∀ j, 0 ≤ j → j < 4 → m5 79 (6 + 7 * f + j) = m1 79 (6 + 7 * b + j) := fun j a1 a2 => by
      rw [← hm5, zce_no (by omega), n4 _ _ (by omega), y2 j a1 (by omega)]
    have hQ5 : QR (zFork A f b) (m5 79) := by
      refine QR_br hQ1 (k := f) (g' := A.1) (B' := (zFork A f b).2.1) (E' := (zFork A f b).2.2.2) z3 (by omega) (by rw [q5 0 (by omega) (by omega) (by omega)]; exact g0) (by rw [q5 1 (by omega) (by omega) (by omega)]; exact g1) (fun i a1 a2 => by rw [q5 _ (by omega) (by omega) (by omega)]; exact gC i a1 a2) (fun i a1 a2 => q5 _ (by omega) (by omega) (by omega)) (fun b' i a1 a2 a3 x1 x2 => q5 _ (by omega) (by omega) (by omega)) (fun b' i a1 a2 a3 x1 x2 => ⟨q5 _ (by omega) (by omega) (by omega), q5 _ (by omega) (by omega) (by omega)⟩) (fun b' j e => zFork_o A j e) (fun b' p j e => zFork_eo A p j e) (fun b' _ a1 a2 a3 => by have := hW.bn ⟨a1, a2, a3⟩; omega) ?_ (fun _ => ?_) (fun _ i a1 a2 => ?_)
      · have := p5 0 (by decide) (by decide)
        rw [Int.add_zero, Int.add_zero, u0] at this
        rw [this, zFork_f]; rfl
      · rw [p5 1 (by decide) (by decide), p5 2 (by decide) (by decide), p5 3 (by decide) (by decide)]
        refine ⟨by rw [zFork_f]; exact u1, by rw [zFork_f, zFork_f]; exact u2, by rw [zFork_f]; exact u3, ?_, ?_, ?_⟩
        · rw [← hm5, zce_no (by omega), ← hm4, qa_up_no _ (by omega), qa_up_no _ (by omega), qa_up_hit, zFork_f]; rfl
        · rw [← hm5, zce_no (by omega), ← hm4, qa_up_no _ (by omega), qa_up_hit, zFork_f]; rfl
        · rw [← hm5, zce_no (by omega), ← hm4, qa_up_hit, zFork_f]; rfl
      · have a2' : i < A.2.1 b 5 - A.2.1 b 4 := by rw [zFork_f, zFork_f] at a2; exact a2
        have e4 : (zFork A f b).2.1 f 4 = A.2.1 b 4 := by rw [zFork_f]; rfl
        rw [e4, zFork_ef, zFork_ef, zFork_ef, zFork_ef, ← hm5, zce_t ⟨a1, a2'⟩, zce_r ⟨z3, by omega⟩ ⟨a1, a2'⟩ (by omega), n4 _ _ (by omega), n4 _ _ (by omega), n2 _ _ (by omega), n2 _ _ (by omega)]
        exact gE b i b1 b2 b3 a1 a2'
    refine mDone_of (m1 := m1) (m2 := m5) ?_ i2 i3 i5 i6 i7 i8 (zfm_o o5) hQ5 (fun X h1 h2 => zcb_same h2 (fun i hi => by rw [o5 77 (by decide)]) (o5 85 (by decide)))
    unfold f_X12_forks
    refine qa_fn_eq ?_ (by simp)
    simp (disch := omega) [ev_X12_forks_0, ev_X12_forks_1, ev_X12_forks_3, ev_X12_forks_5, ev_X12_forks_7, ev_X12_forks_8, B_X12_forks_0, B_X12_forks_1, B_X12_forks_2, B_X12_forks_3, B_X12_forks_4, B_X12_forks_5, B_X12_forks_6, B_X12_forks_7, B_X12_forks_8, x_const, x_iadd, x_isub, x_imul, x_idiv, x_irem, x_ineg, x_dup, x_dup_x1, x_dup2, x_pop, x_goto, x_ifeq, x_ifne, x_iflt, x_ifge, x_ifgt, x_ifle, x_cmpeq, x_cmpne, x_cmplt, x_cmpge, x_cmpgt, x_cmple, x_null, x_nonnull, x_acmpeq, x_acmpne, x_get, x_put, x_putz, x_ald, x_ast, x_bast, x_zast, x_aast, x_alen, x_obj, x_ret, x_retz, x_vret, x_max, x_min, x_copy, x_i2l, qg_none, qg_inl, qg_inr, qg_ite, xr1, xr0, xrE, xri, xl0, xl1, xl2, xl3, xl4, xl5, xl6, xl7, xl8, xl9, xl10, xs0, xs1, xs2, xs3, xs4, xs5, xs6, xs7, xs8, xs9, xs10, xi0, xi1, xi2, xi3, xi4, xi5, xi6, xi7, xi8, xi9, xi10, xc0, xc1, xc2, xc3, xc4, xc5, xc6, xc7, xv1, xv2, xv3, xv4, xv5, xv6, xv7, dT_le, dF_le, dT_lt, dF_lt, dT_eq, dF_eq, qa_up_hit, qa_up_no, k77, k79, rc, i1, lp2, lp4, r22, m_branchAt, pl, hm4, lp6]
