theorem m_hasLow {m : Int → Int → Int} {kd : Int → Nat × Int} {w : Nat × Nat × Nat} {A : zA} (hK : KM kd) (hR : RM m) (hQ : QR A (m 79)) {M : Int} (hW : zW M A) {b : Int} (hb : zBl A b) : f_X12_hasLow [(1, 77), (0, b)] (m, kd, w) = some (.inl (some (0, if 0 < zNotBehind A b (A.2.1 b 3 - 1) then 1 else 0)), (m, kd, w)) := by
  obtain ⟨b1, b2, b3⟩ := id hb
  obtain ⟨k77, k78, k79, k80, k81, k82, k83, k84, k85, k86, k87, k88, k89, k90⟩ := id hK
  obtain ⟨r1, r2, r3, r4, r6, r7, r8, r12, r13, r15, r23, r25, r26⟩ := id hR
  obtain ⟨g0, g1, gC, gI, gB, gJ, gR, gD, gE⟩ := id hQ
  have u5 := (gB b b1 b2 b3).2.2.2.2.1
  have loop : ∀ (n : Nat) (k h : Int), 0 ≤ k → k + n = 6 → h = 0 ∨ h = 1 → qa_ev P_X12_hasLow 1 [(1, 77), (0, b), (0, h), (0, k)] [] (m, kd, w) = some (.inl (some (0, if h = 1 ∨ 0 < zsf (fun r => if zIn A r b ∧ A.2.2.1 r 2 ≤ A.2.1 b 3 - 1 then 1 else 0) k n then 1 else 0)), (m, kd, w)) := by
    intro n
    induction n with
    | zero =>
      intro k h h1 h2 h3
      rw [ev_X12_hasLow_1]
      rcases h3 with rfl | rfl
      · simp (disch := omega) [ev_X12_hasLow_0, ev_X12_hasLow_2, ev_X12_hasLow_3, ev_X12_hasLow_4, ev_X12_hasLow_5, B_X12_hasLow_0, B_X12_hasLow_1, B_X12_hasLow_2, B_X12_hasLow_3, B_X12_hasLow_4, B_X12_hasLow_5, x_const, x_iadd, x_isub, x_imul, x_idiv, x_irem, x_ineg, x_dup, x_dup_x1, x_dup2, x_pop, x_goto, x_ifeq, x_ifne, x_iflt, x_ifge, x_ifgt, x_ifle, x_cmpeq, x_cmpne, x_cmplt, x_cmpge, x_cmpgt, x_cmple, x_null, x_nonnull, x_acmpeq, x_acmpne, x_get, x_put, x_putz, x_ald, x_ast, x_bast, x_zast, x_aast, x_alen, x_obj, x_ret, x_retz, x_vret, x_max, x_min, x_copy, x_i2l, qg_none, qg_inl, qg_inr, qg_ite, xr1, xr0, xrE, xri, xl0, xl1, xl2, xl3, xl4, xl5, xl6, xl7, xl8, xl9, xl10, xs0, xs1, xs2, xs3, xs4, xs5, xs6, xs7, xs8, xs9, xs10, xi0, xi1, xi2, xi3, xi4, xi5, xi6, xi7, xi8, xi9, xi10, xc0, xc1, xc2, xc3, xc4, xc5, xc6, xc7, xv1, xv2, xv3, xv4, xv5, xv6, xv7, dT_le, dF_le, dT_lt, dF_lt, zsf]
      · simp (disch := omega) [ev_X12_hasLow_0, ev_X12_hasLow_2, ev_X12_hasLow_3, ev_X12_hasLow_4, ev_X12_hasLow_5, B_X12_hasLow_0, B_X12_hasLow_1, B_X12_hasLow_2, B_X12_hasLow_3, B_X12_hasLow_4, B_X12_hasLow_5, x_const, x_iadd, x_isub, x_imul, x_idiv, x_irem, x_ineg, x_dup, x_dup_x1, x_dup2, x_pop, x_goto, x_ifeq, x_ifne, x_iflt, x_ifge, x_ifgt, x_ifle, x_cmpeq, x_cmpne, x_cmplt, x_cmpge, x_cmpgt, x_cmple, x_null, x_nonnull, x_acmpeq, x_acmpne, x_get, x_put, x_putz, x_ald, x_ast, x_bast, x_zast, x_aast, x_alen, x_obj, x_ret, x_retz, x_vret, x_max, x_min, x_copy, x_i2l, qg_none, qg_inl, qg_inr, qg_ite, xr1, xr0, xrE, xri, xl0, xl1, xl2, xl3, xl4, xl5, xl6, xl7, xl8, xl9, xl10, xs0, xs1, xs2, xs3, xs4, xs5, xs6, xs7, xs8, xs9, xs10, xi0, xi1, xi2, xi3, xi4, xi5, xi6, xi7, xi8, xi9, xi10, xc0, xc1, xc2, xc3, xc4, xc5, xc6, xc7, xv1, xv2, xv3, xv4, xv5, xv6, xv7, dT_le, dF_le, dT_lt, dF_lt, zsf]
    | succ n ih =>
      intro k h h1 h2 h3
      have hn := (zsf_01 (g := fun r => if zIn A r b ∧ A.2.2.1 r 2 ≤ A.2.1 b 3 - 1 then 1 else 0) (fun i => by split <;> omega) n (k + 1)).1
      have ez : zsf (fun r => if zIn A r b ∧ A.2.2.1 r 2 ≤ A.2.1 b 3 - 1 then 1 else 0) k (n + 1) = (if zIn A k b ∧ A.2.2.1 k 2 ≤ A.2.1 b 3 - 1 then 1 else 0) + zsf (fun r => if zIn A r b ∧ A.2.2.1 r 2 ≤ A.2.1 b 3 - 1 then 1 else 0) (k + 1) n := rfl
      rw [ez]
      generalize hs : zsf (fun r => if zIn A r b ∧ A.2.2.1 r 2 ≤ A.2.1 b 3 - 1 then 1 else 0) (k + 1) n = sm at hn ih ⊢
      have i0 := ih (k + 1) 0 (by omega) (by omega) (Or.inl rfl)
      have i1 := ih (k + 1) 1 (by omega) (by omega) (Or.inr rfl)
      rw [hs] at i0 i1
      rw [if_pos (Or.inl rfl)] at i1
      rw [ev_X12_hasLow_1]
      rcases h3 with rfl | rfl
      · have e1 := m_isIn (w := w) hK hR hQ k b
        by_cases hz : zIn A k b
        · rw [if_pos hz] at e1
          have e2 := gR k 2 h1 (by omega) hz.1.2.2 (by decide) (by decide)
          by_cases hp : A.2.2.1 k 2 ≤ A.2.1 b 3 - 1
          · have hx : (if zIn A k b ∧ A.2.2.1 k 2 ≤ A.2.1 b 3 - 1 then 1 else 0 : Int) = 1 := if_pos ⟨hz, hp⟩
            rw [hx, if_pos (by omega)]
            simp (disch := omega) [ev_X12_hasLow_0, ev_X12_hasLow_2, ev_X12_hasLow_3, ev_X12_hasLow_4, ev_X12_hasLow_5, B_X12_hasLow_0, B_X12_hasLow_1, B_X12_hasLow_2, B_X12_hasLow_3, B_X12_hasLow_4, B_X12_hasLow_5, x_const, x_iadd, x_isub, x_imul, x_idiv, x_irem, x_ineg, x_dup, x_dup_x1, x_dup2, x_pop, x_goto, x_ifeq, x_ifne, x_iflt, x_ifge, x_ifgt, x_ifle, x_cmpeq, x_cmpne, x_cmplt, x_cmpge, x_cmpgt, x_cmple, x_null, x_nonnull, x_acmpeq, x_acmpne, x_get, x_put, x_putz, x_ald, x_ast, x_bast, x_zast, x_aast, x_alen, x_obj, x_ret, x_retz, x_vret, x_max, x_min, x_copy, x_i2l, qg_none, qg_inl, qg_inr, qg_ite, xr1, xr0, xrE, xri, xl0, xl1, xl2, xl3, xl4, xl5, xl6, xl7, xl8, xl9, xl10, xs0, xs1, xs2, xs3, xs4, xs5, xs6, xs7, xs8, xs9, xs10, xi0, xi1, xi2, xi3, xi4, xi5, xi6, xi7, xi8, xi9, xi10, xc0, xc1, xc2, xc3, xc4, xc5, xc6, xc7, xv1, xv2, xv3, xv4, xv5, xv6, xv7, dT_le, dF_le, dT_lt, dF_lt, k77, e1, m_ofReader hK hR, m_ofBranch hK hR, e2, u5, i1]
          · have hx : (if zIn A k b ∧ A.2.2.1 k 2 ≤ A.2.1 b 3 - 1 then 1 else 0 : Int) = 0 := if_neg (fun z => hp z.2)
            rw [hx, Int.zero_add]
            simp (disch := omega) [ev_X12_hasLow_0, ev_X12_hasLow_2, ev_X12_hasLow_3, ev_X12_hasLow_4, ev_X12_hasLow_5, B_X12_hasLow_0, B_X12_hasLow_1, B_X12_hasLow_2, B_X12_hasLow_3, B_X12_hasLow_4, B_X12_hasLow_5, x_const, x_iadd, x_isub, x_imul, x_idiv, x_irem, x_ineg, x_dup, x_dup_x1, x_dup2, x_pop, x_goto, x_ifeq, x_ifne, x_iflt, x_ifge, x_ifgt, x_ifle, x_cmpeq, x_cmpne, x_cmplt, x_cmpge, x_cmpgt, x_cmple, x_null, x_nonnull, x_acmpeq, x_acmpne, x_get, x_put, x_putz, x_ald, x_ast, x_bast, x_zast, x_aast, x_alen, x_obj, x_ret, x_retz, x_vret, x_max, x_min, x_copy, x_i2l, qg_none, qg_inl, qg_inr, qg_ite, xr1, xr0, xrE, xri, xl0, xl1, xl2, xl3, xl4, xl5, xl6, xl7, xl8, xl9, xl10, xs0, xs1, xs2, xs3, xs4, xs5, xs6, xs7, xs8, xs9, xs10, xi0, xi1, xi2, xi3, xi4, xi5, xi6, xi7, xi8, xi9, xi10, xc0, xc1, xc2, xc3, xc4, xc5, xc6, xc7, xv1, xv2, xv3, xv4, xv5, xv6, xv7, dT_le, dF_le, dT_lt, dF_lt, k77, e1, m_ofReader hK hR, m_ofBranch hK hR, e2, u5, i0]
        · rw [if_neg hz] at e1
          have hx : (if zIn A k b ∧ A.2.2.1 k 2 ≤ A.2.1 b 3 - 1 then 1 else 0 : Int) = 0 := if_neg (fun z => hz z.1)
          rw [hx, Int.zero_add]
          simp (disch := omega) [ev_X12_hasLow_0, ev_X12_hasLow_2, ev_X12_hasLow_3, ev_X12_hasLow_4, ev_X12_hasLow_5, B_X12_hasLow_0, B_X12_hasLow_1, B_X12_hasLow_2, B_X12_hasLow_3, B_X12_hasLow_4, B_X12_hasLow_5, x_const, x_iadd, x_isub, x_imul, x_idiv, x_irem, x_ineg, x_dup, x_dup_x1, x_dup2, x_pop, x_goto, x_ifeq, x_ifne, x_iflt, x_ifge, x_ifgt, x_ifle, x_cmpeq, x_cmpne, x_cmplt, x_cmpge, x_cmpgt, x_cmple, x_null, x_nonnull, x_acmpeq, x_acmpne, x_get, x_put, x_putz, x_ald, x_ast, x_bast, x_zast, x_aast, x_alen, x_obj, x_ret, x_retz, x_vret, x_max, x_min, x_copy, x_i2l, qg_none, qg_inl, qg_inr, qg_ite, xr1, xr0, xrE, xri, xl0, xl1, xl2, xl3, xl4, xl5, xl6, xl7, xl8, xl9, xl10, xs0, xs1, xs2, xs3, xs4, xs5, xs6, xs7, xs8, xs9, xs10, xi0, xi1, xi2, xi3, xi4, xi5, xi6, xi7, xi8, xi9, xi10, xc0, xc1, xc2, xc3, xc4, xc5, xc6, xc7, xv1, xv2, xv3, xv4, xv5, xv6, xv7, dT_le, dF_le, dT_lt, dF_lt, k77, e1, i0]
      · rw [if_pos (Or.inl rfl)]
        simp (disch := omega) [ev_X12_hasLow_0, ev_X12_hasLow_2, ev_X12_hasLow_3, ev_X12_hasLow_4, ev_X12_hasLow_5, B_X12_hasLow_0, B_X12_hasLow_1, B_X12_hasLow_2, B_X12_hasLow_3, B_X12_hasLow_4, B_X12_hasLow_5, x_const, x_iadd, x_isub, x_imul, x_idiv, x_irem, x_ineg, x_dup, x_dup_x1, x_dup2, x_pop, x_goto, x_ifeq, x_ifne, x_iflt, x_ifge, x_ifgt, x_ifle, x_cmpeq, x_cmpne, x_cmplt, x_cmpge, x_cmpgt, x_cmple, x_null, x_nonnull, x_acmpeq, x_acmpne, x_get, x_put, x_putz, x_ald, x_ast, x_bast, x_zast, x_aast, x_alen, x_obj, x_ret, x_retz, x_vret, x_max, x_min, x_copy, x_i2l, qg_none, qg_inl, qg_inr, qg_ite, xr1, xr0, xrE, xri, xl0, xl1, xl2, xl3, xl4, xl5, xl6, xl7, xl8, xl9, xl10, xs0, xs1, xs2, xs3, xs4, xs5, xs6, xs7, xs8, xs9, xs10, xi0, xi1, xi2, xi3, xi4, xi5, xi6, xi7, xi8, xi9, xi10, xc0, xc1, xc2, xc3, xc4, xc5, xc6, xc7, xv1, xv2, xv3, xv4, xv5, xv6, xv7, dT_le, dF_le, dT_lt, dF_lt, i1]
  have lp := loop 6 0 0 (by decide) (by decide) (Or.inl rfl)
  have en : zsf (fun r => if zIn A r b ∧ A.2.2.1 r 2 ≤ A.2.1 b 3 - 1 then 1 else 0) 0 6 = zNotBehind A b (A.2.1 b 3 - 1) := rfl
  rw [en] at lp
  unfold f_X12_hasLow
  refine qa_fn_eq ?_ (by simp)
  simp (disch := omega) [ev_X12_hasLow_0, ev_X12_hasLow_2, ev_X12_hasLow_3, ev_X12_hasLow_4, ev_X12_hasLow_5, B_X12_hasLow_0, B_X12_hasLow_1, B_X12_hasLow_2, B_X12_hasLow_3, B_X12_hasLow_4, B_X12_hasLow_5, x_const, x_iadd, x_isub, x_imul, x_idiv, x_irem, x_ineg, x_dup, x_dup_x1, x_dup2, x_pop, x_goto, x_ifeq, x_ifne, x_iflt, x_ifge, x_ifgt, x_ifle, x_cmpeq, x_cmpne, x_cmplt, x_cmpge, x_cmpgt, x_cmple, x_null, x_nonnull, x_acmpeq, x_acmpne, x_get, x_put, x_putz, x_ald, x_ast, x_bast, x_zast, x_aast, x_alen, x_obj, x_ret, x_retz, x_vret, x_max, x_min, x_copy, x_i2l, qg_none, qg_inl, qg_inr, qg_ite, xr1, xr0, xrE, xri, xl0, xl1, xl2, xl3, xl4, xl5, xl6, xl7, xl8, xl9, xl10, xs0, xs1, xs2, xs3, xs4, xs5, xs6, xs7, xs8, xs9, xs10, xi0, xi1, xi2, xi3, xi4, xi5, xi6, xi7, xi8, xi9, xi10, xc0, xc1, xc2, xc3, xc4, xc5, xc6, xc7, xv1, xv2, xv3, xv4, xv5, xv6, xv7, dT_le, dF_le, dT_lt, dF_lt, lp]
theorem QR_mv {A : zA} {m' : Int → Int → Int} {b p sh k v : Int} (k1 : 0 ≤ k) (k2 : k < 6) (hz : zIn A k b) (hQ : QR (zMv A b p sh k) (m' 79)) (hv : v = A.2.2.1 k 2 + sh) : QR (zMv A b p sh (k + 1)) ((qa_up (qa_up m' 79 (34 + 26 * k + 1) p) 79 (34 + 26 * k + 2) v) 79) := by
  obtain ⟨g0, g1, gC, gI, gB, gJ, gR, gD, gE⟩ := id hQ
  have ht := hz.1.2.2
  refine QR_rd hQ (k := k) (R' := (zMv A b p sh (k + 1)).2.2.1) k1 k2 (fun i hi => ?_) (fun r j hr => zMv_n hr j) ?_ (fun _ j j1 j2 => ?_) (fun _ h9 j j1 j2 => ?_)
  · rw [qa_up_no _ (by omega), qa_up_no _ (by omega)]
  · rw [qa_up_no _ (by omega), qa_up_no _ (by omega), zMv_j _ (by decide) (by decide), ← zMv_at A b p sh k 0]
    exact gJ k k1 k2
  · rw [zMv_y _ _ ⟨by omega, hz⟩]
    unfold qa_up
    by_cases j1' : j = 1
    · subst j1'; simp
    · by_cases j2' : j = 2
      · subst j2'; simp [hv]
      · simp only [j1', j2', if_false]
        rw [if_neg (by omega), if_neg (by omega)]
        have := gR k j k1 k2 (by rw [zMv_at]; exact ht) j1 j2
        rw [zMv_at] at this
        exact this
  · rw [qa_up_no _ (by omega), qa_up_no _ (by omega), zMv_j _ (by omega) (by omega), ← zMv_at A b p sh k j]
    exact gD k j k1 k2 (by rw [zMv_at]; exact ht) (by rw [zMv_at, ← zMv_j A (b := b) (p := p) (sh := sh) (k := k + 1) (by decide) (by decide)]; exact h9) j1 j2
theorem m_mg1s {kd : Int → Nat × Int} {w : Nat × Nat × Nat} {m' m2 : Int → Int → Int} {b p e0 s0 k kk mn tm rest : Int} (k77 : kd 77 = (15, 0)) (k79 : kd 79 = (101, 14622)) (r2' : m' 77 2 = 79) (ob : f_X12_ofBranch [(1, 77), (0, b), (0, 2)] (m', kd, w) = some (.inl (some (0, mn)), (m', kd, w))) (tt : f_X12_timeOf [(1, 77), (0, b), (0, kk)] (m', kd, w) = some (.inl (some (0, tm)), (m', kd, w))) (ea : f_X12_entryAt [(0, b), (0, kk)] (m', kd, w) = some (.inl (some (0, 1804 * b + kk)), (m', kd, w))) (ee : m' 79 (7406 + (1804 * b + kk)) = rest) (a1 : f_X12_adds [(1, 77), (0, p), (0, tm), (0, rest)] (m', kd, w) = some (.inl none, (m2, kd, w))) (h1 : 0 ≤ kk ∧ kk < mn) (h2 : 0 ≤ k ∧ k ≤ 512) (h3 : mn ≤ 512) (b1 : 0 ≤ b) (b2 : b < 4) : qa_ev P_X12_merges 7 [(1, 77), (0, b), (0, 0), (0, p), (0, e0), (0, s0), (0, k), (0, kk)] [] (m', kd, w) = qa_ev P_X12_merges 7 [(1, 77), (0, b), (0, 0), (0, p), (0, e0), (0, s0), (0, k + 1), (0, kk + 1)] [] (m2, kd, w) := by
  rw [ev_X12_merges_7]
  simp (disch := omega) [ev_X12_merges_0, ev_X12_merges_1, ev_X12_merges_2, ev_X12_merges_3, ev_X12_merges_4, ev_X12_merges_5, ev_X12_merges_6, ev_X12_merges_10, ev_X12_merges_11, ev_X12_merges_12, B_X12_merges_0, B_X12_merges_1, B_X12_merges_2, B_X12_merges_3, B_X12_merges_4, B_X12_merges_5, B_X12_merges_6, B_X12_merges_7, B_X12_merges_8, B_X12_merges_9, B_X12_merges_10, B_X12_merges_11, B_X12_merges_12, x_const, x_iadd, x_isub, x_imul, x_idiv, x_irem, x_ineg, x_dup, x_dup_x1, x_dup2, x_pop, x_goto, x_ifeq, x_ifne, x_iflt, x_ifge, x_ifgt, x_ifle, x_cmpeq, x_cmpne, x_cmplt, x_cmpge, x_cmpgt, x_cmple, x_null, x_nonnull, x_acmpeq, x_acmpne, x_get, x_put, x_putz, x_ald, x_ast, x_bast, x_zast, x_aast, x_alen, x_obj, x_ret, x_retz, x_vret, x_max, x_min, x_copy, x_i2l, qg_none, qg_inl, qg_inr, qg_ite, xr1, xr0, xrE, xri, xl0, xl1, xl2, xl3, xl4, xl5, xl6, xl7, xl8, xl9, xl10, xs0, xs1, xs2, xs3, xs4, xs5, xs6, xs7, xs8, xs9, xs10, xi0, xi1, xi2, xi3, xi4, xi5, xi6, xi7, xi8, xi9, xi10, xc0, xc1, xc2, xc3, xc4, xc5, xc6, xc7, xv1, xv2, xv3, xv4, xv5, xv6, xv7, dT_le, dF_le, dT_lt, dF_lt, k77, k79, ob, tt, r2', ea, ee, a1]
theorem m_mg1 {kd : Int → Nat × Int} {w : Nat × Nat × Nat} {A : zA} {M : Int} (hK : KM kd) (hW : zW M A) (hM : M + 512 < 500000) {b p s0 : Int} {cnt : Nat} (hb : zBl A b) (hp : zBl A p) (hne : b ≠ p) (s1 : A.2.1 b 4 ≤ s0) (ec2 : s0 + cnt = A.2.1 b 5) (h5' : A.2.1 p 5 + cnt ≤ 512) : ∀ (q k : Nat) (m' : Int → Int → Int), k + q = cnt → RM m' → QR (zMg A b p s0 k) (m' 79) → ∃ m'', qa_ev P_X12_merges 7 [(1, 77), (0, b), (0, 0), (0, p), (0, A.2.1 p 5), (0, s0), (0, k), (0, s0 - A.2.1 b 4 + k)] [] (m', kd, w) = qa_ev P_X12_merges 8 [(1, 77), (0, b), (0, 0), (0, p), (0, A.2.1 p 5), (0, s0), (0, cnt), (0, A.2.1 b 5 - A.2.1 b 4)] [] (m'', kd, w) ∧ QR (zMg A b p s0 cnt) (m'' 79) ∧ ∀ c, c ≠ 79 → m'' c = m' c := by
  obtain ⟨b1, b2, b3⟩ := id hb
  obtain ⟨p1, p2, p3⟩ := id hp
  have hbn := hW.bn hb
  have hpn := hW.bn hp
  have k77 := hK.1
  have k79 := hK.2.2.1
  intro q
  induction q with
  | zero =>
    intro k m' h1 hR' hQ'
    obtain rfl : k = cnt := by omega
    obtain ⟨j1, j2, j3, j4, j5, j6, j7⟩ := zMg_f hW hb hp hne s1 k (by omega) (by omega) (by omega)
    have hbk : (zMg A b p s0 k).2.1 b 1 = 1 := by rw [j2 b hne]; exact b3
    have v2 := (hQ'.2.2.2.2.1 b b1 b2 hbk).2.1
    rw [j2 b hne, j2 b hne] at v2
    refine ⟨m', ?_, hQ', fun _ _ => rfl⟩
    rw [ev_X12_merges_7]
    simp (disch := omega) [ev_X12_merges_0, ev_X12_merges_1, ev_X12_merges_2, ev_X12_merges_3, ev_X12_merges_4, ev_X12_merges_5, ev_X12_merges_6, ev_X12_merges_10, ev_X12_merges_11, ev_X12_merges_12, B_X12_merges_0, B_X12_merges_1, B_X12_merges_2, B_X12_merges_3, B_X12_merges_4, B_X12_merges_5, B_X12_merges_6, B_X12_merges_7, B_X12_merges_8, B_X12_merges_9, B_X12_merges_10, B_X12_merges_11, B_X12_merges_12, x_const, x_iadd, x_isub, x_imul, x_idiv, x_irem, x_ineg, x_dup, x_dup_x1, x_dup2, x_pop, x_goto, x_ifeq, x_ifne, x_iflt, x_ifge, x_ifgt, x_ifle, x_cmpeq, x_cmpne, x_cmplt, x_cmpge, x_cmpgt, x_cmple, x_null, x_nonnull, x_acmpeq, x_acmpne, x_get, x_put, x_putz, x_ald, x_ast, x_bast, x_zast, x_aast, x_alen, x_obj, x_ret, x_retz, x_vret, x_max, x_min, x_copy, x_i2l, qg_none, qg_inl, qg_inr, qg_ite, xr1, xr0, xrE, xri, xl0, xl1, xl2, xl3, xl4, xl5, xl6, xl7, xl8, xl9, xl10, xs0, xs1, xs2, xs3, xs4, xs5, xs6, xs7, xs8, xs9, xs10, xi0, xi1, xi2, xi3, xi4, xi5, xi6, xi7, xi8, xi9, xi10, xc0, xc1, xc2, xc3, xc4, xc5, xc6, xc7, xv1, xv2, xv3, xv4, xv5, xv6, xv7, dT_le, dF_le, dT_lt, dF_lt, k77, m_ofBranch hK hR', v2]
    rw [show s0 - A.2.1 b 4 + (k : Int) = A.2.1 b 5 - A.2.1 b 4 by omega]
  | succ q ih =>
    intro k m' h1 hR' hQ'
    obtain ⟨j1, j2, j3, j4, j5, j6, j7⟩ := zMg_f hW hb hp hne s1 k (by omega) (by omega) (by omega)
    have hbk : zBl (zMg A b p s0 k) b := ⟨b1, b2, by rw [j2 b hne]; exact b3⟩
    have hpk : zBl (zMg A b p s0 k) p := ⟨p1, p2, by rw [j5 1 (by decide) (by decide)]; exact p3⟩
    have v2 := (hQ'.2.2.2.2.1 b b1 b2 hbk.2.2).2.1
    rw [j2 b hne, j2 b hne] at v2
    have tt := m_timeOf (w := w) (k := s0 - A.2.1 b 4 + k) hK hR' hQ' hbk (by rw [j2 b hne, j2 b hne]; omega) (by omega) (by rw [j2 b hne, j2 b hne]; omega)
    rw [j2 b hne, j3 b hne, show A.2.1 b 4 + (s0 - A.2.1 b 4 + (k : Int)) = s0 + k by omega] at tt
    have ee := (hQ'.2.2.2.2.2.2.2.2 b (s0 - A.2.1 b 4 + k) b1 b2 hbk.2.2 (by omega) (by rw [j2 b hne, j2 b hne]; omega)).2
    rw [j2 b hne, j3 b hne, j3 b hne, j3 b hne, show A.2.1 b 4 + (s0 - A.2.1 b 4 + (k : Int)) = s0 + k by omega] at ee
    have hwe := hW.2.2.2.2.2.2.1 b (s0 + k) b1 b2 b3 (by omega) (by omega)
    unfold zWe at hwe
    obtain ⟨m2, a1, a2, a3⟩ := m_adds (w := w) (t := A.2.2.2 b (s0 + k) 0) (k := A.2.2.2 b (s0 + k) 1) (s := A.2.2.2 b (s0 + k) 2) (v := A.2.2.2 b (s0 + k) 3) hK hR' hQ' j1 hpk (by rw [j4]; omega) ⟨by omega, by omega⟩ ⟨by omega, by omega⟩ ⟨by omega, by omega⟩
    have hR2 : RM m2 := zfm_RM (zfm_o a3) hR'
    obtain ⟨m3, g1, g2, g3⟩ := ih (k + 1) m2 (by omega) hR2 a2
    refine ⟨m3, ?_, g2, fun c hc => (g3 c hc).trans (a3 c hc)⟩
    have ek : ((k + 1 : Nat) : Int) = (k : Int) + 1 := by omega
    rw [ek, show s0 - A.2.1 b 4 + ((k : Int) + 1) = s0 - A.2.1 b 4 + k + 1 by omega] at g1
    have r2' := hR'.2.1
    have ob := m_ofBranch (w := w) (b := b) (f := 2) hK hR' b1 b2 (by decide) (by decide)
    rw [v2] at ob
    rw [m_mg1s k77 k79 r2' ob tt (m_entryAt b1 b2 (by omega) (by omega)) ee a1 ⟨by omega, by omega⟩ ⟨by omega, by omega⟩ (by omega) b1 b2]
    exact g1
theorem m_mg2 {kd : Int → Nat × Int} {w : Nat × Nat × Nat} {A A1 : zA} {M : Int} (hK : KM kd) (hW : zW M A) {b p s0 : Int} {cnt : Nat} (hb : zBl A b) (hp : zBl A p) (hb1 : ∀ r, A1.2.2.1 r = A.2.2.1 r) (hs : 0 ≤ s0 ∧ s0 ≤ 512) (hrd : ∀ r, zIn A r b → s0 ≤ A.2.2.1 r 2) : ∀ (n : Nat) (k : Int) (m' : Int → Int → Int), 0 ≤ k → k + n = 6 → RM m' → QR (zMv A1 b p (A.2.1 p 5 - s0) k) (m' 79) → ∃ m'', qa_ev P_X12_merges 9 [(1, 77), (0, b), (0, 0), (0, p), (0, A.2.1 p 5), (0, s0), (0, cnt), (0, k)] [] (m', kd, w) = qa_ev P_X12_merges 12 [(1, 77), (0, b), (0, 0), (0, p), (0, A.2.1 p 5), (0, s0), (0, cnt), (0, 6)] [] (m'', kd, w) ∧ QR (zMv A1 b p (A.2.1 p 5 - s0) 6) (m'' 79) ∧ ∀ c, c ≠ 79 → m'' c = m' c := by
  obtain ⟨b1, b2, b3⟩ := id hb
  obtain ⟨p1, p2, p3⟩ := id hp
  have hbn := hW.bn hb
  have hpn := hW.bn hp
  have k77 := hK.1
  have k79 := hK.2.2.1
  intro n
  induction n with
  | zero =>
    intro k m' h1 h2 hR' hQ'
    obtain rfl : k = 6 := by omega
    refine ⟨m', ?_, hQ', fun _ _ => rfl⟩
    rw [ev_X12_merges_9]
    simp (disch := omega) [ev_X12_merges_0, ev_X12_merges_1, ev_X12_merges_2, ev_X12_merges_3, ev_X12_merges_4, ev_X12_merges_5, ev_X12_merges_6, ev_X12_merges_8, ev_X12_merges_10, ev_X12_merges_11, B_X12_merges_0, B_X12_merges_1, B_X12_merges_2, B_X12_merges_3, B_X12_merges_4, B_X12_merges_5, B_X12_merges_6, B_X12_merges_7, B_X12_merges_8, B_X12_merges_9, B_X12_merges_10, B_X12_merges_11, B_X12_merges_12, x_const, x_iadd, x_isub, x_imul, x_idiv, x_irem, x_ineg, x_dup, x_dup_x1, x_dup2, x_pop, x_goto, x_ifeq, x_ifne, x_iflt, x_ifge, x_ifgt, x_ifle, x_cmpeq, x_cmpne, x_cmplt, x_cmpge, x_cmpgt, x_cmple, x_null, x_nonnull, x_acmpeq, x_acmpne, x_get, x_put, x_putz, x_ald, x_ast, x_bast, x_zast, x_aast, x_alen, x_obj, x_ret, x_retz, x_vret, x_max, x_min, x_copy, x_i2l, qg_none, qg_inl, qg_inr, qg_ite, xr1, xr0, xrE, xri, xl0, xl1, xl2, xl3, xl4, xl5, xl6, xl7, xl8, xl9, xl10, xs0, xs1, xs2, xs3, xs4, xs5, xs6, xs7, xs8, xs9, xs10, xi0, xi1, xi2, xi3, xi4, xi5, xi6, xi7, xi8, xi9, xi10, xc0, xc1, xc2, xc3, xc4, xc5, xc6, xc7, xv1, xv2, xv3, xv4, xv5, xv6, xv7, dT_le, dF_le, dT_lt, dF_lt]
  | succ n ih =>
    intro k m' h1 h2 hR' hQ'
    have hin : zIn A1 k b ↔ zIn A k b := by unfold zIn zRl; rw [hb1]
    have hin2 : zIn (zMv A1 b p (A.2.1 p 5 - s0) k) k b ↔ zIn A k b := by
      unfold zIn zRl; rw [zMv_at, zMv_at, hb1]
    have ii := m_isIn (w := w) hK hR' hQ' k b
    have r2' := hR'.2.1
    by_cases hz : zIn A k b
    · rw [if_pos (hin2.mpr hz)] at ii
      have hr2 := hrd k hz
      have hr3 := hW.rn hz.1
      have t2 := hQ'.2.2.2.2.2.2.1 k 2 h1 (by omega) (hin2.mpr hz).1.2.2 (by decide) (by decide)
      rw [zMv_at, hb1] at t2
      have t2' : qa_up m' 79 (34 + 26 * k + 1) p 79 (34 + 26 * k + 2) = A.2.2.1 k 2 := by rw [qa_up_no _ (by omega)]; exact t2
      have hR3 : RM (qa_up m' 79 (34 + 26 * k + 1) p) := by rw [RM_u]; exact hR'
      have hR4 : RM (qa_up (qa_up m' 79 (34 + 26 * k + 1) p) 79 (34 + 26 * k + 2) (A.2.1 p 5 + A.2.2.1 k 2 - s0)) := by rw [RM_u]; exact hR3
      have hQ3 := QR_mv (v := A.2.1 p 5 + A.2.2.1 k 2 - s0) h1 (by omega) (hin.mpr hz) hQ' (by rw [hb1]; omega)
      obtain ⟨m3, g1, g2, g3⟩ := ih (k + 1) _ (by omega) (by omega) hR4 hQ3
      refine ⟨m3, ?_, g2, fun c hc => (g3 c hc).trans ?_⟩
      · rw [ev_X12_merges_9]
        simp (disch := omega) [ev_X12_merges_0, ev_X12_merges_1, ev_X12_merges_2, ev_X12_merges_3, ev_X12_merges_4, ev_X12_merges_5, ev_X12_merges_6, ev_X12_merges_8, ev_X12_merges_10, ev_X12_merges_11, B_X12_merges_0, B_X12_merges_1, B_X12_merges_2, B_X12_merges_3, B_X12_merges_4, B_X12_merges_5, B_X12_merges_6, B_X12_merges_7, B_X12_merges_8, B_X12_merges_9, B_X12_merges_10, B_X12_merges_11, B_X12_merges_12, x_const, x_iadd, x_isub, x_imul, x_idiv, x_irem, x_ineg, x_dup, x_dup_x1, x_dup2, x_pop, x_goto, x_ifeq, x_ifne, x_iflt, x_ifge, x_ifgt, x_ifle, x_cmpeq, x_cmpne, x_cmplt, x_cmpge, x_cmpgt, x_cmple, x_null, x_nonnull, x_acmpeq, x_acmpne, x_get, x_put, x_putz, x_ald, x_ast, x_bast, x_zast, x_aast, x_alen, x_obj, x_ret, x_retz, x_vret, x_max, x_min, x_copy, x_i2l, qg_none, qg_inl, qg_inr, qg_ite, xr1, xr0, xrE, xri, xl0, xl1, xl2, xl3, xl4, xl5, xl6, xl7, xl8, xl9, xl10, xs0, xs1, xs2, xs3, xs4, xs5, xs6, xs7, xs8, xs9, xs10, xi0, xi1, xi2, xi3, xi4, xi5, xi6, xi7, xi8, xi9, xi10, xc0, xc1, xc2, xc3, xc4, xc5, xc6, xc7, xv1, xv2, xv3, xv4, xv5, xv6, xv7, dT_le, dF_le, dT_lt, dF_lt, dT_eq, dF_eq, qa_up_hit, qa_up_no, k77, k79, ii, r2', m_readerAt, m_ofReader hK hR3, t2', t2, g1]
      · funext i
        rw [qa_up_no _ (fun z => hc z.1), qa_up_no _ (fun z => hc z.1)]
    · rw [if_neg (fun z => hz (hin2.mp z))] at ii
      have hQ3 : QR (zMv A1 b p (A.2.1 p 5 - s0) (k + 1)) (m' 79) := by rw [zMv_no (fun z => hz (hin.mp z))]; exact hQ'
      obtain ⟨m3, g1, g2, g3⟩ := ih (k + 1) _ (by omega) (by omega) hR' hQ3
      refine ⟨m3, ?_, g2, g3⟩
      rw [ev_X12_merges_9]
      simp (disch := omega) [ev_X12_merges_0, ev_X12_merges_1, ev_X12_merges_2, ev_X12_merges_3, ev_X12_merges_4, ev_X12_merges_5, ev_X12_merges_6, ev_X12_merges_8, ev_X12_merges_10, ev_X12_merges_11, B_X12_merges_0, B_X12_merges_1, B_X12_merges_2, B_X12_merges_3, B_X12_merges_4, B_X12_merges_5, B_X12_merges_6, B_X12_merges_7, B_X12_merges_8, B_X12_merges_9, B_X12_merges_10, B_X12_merges_11, B_X12_merges_12, x_const, x_iadd, x_isub, x_imul, x_idiv, x_irem, x_ineg, x_dup, x_dup_x1, x_dup2, x_pop, x_goto, x_ifeq, x_ifne, x_iflt, x_ifge, x_ifgt, x_ifle, x_cmpeq, x_cmpne, x_cmplt, x_cmpge, x_cmpgt, x_cmple, x_null, x_nonnull, x_acmpeq, x_acmpne, x_get, x_put, x_putz, x_ald, x_ast, x_bast, x_zast, x_aast, x_alen, x_obj, x_ret, x_retz, x_vret, x_max, x_min, x_copy, x_i2l, qg_none, qg_inl, qg_inr, qg_ite, xr1, xr0, xrE, xri, xl0, xl1, xl2, xl3, xl4, xl5, xl6, xl7, xl8, xl9, xl10, xs0, xs1, xs2, xs3, xs4, xs5, xs6, xs7, xs8, xs9, xs10, xi0, xi1, xi2, xi3, xi4, xi5, xi6, xi7, xi8, xi9, xi10, xc0, xc1, xc2, xc3, xc4, xc5, xc6, xc7, xv1, xv2, xv3, xv4, xv5, xv6, xv7, dT_le, dF_le, dT_lt, dF_lt, dT_eq, dF_eq, qa_up_hit, qa_up_no, k77, ii, g1]
theorem ma_merge {m : Int → Int → Int} {kd : Int → Nat × Int} {w : Nat × Nat × Nat} {A : zA} (hK : KM kd) (hR : RM m) (hQ : QR A (m 79)) {M : Int} (hW : zW M A) {um : Int} {U : Int → zA} (hU : MU um U m) (hUW : ∀ k, 0 ≤ k → k < um → zW M (U k)) (ha : ∀ i, 0 ≤ i → i ≤ 10 → 0 ≤ m 84 i ∧ m 84 i < 100000000) (hX : zcb m 50000000) (hT : zT A) {st : Int → Int} (hS : QS st m) (hs : zS st) {b : Int} (hb : zBl A b) (h5 : zWhyM A b = 0 → A.2.1 (A.2.1 b 2) 5 + (A.2.1 b 5 - zSt A b) ≤ 512) (hM : M + 512 < 500000) : (0 < zWhyM A b → mRef (zWhyM A b) m kd w (f_X12_merges [(1, 77), (0, b)] (m, kd, w))) ∧ (zWhyM A b = 0 → mDone um U A (zMrg st A b) (A.2.1 b 5 - zSt A b) m kd w (f_X12_merges [(1, 77), (0, b)] (m, kd, w))) := by
  obtain ⟨b1, b2, b3⟩ := id hb
  have hbn := hW.bn hb
  obtain ⟨k77, k78, k79, k80, k81, k82, k83, k84, k85, k86, k87, k88, k89, k90⟩ := id hK
  have rs := m_whyStays (w := w) hK hR hQ hW b
  have ri := m_hasLow (w := w) hK hR hQ hW hb
  have hwy := zWhyM_0 A b
  refine ⟨fun h => ?_, fun h => ?_⟩
  · rcases hwy with ⟨y1, y2⟩ | ⟨y1, y2, y3⟩ | ⟨y1, y2, y3⟩
    · rw [y1] at h ⊢
      have rf := m_refuses (w := w) (r := zWhy A b) hK hR (by omega) (ha _ (by omega) (by omega))
      refine ⟨by omega, by omega, ?_⟩
      generalize zWhy A b = y at y2 rs rf h ⊢
      unfold f_X12_merges
      refine qa_fn_eq ?_ (by simp)
      simp (disch := omega) [ev_X12_merges_0, ev_X12_merges_1, ev_X12_merges_2, ev_X12_merges_3, ev_X12_merges_4, ev_X12_merges_5, ev_X12_merges_6, ev_X12_merges_8, ev_X12_merges_10, ev_X12_merges_11, ev_X12_merges_12, B_X12_merges_0, B_X12_merges_1, B_X12_merges_2, B_X12_merges_3, B_X12_merges_4, B_X12_merges_5, B_X12_merges_6, B_X12_merges_7, B_X12_merges_8, B_X12_merges_9, B_X12_merges_10, B_X12_merges_11, B_X12_merges_12, x_const, x_iadd, x_isub, x_imul, x_idiv, x_irem, x_ineg, x_dup, x_dup_x1, x_dup2, x_pop, x_goto, x_ifeq, x_ifne, x_iflt, x_ifge, x_ifgt, x_ifle, x_cmpeq, x_cmpne, x_cmplt, x_cmpge, x_cmpgt, x_cmple, x_null, x_nonnull, x_acmpeq, x_acmpne, x_get, x_put, x_putz, x_ald, x_ast, x_bast, x_zast, x_aast, x_alen, x_obj, x_ret, x_retz, x_vret, x_max, x_min, x_copy, x_i2l, qg_none, qg_inl, qg_inr, qg_ite, xr1, xr0, xrE, xri, xl0, xl1, xl2, xl3, xl4, xl5, xl6, xl7, xl8, xl9, xl10, xs0, xs1, xs2, xs3, xs4, xs5, xs6, xs7, xs8, xs9, xs10, xi0, xi1, xi2, xi3, xi4, xi5, xi6, xi7, xi8, xi9, xi10, xc0, xc1, xc2, xc3, xc4, xc5, xc6, xc7, xv1, xv2, xv3, xv4, xv5, xv6, xv7, dT_le, dF_le, dT_lt, dF_lt, k77, rs, rf]
    · rw [y3] at h ⊢
      rw [if_pos y2] at ri
      have rf := m_refuses (w := w) (r := 9) hK hR (by omega) (ha _ (by omega) (by omega))
      refine ⟨by omega, by omega, ?_⟩
      unfold f_X12_merges
      refine qa_fn_eq ?_ (by simp)
      simp (disch := omega) [ev_X12_merges_0, ev_X12_merges_1, ev_X12_merges_2, ev_X12_merges_3, ev_X12_merges_4, ev_X12_merges_5, ev_X12_merges_6, ev_X12_merges_8, ev_X12_merges_10, ev_X12_merges_11, ev_X12_merges_12, B_X12_merges_0, B_X12_merges_1, B_X12_merges_2, B_X12_merges_3, B_X12_merges_4, B_X12_merges_5, B_X12_merges_6, B_X12_merges_7, B_X12_merges_8, B_X12_merges_9, B_X12_merges_10, B_X12_merges_11, B_X12_merges_12, x_const, x_iadd, x_isub, x_imul, x_idiv, x_irem, x_ineg, x_dup, x_dup_x1, x_dup2, x_pop, x_goto, x_ifeq, x_ifne, x_iflt, x_ifge, x_ifgt, x_ifle, x_cmpeq, x_cmpne, x_cmplt, x_cmpge, x_cmpgt, x_cmple, x_null, x_nonnull, x_acmpeq, x_acmpne, x_get, x_put, x_putz, x_ald, x_ast, x_bast, x_zast, x_aast, x_alen, x_obj, x_ret, x_retz, x_vret, x_max, x_min, x_copy, x_i2l, qg_none, qg_inl, qg_inr, qg_ite, xr1, xr0, xrE, xri, xl0, xl1, xl2, xl3, xl4, xl5, xl6, xl7, xl8, xl9, xl10, xs0, xs1, xs2, xs3, xs4, xs5, xs6, xs7, xs8, xs9, xs10, xi0, xi1, xi2, xi3, xi4, xi5, xi6, xi7, xi8, xi9, xi10, xc0, xc1, xc2, xc3, xc4, xc5, xc6, xc7, xv1, xv2, xv3, xv4, xv5, xv6, xv7, dT_le, dF_le, dT_lt, dF_lt, k77, rs, y1, ri, rf]
    · omega
  · rcases hwy with ⟨y1, y2⟩ | ⟨y1, y2, y3⟩ | ⟨y1, y2, y3⟩
    · omega
    · omega
    obtain ⟨hp, hne, ⟨f0, s1, s2, s3⟩, hrd, w1, w2, w3, hp3, w4⟩ := zMrg_f st hW hT hb h (h5 h) hM
    have h5' := h5 h
    rw [if_neg (by omega)] at ri
    obtain ⟨m1, i1, i2, i3, i4, i5, i6, i7, i8⟩ := m_keeps (w := w) hK hR hQ hW hU hUW (ha 0 (by decide) (by decide))
    have hR1 := zfk_RM i3 hR
    have hQ1 : QR A (m1 79) := by rw [i4]; exact hQ
    have r2 := hR1.2.1
    obtain ⟨p1, p2, p3⟩ := id hp
    have hpn := hW.bn hp
    obtain ⟨u1, u2, u3, u4, u5, u6⟩ := hQ1.2.2.2.2.1 b b1 b2 b3
    have hen := m_endOf (w := w) hK hR1 hQ1 hp ⟨hpn.1, hpn.2.1, hpn.2.2.1⟩
    have hmx : (A.2.1 b 3 ≤ A.2.1 b 4 ∧ zSt A b = A.2.1 b 4) ∨ (A.2.1 b 4 < A.2.1 b 3 ∧ zSt A b = A.2.1 b 3) := by unfold zSt; split <;> omega
    generalize hpp : A.2.1 b 2 = p at *
    have ecnt : ∃ cnt : Nat, (A.2.1 b 5 - zSt A b).toNat = cnt ∧ zSt A b + cnt = A.2.1 b 5 := ⟨_, rfl, by omega⟩
    obtain ⟨cnt, ec1, ec2⟩ := ecnt
    have e1 : zMg1 A b = zMg A b p (zSt A b) cnt := by unfold zMg1; rw [hpp, ec1]
    have e2 : zMg2 A b = zMv (zMg1 A b) b p (A.2.1 p 5 - zSt A b) 6 := by unfold zMg2; rw [hpp]
    generalize zSt A b = s0 at *
    have l1 := fun q k m' => m_mg1 (w := w) hK hW hM hb hp hne s1 ec2 (by omega) q k m'
    obtain ⟨m2, a1, a2, a3⟩ := l1 cnt 0 m1 (by omega) hR1 hQ1
    rw [← e1] at a2
    have hR2 : RM m2 := zfm_RM (zfm_o a3) hR1
    have hb1 : ∀ r, (zMg1 A b).2.2.1 r = A.2.2.1 r := fun r => by
      rw [e1]; rw [(zMg_f hW hb hp hne s1 cnt (by omega) (by omega) (by omega)).2.2.2.2.2.2]
    have l2 := fun n k m' => m_mg2 (w := w) (cnt := cnt) hK hW hb hp hb1 ⟨by omega, by omega⟩ hrd n k m'
    obtain ⟨m3, d1, d2, d3⟩ := l2 6 0 m2 (by decide) (by decide) hR2 (by rw [zMv_0]; exact a2)
    rw [← e2] at d2
    have r23 : m3 77 2 = 79 := by rw [d3 77 (by decide)]; exact hR2.2.1
    have hf4 : ∀ c, c ≠ 79 → qa_up m3 79 (6 + 7 * b) 0 c = m1 c := fun c hc => by
      rw [← a3 c hc, ← d3 c hc]
      funext i
      exact qa_up_no _ (fun z => hc z.1)
    have hR4 : RM (qa_up m3 79 (6 + 7 * b) 0) := zfm_RM (zfm_o hf4) hR1
    have hQ4 : QR (zMg3 A b) ((qa_up m3 79 (6 + 7 * b) 0) 79) := QR_drop d2 w2 ⟨b1, b2⟩ (fun i hi => qa_up_no _ (fun z => hi z.2)) (qa_up_hit _ _ _ _)
    have hS4 : QS st (qa_up m3 79 (6 + 7 * b) 0) := fun i q1 q2 => by
      rw [hf4 78 (by decide), i3.1 78 (by decide) (by decide) (by decide) (by decide) (by decide) (by decide) (by decide)]
      exact hS i q1 q2
    have hX1 : ∀ X, zcb m1 X → zcb (qa_up m3 79 (6 + 7 * b) 0) X := fun X h => zcb_eq h (fun i hi => by rw [hf4 77 (by decide)]) (hf4 85 (by decide))
    have hX4 : zcb (qa_up m3 79 (6 + 7 * b) 0) 50000000 := hX1 _ (zcb_eq hX (fun i hi => i7 i (by omega)) i5)
    obtain ⟨m5, c1, c2, c3, c4⟩ := m_cuts (w := w) hK hR4 hQ4 w3 hS4 hs hp3 (zcb_mono hX4 (by decide))
    have eM : zMrg st A b = zCutB st p (zMg3 A b) := by unfold zMrg; rw [hpp]
    rw [eM]
    have e5 : A.2.1 b 5 - s0 = cnt := by omega
    rw [e5]
    simp only [Int.natCast_zero, Int.add_zero] at a1
    refine mDone_of (m1 := m1) (m2 := m5) ?_ i2 i3 i5 i6 i7 i8 ((zfm_o hf4).trans c3) c2 (fun X h1 h2 => zcb_lt (hX1 X h2) c4 w3 (zW_cutB st w3 hp3).1 (zle_cutB st w3 hp3).lt (by decide))
    rcases hmx with ⟨x1, x2⟩ | ⟨x1, x2⟩
    · rw [x2] at a1 d1
      rw [Int.sub_self] at a1
      unfold f_X12_merges
      refine qa_fn_eq ?_ (by simp)
      simp (disch := omega) [ev_X12_merges_0, ev_X12_merges_1, ev_X12_merges_2, ev_X12_merges_3, ev_X12_merges_4, ev_X12_merges_5, ev_X12_merges_6, ev_X12_merges_8, ev_X12_merges_10, ev_X12_merges_11, ev_X12_merges_12, B_X12_merges_0, B_X12_merges_1, B_X12_merges_2, B_X12_merges_3, B_X12_merges_4, B_X12_merges_5, B_X12_merges_6, B_X12_merges_7, B_X12_merges_8, B_X12_merges_9, B_X12_merges_10, B_X12_merges_11, B_X12_merges_12, x_const, x_iadd, x_isub, x_imul, x_idiv, x_irem, x_ineg, x_dup, x_dup_x1, x_dup2, x_pop, x_goto, x_ifeq, x_ifne, x_iflt, x_ifge, x_ifgt, x_ifle, x_cmpeq, x_cmpne, x_cmplt, x_cmpge, x_cmpgt, x_cmple, x_null, x_nonnull, x_acmpeq, x_acmpne, x_get, x_put, x_putz, x_ald, x_ast, x_bast, x_zast, x_aast, x_alen, x_obj, x_ret, x_retz, x_vret, x_max, x_min, x_copy, x_i2l, qg_none, qg_inl, qg_inr, qg_ite, xr1, xr0, xrE, xri, xl0, xl1, xl2, xl3, xl4, xl5, xl6, xl7, xl8, xl9, xl10, xs0, xs1, xs2, xs3, xs4, xs5, xs6, xs7, xs8, xs9, xs10, xi0, xi1, xi2, xi3, xi4, xi5, xi6, xi7, xi8, xi9, xi10, xc0, xc1, xc2, xc3, xc4, xc5, xc6, xc7, xv1, xv2, xv3, xv4, xv5, xv6, xv7, dT_le, dF_le, dT_lt, dF_lt, dT_eq, dF_eq, qa_up_hit, qa_up_no, k77, k79, rs, y1, ri, i1, m_ofBranch hK hR1, u4, hen, u5, u1, a1, d1, r23, m_branchAt, c1]
    · rw [x2] at a1 d1
      unfold f_X12_merges
      refine qa_fn_eq ?_ (by simp)
      simp (disch := omega) [ev_X12_merges_0, ev_X12_merges_1, ev_X12_merges_2, ev_X12_merges_3, ev_X12_merges_4, ev_X12_merges_5, ev_X12_merges_6, ev_X12_merges_8, ev_X12_merges_10, ev_X12_merges_11, ev_X12_merges_12, B_X12_merges_0, B_X12_merges_1, B_X12_merges_2, B_X12_merges_3, B_X12_merges_4, B_X12_merges_5, B_X12_merges_6, B_X12_merges_7, B_X12_merges_8, B_X12_merges_9, B_X12_merges_10, B_X12_merges_11, B_X12_merges_12, x_const, x_iadd, x_isub, x_imul, x_idiv, x_irem, x_ineg, x_dup, x_dup_x1, x_dup2, x_pop, x_goto, x_ifeq, x_ifne, x_iflt, x_ifge, x_ifgt, x_ifle, x_cmpeq, x_cmpne, x_cmplt, x_cmpge, x_cmpgt, x_cmple, x_null, x_nonnull, x_acmpeq, x_acmpne, x_get, x_put, x_putz, x_ald, x_ast, x_bast, x_zast, x_aast, x_alen, x_obj, x_ret, x_retz, x_vret, x_max, x_min, x_copy, x_i2l, qg_none, qg_inl, qg_inr, qg_ite, xr1, xr0, xrE, xri, xl0, xl1, xl2, xl3, xl4, xl5, xl6, xl7, xl8, xl9, xl10, xs0, xs1, xs2, xs3, xs4, xs5, xs6, xs7, xs8, xs9, xs10, xi0, xi1, xi2, xi3, xi4, xi5, xi6, xi7, xi8, xi9, xi10, xc0, xc1, xc2, xc3, xc4, xc5, xc6, xc7, xv1, xv2, xv3, xv4, xv5, xv6, xv7, dT_le, dF_le, dT_lt, dF_lt, dT_eq, dF_eq, qa_up_hit, qa_up_no, k77, k79, rs, y1, ri, i1, m_ofBranch hK hR1, u4, hen, u5, u1, a1, d1, r23, m_branchAt, c1]
