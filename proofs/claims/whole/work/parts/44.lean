def zsw (d : Nat) : List Nat → Int → Nat
  | [], _ => d
  | t :: r, y => if y = 0 then t else zsw d r (y - 1)
theorem zsw_eq (d : Nat) : ∀ (Ts : List Nat) (y : Int), 0 ≤ y → Ts.getD y.toNat d = zsw d Ts y := by
  intro Ts
  induction Ts with
  | nil => intro y _; rfl
  | cons t r ih =>
    intro y hy
    simp only [zsw]
    by_cases h : y = 0
    · rw [if_pos h, h]; rfl
    · rw [if_neg h, ← ih (y - 1) (by omega), show y.toNat = (y - 1).toNat + 1 by omega]
      rfl
theorem x_switch (lo : Int) (Ts : List Nat) (dT : Nat) (ls r : List qV) (x : Int) (a : qA) : q_switch lo Ts dT ls ((0, x) :: r) a = some (.inl ((if x < lo then dT else zsw dT Ts (x - lo)), ls, r, a)) := by
  simp only [q_switch, if_true]
  by_cases h : x < lo
  · rw [if_pos h, if_pos h]
  · rw [if_neg h, if_neg h, zsw_eq _ _ _ (by omega)]
theorem RM_t {m : Int → Int → Int} {v : Int} : RM (qa_up m 77 0 v) = RM m := by
  unfold RM
  simp [qa_up]
theorem m_hasPromise {m : Int → Int → Int} {kd : Int → Nat × Int} {w : Nat × Nat × Nat} {A : zA} (hK : KM kd) (hR : RM m) (hQ : QR A (m 79)) (r : Int) : f_X12_hasPromise [(1, 77), (0, r)] (m, kd, w) = some (.inl (some (0, if zPr A r then 1 else 0)), (m, kd, w)) := by
  obtain ⟨k77, k78, k79, k80, k81, k82, k83, k84, k85, k86, k87, k88, k89, k90⟩ := id hK
  obtain ⟨r1, r2, r3, r4, r6, r7, r8, r12, r13, r15, r23, r25, r26⟩ := id hR
  obtain ⟨g0, g1, gC, gI, gB, gJ, gR, gD, gE⟩ := id hQ
  have e1 := m_isReader (w := w) hK hR hQ r
  by_cases h : zRl A r
  · obtain ⟨h1, h2, h3⟩ := id h
    rw [if_pos h] at e1
    have e3 := gR r 4 h1 h2 h3 (by decide) (by decide)
    by_cases h4 : A.2.2.1 r 4 = -1
    · rw [if_neg (fun z => z.2 h4)]
      unfold f_X12_hasPromise
      refine qa_fn_eq ?_ (by simp)
      simp (disch := omega) [ev_X12_hasPromise_0, ev_X12_hasPromise_1, ev_X12_hasPromise_2, B_X12_hasPromise_0, B_X12_hasPromise_1, B_X12_hasPromise_2, x_const, x_iadd, x_isub, x_imul, x_idiv, x_irem, x_ineg, x_dup, x_dup_x1, x_dup2, x_pop, x_goto, x_ifeq, x_ifne, x_iflt, x_ifge, x_ifgt, x_ifle, x_cmpeq, x_cmpne, x_cmplt, x_cmpge, x_cmpgt, x_cmple, x_null, x_nonnull, x_acmpeq, x_acmpne, x_get, x_put, x_putz, x_ald, x_ast, x_bast, x_zast, x_aast, x_alen, x_obj, x_ret, x_retz, x_vret, x_max, x_min, x_copy, x_i2l, qg_none, qg_inl, qg_inr, qg_ite, xr1, xr0, xrE, xri, xl0, xl1, xl2, xl3, xl4, xl5, xl6, xl7, xl8, xl9, xl10, xs0, xs1, xs2, xs3, xs4, xs5, xs6, xs7, xs8, xs9, xs10, xi0, xi1, xi2, xi3, xi4, xi5, xi6, xi7, xi8, xi9, xi10, xc0, xc1, xc2, xc3, xc4, xc5, xc6, xc7, xv1, xv2, xv3, xv4, xv5, xv6, xv7, dT_le, dF_le, dT_lt, dF_lt, k77, e1, m_ofReader hK hR, e3, h4]
    · rw [if_pos ⟨h, h4⟩]
      unfold f_X12_hasPromise
      refine qa_fn_eq ?_ (by simp)
      simp (disch := omega) [ev_X12_hasPromise_0, ev_X12_hasPromise_1, ev_X12_hasPromise_2, B_X12_hasPromise_0, B_X12_hasPromise_1, B_X12_hasPromise_2, x_const, x_iadd, x_isub, x_imul, x_idiv, x_irem, x_ineg, x_dup, x_dup_x1, x_dup2, x_pop, x_goto, x_ifeq, x_ifne, x_iflt, x_ifge, x_ifgt, x_ifle, x_cmpeq, x_cmpne, x_cmplt, x_cmpge, x_cmpgt, x_cmple, x_null, x_nonnull, x_acmpeq, x_acmpne, x_get, x_put, x_putz, x_ald, x_ast, x_bast, x_zast, x_aast, x_alen, x_obj, x_ret, x_retz, x_vret, x_max, x_min, x_copy, x_i2l, qg_none, qg_inl, qg_inr, qg_ite, xr1, xr0, xrE, xri, xl0, xl1, xl2, xl3, xl4, xl5, xl6, xl7, xl8, xl9, xl10, xs0, xs1, xs2, xs3, xs4, xs5, xs6, xs7, xs8, xs9, xs10, xi0, xi1, xi2, xi3, xi4, xi5, xi6, xi7, xi8, xi9, xi10, xc0, xc1, xc2, xc3, xc4, xc5, xc6, xc7, xv1, xv2, xv3, xv4, xv5, xv6, xv7, dT_le, dF_le, dT_lt, dF_lt, k77, e1, m_ofReader hK hR, e3, h4]
  · rw [if_neg h] at e1
    rw [if_neg (fun z => h z.1)]
    unfold f_X12_hasPromise
    refine qa_fn_eq ?_ (by simp)
    simp (disch := omega) [ev_X12_hasPromise_0, ev_X12_hasPromise_1, ev_X12_hasPromise_2, B_X12_hasPromise_0, B_X12_hasPromise_1, B_X12_hasPromise_2, x_const, x_iadd, x_isub, x_imul, x_idiv, x_irem, x_ineg, x_dup, x_dup_x1, x_dup2, x_pop, x_goto, x_ifeq, x_ifne, x_iflt, x_ifge, x_ifgt, x_ifle, x_cmpeq, x_cmpne, x_cmplt, x_cmpge, x_cmpgt, x_cmple, x_null, x_nonnull, x_acmpeq, x_acmpne, x_get, x_put, x_putz, x_ald, x_ast, x_bast, x_zast, x_aast, x_alen, x_obj, x_ret, x_retz, x_vret, x_max, x_min, x_copy, x_i2l, qg_none, qg_inl, qg_inr, qg_ite, xr1, xr0, xrE, xri, xl0, xl1, xl2, xl3, xl4, xl5, xl6, xl7, xl8, xl9, xl10, xs0, xs1, xs2, xs3, xs4, xs5, xs6, xs7, xs8, xs9, xs10, xi0, xi1, xi2, xi3, xi4, xi5, xi6, xi7, xi8, xi9, xi10, xc0, xc1, xc2, xc3, xc4, xc5, xc6, xc7, xv1, xv2, xv3, xv4, xv5, xv6, xv7, dT_le, dF_le, dT_lt, dF_lt, k77, e1]
theorem m_branchMany {m : Int → Int → Int} {kd : Int → Nat × Int} {w : Nat × Nat × Nat} {A : zA} (hK : KM kd) (hR : RM m) (hQ : QR A (m 79))  : f_X12_branchMany [(1, 77)] (m, kd, w) = some (.inl (some (0, zsum (fun b => if A.2.1 b 1 = 1 then 1 else 0) 4)), (m, kd, w)) := by
  obtain ⟨k77, k78, k79, k80, k81, k82, k83, k84, k85, k86, k87, k88, k89, k90⟩ := id hK
  obtain ⟨r1, r2, r3, r4, r6, r7, r8, r12, r13, r15, r23, r25, r26⟩ := id hR
  obtain ⟨g0, g1, gC, gI, gB, gJ, gR, gD, gE⟩ := id hQ
  have loop : ∀ (n : Nat) (k s : Int), 0 ≤ k → k + n = 4 → 0 ≤ s → s ≤ 1 * k → qa_ev P_X12_branchMany 1 [(1, 77), (0, s), (0, k)] [] (m, kd, w) = some (.inl (some (0, s + zsf (fun b => if A.2.1 b 1 = 1 then 1 else 0) k n)), (m, kd, w)) := by
    intro n
    induction n with
    | zero =>
      intro k s h1 h2 h3 h4
      rw [ev_X12_branchMany_1]
      simp (disch := omega) [ev_X12_branchMany_0, ev_X12_branchMany_2, ev_X12_branchMany_3, ev_X12_branchMany_4, B_X12_branchMany_0, B_X12_branchMany_1, B_X12_branchMany_2, B_X12_branchMany_3, B_X12_branchMany_4, x_const, x_iadd, x_isub, x_imul, x_idiv, x_irem, x_ineg, x_dup, x_dup_x1, x_dup2, x_pop, x_goto, x_ifeq, x_ifne, x_iflt, x_ifge, x_ifgt, x_ifle, x_cmpeq, x_cmpne, x_cmplt, x_cmpge, x_cmpgt, x_cmple, x_null, x_nonnull, x_acmpeq, x_acmpne, x_get, x_put, x_putz, x_ald, x_ast, x_bast, x_zast, x_aast, x_alen, x_obj, x_ret, x_retz, x_vret, x_max, x_min, x_copy, x_i2l, qg_none, qg_inl, qg_inr, qg_ite, xr1, xr0, xrE, xri, xl0, xl1, xl2, xl3, xl4, xl5, xl6, xl7, xl8, xl9, xl10, xs0, xs1, xs2, xs3, xs4, xs5, xs6, xs7, xs8, xs9, xs10, xi0, xi1, xi2, xi3, xi4, xi5, xi6, xi7, xi8, xi9, xi10, xc0, xc1, xc2, xc3, xc4, xc5, xc6, xc7, xv1, xv2, xv3, xv4, xv5, xv6, xv7, dT_le, dF_le, dT_lt, dF_lt, zsf]
    | succ n ih =>
      intro k s h1 h2 h3 h4
      have ih' := ih (k + 1)
      have ez : ∀ v : Int, (fun b => if A.2.1 b 1 = 1 then 1 else 0) k = v → zsf (fun b => if A.2.1 b 1 = 1 then 1 else 0) k (n + 1) = v + zsf (fun b => if A.2.1 b 1 = 1 then 1 else 0) (k + 1) n := fun v h => by rw [← h]; rfl
      have hi := m_isBranch (w := w) hK hR hQ k
      rw [ev_X12_branchMany_1]
      by_cases h : zBl A k
      · rw [if_pos h] at hi
        have ez := ez _ (if_pos h.2.2)
        simp (disch := omega) [ev_X12_branchMany_0, ev_X12_branchMany_2, ev_X12_branchMany_3, ev_X12_branchMany_4, B_X12_branchMany_0, B_X12_branchMany_1, B_X12_branchMany_2, B_X12_branchMany_3, B_X12_branchMany_4, x_const, x_iadd, x_isub, x_imul, x_idiv, x_irem, x_ineg, x_dup, x_dup_x1, x_dup2, x_pop, x_goto, x_ifeq, x_ifne, x_iflt, x_ifge, x_ifgt, x_ifle, x_cmpeq, x_cmpne, x_cmplt, x_cmpge, x_cmpgt, x_cmple, x_null, x_nonnull, x_acmpeq, x_acmpne, x_get, x_put, x_putz, x_ald, x_ast, x_bast, x_zast, x_aast, x_alen, x_obj, x_ret, x_retz, x_vret, x_max, x_min, x_copy, x_i2l, qg_none, qg_inl, qg_inr, qg_ite, xr1, xr0, xrE, xri, xl0, xl1, xl2, xl3, xl4, xl5, xl6, xl7, xl8, xl9, xl10, xs0, xs1, xs2, xs3, xs4, xs5, xs6, xs7, xs8, xs9, xs10, xi0, xi1, xi2, xi3, xi4, xi5, xi6, xi7, xi8, xi9, xi10, xc0, xc1, xc2, xc3, xc4, xc5, xc6, xc7, xv1, xv2, xv3, xv4, xv5, xv6, xv7, dT_le, dF_le, dT_lt, dF_lt, k77, k79, r2, ez, ih', hi]
        try omega
      · rw [if_neg h] at hi
        have ht := fun z => h ⟨h1, (by omega : k < 4), z⟩
        have ez := ez _ (if_neg ht)
        simp (disch := omega) [ev_X12_branchMany_0, ev_X12_branchMany_2, ev_X12_branchMany_3, ev_X12_branchMany_4, B_X12_branchMany_0, B_X12_branchMany_1, B_X12_branchMany_2, B_X12_branchMany_3, B_X12_branchMany_4, x_const, x_iadd, x_isub, x_imul, x_idiv, x_irem, x_ineg, x_dup, x_dup_x1, x_dup2, x_pop, x_goto, x_ifeq, x_ifne, x_iflt, x_ifge, x_ifgt, x_ifle, x_cmpeq, x_cmpne, x_cmplt, x_cmpge, x_cmpgt, x_cmple, x_null, x_nonnull, x_acmpeq, x_acmpne, x_get, x_put, x_putz, x_ald, x_ast, x_bast, x_zast, x_aast, x_alen, x_obj, x_ret, x_retz, x_vret, x_max, x_min, x_copy, x_i2l, qg_none, qg_inl, qg_inr, qg_ite, xr1, xr0, xrE, xri, xl0, xl1, xl2, xl3, xl4, xl5, xl6, xl7, xl8, xl9, xl10, xs0, xs1, xs2, xs3, xs4, xs5, xs6, xs7, xs8, xs9, xs10, xi0, xi1, xi2, xi3, xi4, xi5, xi6, xi7, xi8, xi9, xi10, xc0, xc1, xc2, xc3, xc4, xc5, xc6, xc7, xv1, xv2, xv3, xv4, xv5, xv6, xv7, dT_le, dF_le, dT_lt, dF_lt, k77, k79, r2, ez, ih', hi]
        try omega
  unfold f_X12_branchMany
  refine qa_fn_eq ?_ (by simp)
  simp (disch := omega) [ev_X12_branchMany_0, ev_X12_branchMany_2, ev_X12_branchMany_3, ev_X12_branchMany_4, B_X12_branchMany_0, B_X12_branchMany_1, B_X12_branchMany_2, B_X12_branchMany_3, B_X12_branchMany_4, x_const, x_iadd, x_isub, x_imul, x_idiv, x_irem, x_ineg, x_dup, x_dup_x1, x_dup2, x_pop, x_goto, x_ifeq, x_ifne, x_iflt, x_ifge, x_ifgt, x_ifle, x_cmpeq, x_cmpne, x_cmplt, x_cmpge, x_cmpgt, x_cmple, x_null, x_nonnull, x_acmpeq, x_acmpne, x_get, x_put, x_putz, x_ald, x_ast, x_bast, x_zast, x_aast, x_alen, x_obj, x_ret, x_retz, x_vret, x_max, x_min, x_copy, x_i2l, qg_none, qg_inl, qg_inr, qg_ite, xr1, xr0, xrE, xri, xl0, xl1, xl2, xl3, xl4, xl5, xl6, xl7, xl8, xl9, xl10, xs0, xs1, xs2, xs3, xs4, xs5, xs6, xs7, xs8, xs9, xs10, xi0, xi1, xi2, xi3, xi4, xi5, xi6, xi7, xi8, xi9, xi10, xc0, xc1, xc2, xc3, xc4, xc5, xc6, xc7, xv1, xv2, xv3, xv4, xv5, xv6, xv7, dT_le, dF_le, dT_lt, dF_lt, loop 4 0 0]
  try rfl
theorem m_readerMany {m : Int → Int → Int} {kd : Int → Nat × Int} {w : Nat × Nat × Nat} {A : zA} (hK : KM kd) (hR : RM m) (hQ : QR A (m 79))  : f_X12_readerMany [(1, 77)] (m, kd, w) = some (.inl (some (0, zsum (fun r => if A.2.2.1 r 0 = 1 then 1 else 0) 6)), (m, kd, w)) := by
  obtain ⟨k77, k78, k79, k80, k81, k82, k83, k84, k85, k86, k87, k88, k89, k90⟩ := id hK
  obtain ⟨r1, r2, r3, r4, r6, r7, r8, r12, r13, r15, r23, r25, r26⟩ := id hR
  obtain ⟨g0, g1, gC, gI, gB, gJ, gR, gD, gE⟩ := id hQ
  have loop : ∀ (n : Nat) (k s : Int), 0 ≤ k → k + n = 6 → 0 ≤ s → s ≤ 1 * k → qa_ev P_X12_readerMany 1 [(1, 77), (0, s), (0, k)] [] (m, kd, w) = some (.inl (some (0, s + zsf (fun r => if A.2.2.1 r 0 = 1 then 1 else 0) k n)), (m, kd, w)) := by
    intro n
    induction n with
    | zero =>
      intro k s h1 h2 h3 h4
      rw [ev_X12_readerMany_1]
      simp (disch := omega) [ev_X12_readerMany_0, ev_X12_readerMany_2, ev_X12_readerMany_3, ev_X12_readerMany_4, B_X12_readerMany_0, B_X12_readerMany_1, B_X12_readerMany_2, B_X12_readerMany_3, B_X12_readerMany_4, x_const, x_iadd, x_isub, x_imul, x_idiv, x_irem, x_ineg, x_dup, x_dup_x1, x_dup2, x_pop, x_goto, x_ifeq, x_ifne, x_iflt, x_ifge, x_ifgt, x_ifle, x_cmpeq, x_cmpne, x_cmplt, x_cmpge, x_cmpgt, x_cmple, x_null, x_nonnull, x_acmpeq, x_acmpne, x_get, x_put, x_putz, x_ald, x_ast, x_bast, x_zast, x_aast, x_alen, x_obj, x_ret, x_retz, x_vret, x_max, x_min, x_copy, x_i2l, qg_none, qg_inl, qg_inr, qg_ite, xr1, xr0, xrE, xri, xl0, xl1, xl2, xl3, xl4, xl5, xl6, xl7, xl8, xl9, xl10, xs0, xs1, xs2, xs3, xs4, xs5, xs6, xs7, xs8, xs9, xs10, xi0, xi1, xi2, xi3, xi4, xi5, xi6, xi7, xi8, xi9, xi10, xc0, xc1, xc2, xc3, xc4, xc5, xc6, xc7, xv1, xv2, xv3, xv4, xv5, xv6, xv7, dT_le, dF_le, dT_lt, dF_lt, zsf]
    | succ n ih =>
      intro k s h1 h2 h3 h4
      have ih' := ih (k + 1)
      have ez : ∀ v : Int, (fun r => if A.2.2.1 r 0 = 1 then 1 else 0) k = v → zsf (fun r => if A.2.2.1 r 0 = 1 then 1 else 0) k (n + 1) = v + zsf (fun r => if A.2.2.1 r 0 = 1 then 1 else 0) (k + 1) n := fun v h => by rw [← h]; rfl
      have hi := m_isReader (w := w) hK hR hQ k
      rw [ev_X12_readerMany_1]
      by_cases h : zRl A k
      · rw [if_pos h] at hi
        have ez := ez _ (if_pos h.2.2)
        simp (disch := omega) [ev_X12_readerMany_0, ev_X12_readerMany_2, ev_X12_readerMany_3, ev_X12_readerMany_4, B_X12_readerMany_0, B_X12_readerMany_1, B_X12_readerMany_2, B_X12_readerMany_3, B_X12_readerMany_4, x_const, x_iadd, x_isub, x_imul, x_idiv, x_irem, x_ineg, x_dup, x_dup_x1, x_dup2, x_pop, x_goto, x_ifeq, x_ifne, x_iflt, x_ifge, x_ifgt, x_ifle, x_cmpeq, x_cmpne, x_cmplt, x_cmpge, x_cmpgt, x_cmple, x_null, x_nonnull, x_acmpeq, x_acmpne, x_get, x_put, x_putz, x_ald, x_ast, x_bast, x_zast, x_aast, x_alen, x_obj, x_ret, x_retz, x_vret, x_max, x_min, x_copy, x_i2l, qg_none, qg_inl, qg_inr, qg_ite, xr1, xr0, xrE, xri, xl0, xl1, xl2, xl3, xl4, xl5, xl6, xl7, xl8, xl9, xl10, xs0, xs1, xs2, xs3, xs4, xs5, xs6, xs7, xs8, xs9, xs10, xi0, xi1, xi2, xi3, xi4, xi5, xi6, xi7, xi8, xi9, xi10, xc0, xc1, xc2, xc3, xc4, xc5, xc6, xc7, xv1, xv2, xv3, xv4, xv5, xv6, xv7, dT_le, dF_le, dT_lt, dF_lt, k77, k79, r2, ez, ih', hi]
        try omega
      · rw [if_neg h] at hi
        have ht := fun z => h ⟨h1, (by omega : k < 6), z⟩
        have ez := ez _ (if_neg ht)
        simp (disch := omega) [ev_X12_readerMany_0, ev_X12_readerMany_2, ev_X12_readerMany_3, ev_X12_readerMany_4, B_X12_readerMany_0, B_X12_readerMany_1, B_X12_readerMany_2, B_X12_readerMany_3, B_X12_readerMany_4, x_const, x_iadd, x_isub, x_imul, x_idiv, x_irem, x_ineg, x_dup, x_dup_x1, x_dup2, x_pop, x_goto, x_ifeq, x_ifne, x_iflt, x_ifge, x_ifgt, x_ifle, x_cmpeq, x_cmpne, x_cmplt, x_cmpge, x_cmpgt, x_cmple, x_null, x_nonnull, x_acmpeq, x_acmpne, x_get, x_put, x_putz, x_ald, x_ast, x_bast, x_zast, x_aast, x_alen, x_obj, x_ret, x_retz, x_vret, x_max, x_min, x_copy, x_i2l, qg_none, qg_inl, qg_inr, qg_ite, xr1, xr0, xrE, xri, xl0, xl1, xl2, xl3, xl4, xl5, xl6, xl7, xl8, xl9, xl10, xs0, xs1, xs2, xs3, xs4, xs5, xs6, xs7, xs8, xs9, xs10, xi0, xi1, xi2, xi3, xi4, xi5, xi6, xi7, xi8, xi9, xi10, xc0, xc1, xc2, xc3, xc4, xc5, xc6, xc7, xv1, xv2, xv3, xv4, xv5, xv6, xv7, dT_le, dF_le, dT_lt, dF_lt, k77, k79, r2, ez, ih', hi]
        try omega
  unfold f_X12_readerMany
  refine qa_fn_eq ?_ (by simp)
  simp (disch := omega) [ev_X12_readerMany_0, ev_X12_readerMany_2, ev_X12_readerMany_3, ev_X12_readerMany_4, B_X12_readerMany_0, B_X12_readerMany_1, B_X12_readerMany_2, B_X12_readerMany_3, B_X12_readerMany_4, x_const, x_iadd, x_isub, x_imul, x_idiv, x_irem, x_ineg, x_dup, x_dup_x1, x_dup2, x_pop, x_goto, x_ifeq, x_ifne, x_iflt, x_ifge, x_ifgt, x_ifle, x_cmpeq, x_cmpne, x_cmplt, x_cmpge, x_cmpgt, x_cmple, x_null, x_nonnull, x_acmpeq, x_acmpne, x_get, x_put, x_putz, x_ald, x_ast, x_bast, x_zast, x_aast, x_alen, x_obj, x_ret, x_retz, x_vret, x_max, x_min, x_copy, x_i2l, qg_none, qg_inl, qg_inr, qg_ite, xr1, xr0, xrE, xri, xl0, xl1, xl2, xl3, xl4, xl5, xl6, xl7, xl8, xl9, xl10, xs0, xs1, xs2, xs3, xs4, xs5, xs6, xs7, xs8, xs9, xs10, xi0, xi1, xi2, xi3, xi4, xi5, xi6, xi7, xi8, xi9, xi10, xc0, xc1, xc2, xc3, xc4, xc5, xc6, xc7, xv1, xv2, xv3, xv4, xv5, xv6, xv7, dT_le, dF_le, dT_lt, dF_lt, loop 6 0 0]
  try rfl
theorem m_entryMany {m : Int → Int → Int} {kd : Int → Nat × Int} {w : Nat × Nat × Nat} {A : zA} (hK : KM kd) (hR : RM m) (hQ : QR A (m 79)) {M : Int} (hW : zW M A)  : f_X12_entryMany [(1, 77)] (m, kd, w) = some (.inl (some (0, zlive A)), (m, kd, w)) := by
  obtain ⟨k77, k78, k79, k80, k81, k82, k83, k84, k85, k86, k87, k88, k89, k90⟩ := id hK
  obtain ⟨r1, r2, r3, r4, r6, r7, r8, r12, r13, r15, r23, r25, r26⟩ := id hR
  obtain ⟨g0, g1, gC, gI, gB, gJ, gR, gD, gE⟩ := id hQ
  have loop : ∀ (n : Nat) (k s : Int), 0 ≤ k → k + n = 4 → 0 ≤ s → s ≤ 512 * k → qa_ev P_X12_entryMany 1 [(1, 77), (0, s), (0, k)] [] (m, kd, w) = some (.inl (some (0, s + zsf (fun b => if A.2.1 b 1 = 1 then A.2.1 b 5 - A.2.1 b 4 else 0) k n)), (m, kd, w)) := by
    intro n
    induction n with
    | zero =>
      intro k s h1 h2 h3 h4
      rw [ev_X12_entryMany_1]
      simp (disch := omega) [ev_X12_entryMany_0, ev_X12_entryMany_2, ev_X12_entryMany_3, ev_X12_entryMany_4, B_X12_entryMany_0, B_X12_entryMany_1, B_X12_entryMany_2, B_X12_entryMany_3, B_X12_entryMany_4, x_const, x_iadd, x_isub, x_imul, x_idiv, x_irem, x_ineg, x_dup, x_dup_x1, x_dup2, x_pop, x_goto, x_ifeq, x_ifne, x_iflt, x_ifge, x_ifgt, x_ifle, x_cmpeq, x_cmpne, x_cmplt, x_cmpge, x_cmpgt, x_cmple, x_null, x_nonnull, x_acmpeq, x_acmpne, x_get, x_put, x_putz, x_ald, x_ast, x_bast, x_zast, x_aast, x_alen, x_obj, x_ret, x_retz, x_vret, x_max, x_min, x_copy, x_i2l, qg_none, qg_inl, qg_inr, qg_ite, xr1, xr0, xrE, xri, xl0, xl1, xl2, xl3, xl4, xl5, xl6, xl7, xl8, xl9, xl10, xs0, xs1, xs2, xs3, xs4, xs5, xs6, xs7, xs8, xs9, xs10, xi0, xi1, xi2, xi3, xi4, xi5, xi6, xi7, xi8, xi9, xi10, xc0, xc1, xc2, xc3, xc4, xc5, xc6, xc7, xv1, xv2, xv3, xv4, xv5, xv6, xv7, dT_le, dF_le, dT_lt, dF_lt, zsf]
    | succ n ih =>
      intro k s h1 h2 h3 h4
      have ih' := ih (k + 1)
      have ez : ∀ v : Int, (fun b => if A.2.1 b 1 = 1 then A.2.1 b 5 - A.2.1 b 4 else 0) k = v → zsf (fun b => if A.2.1 b 1 = 1 then A.2.1 b 5 - A.2.1 b 4 else 0) k (n + 1) = v + zsf (fun b => if A.2.1 b 1 = 1 then A.2.1 b 5 - A.2.1 b 4 else 0) (k + 1) n := fun v h => by rw [← h]; rfl
      have hi := m_isBranch (w := w) hK hR hQ k
      rw [ev_X12_entryMany_1]
      by_cases h : zBl A k
      · rw [if_pos h] at hi
        have hz := hW.bn h
        have u2 := (gB k h1 (by omega) h.2.2).2.1
        have ez := ez _ (if_pos h.2.2)
        simp (disch := omega) [ev_X12_entryMany_0, ev_X12_entryMany_2, ev_X12_entryMany_3, ev_X12_entryMany_4, B_X12_entryMany_0, B_X12_entryMany_1, B_X12_entryMany_2, B_X12_entryMany_3, B_X12_entryMany_4, x_const, x_iadd, x_isub, x_imul, x_idiv, x_irem, x_ineg, x_dup, x_dup_x1, x_dup2, x_pop, x_goto, x_ifeq, x_ifne, x_iflt, x_ifge, x_ifgt, x_ifle, x_cmpeq, x_cmpne, x_cmplt, x_cmpge, x_cmpgt, x_cmple, x_null, x_nonnull, x_acmpeq, x_acmpne, x_get, x_put, x_putz, x_ald, x_ast, x_bast, x_zast, x_aast, x_alen, x_obj, x_ret, x_retz, x_vret, x_max, x_min, x_copy, x_i2l, qg_none, qg_inl, qg_inr, qg_ite, xr1, xr0, xrE, xri, xl0, xl1, xl2, xl3, xl4, xl5, xl6, xl7, xl8, xl9, xl10, xs0, xs1, xs2, xs3, xs4, xs5, xs6, xs7, xs8, xs9, xs10, xi0, xi1, xi2, xi3, xi4, xi5, xi6, xi7, xi8, xi9, xi10, xc0, xc1, xc2, xc3, xc4, xc5, xc6, xc7, xv1, xv2, xv3, xv4, xv5, xv6, xv7, dT_le, dF_le, dT_lt, dF_lt, k77, k79, r2, ez, ih', hi, m_ofBranch hK hR, u2]
        try omega
      · rw [if_neg h] at hi
        have ht := fun z => h ⟨h1, (by omega : k < 4), z⟩
        have ez := ez _ (if_neg ht)
        simp (disch := omega) [ev_X12_entryMany_0, ev_X12_entryMany_2, ev_X12_entryMany_3, ev_X12_entryMany_4, B_X12_entryMany_0, B_X12_entryMany_1, B_X12_entryMany_2, B_X12_entryMany_3, B_X12_entryMany_4, x_const, x_iadd, x_isub, x_imul, x_idiv, x_irem, x_ineg, x_dup, x_dup_x1, x_dup2, x_pop, x_goto, x_ifeq, x_ifne, x_iflt, x_ifge, x_ifgt, x_ifle, x_cmpeq, x_cmpne, x_cmplt, x_cmpge, x_cmpgt, x_cmple, x_null, x_nonnull, x_acmpeq, x_acmpne, x_get, x_put, x_putz, x_ald, x_ast, x_bast, x_zast, x_aast, x_alen, x_obj, x_ret, x_retz, x_vret, x_max, x_min, x_copy, x_i2l, qg_none, qg_inl, qg_inr, qg_ite, xr1, xr0, xrE, xri, xl0, xl1, xl2, xl3, xl4, xl5, xl6, xl7, xl8, xl9, xl10, xs0, xs1, xs2, xs3, xs4, xs5, xs6, xs7, xs8, xs9, xs10, xi0, xi1, xi2, xi3, xi4, xi5, xi6, xi7, xi8, xi9, xi10, xc0, xc1, xc2, xc3, xc4, xc5, xc6, xc7, xv1, xv2, xv3, xv4, xv5, xv6, xv7, dT_le, dF_le, dT_lt, dF_lt, k77, k79, r2, ez, ih', hi]
        try omega
  unfold f_X12_entryMany
  refine qa_fn_eq ?_ (by simp)
  simp (disch := omega) [ev_X12_entryMany_0, ev_X12_entryMany_2, ev_X12_entryMany_3, ev_X12_entryMany_4, B_X12_entryMany_0, B_X12_entryMany_1, B_X12_entryMany_2, B_X12_entryMany_3, B_X12_entryMany_4, x_const, x_iadd, x_isub, x_imul, x_idiv, x_irem, x_ineg, x_dup, x_dup_x1, x_dup2, x_pop, x_goto, x_ifeq, x_ifne, x_iflt, x_ifge, x_ifgt, x_ifle, x_cmpeq, x_cmpne, x_cmplt, x_cmpge, x_cmpgt, x_cmple, x_null, x_nonnull, x_acmpeq, x_acmpne, x_get, x_put, x_putz, x_ald, x_ast, x_bast, x_zast, x_aast, x_alen, x_obj, x_ret, x_retz, x_vret, x_max, x_min, x_copy, x_i2l, qg_none, qg_inl, qg_inr, qg_ite, xr1, xr0, xrE, xri, xl0, xl1, xl2, xl3, xl4, xl5, xl6, xl7, xl8, xl9, xl10, xs0, xs1, xs2, xs3, xs4, xs5, xs6, xs7, xs8, xs9, xs10, xi0, xi1, xi2, xi3, xi4, xi5, xi6, xi7, xi8, xi9, xi10, xc0, xc1, xc2, xc3, xc4, xc5, xc6, xc7, xv1, xv2, xv3, xv4, xv5, xv6, xv7, dT_le, dF_le, dT_lt, dF_lt, loop 4 0 0]
  try rfl
theorem m_childrenOf {m : Int → Int → Int} {kd : Int → Nat × Int} {w : Nat × Nat × Nat} {A : zA} (hK : KM kd) (hR : RM m) (hQ : QR A (m 79)) (b : Int) : f_X12_childrenOf [(1, 77), (0, b)] (m, kd, w) = some (.inl (some (0, zsum (fun k => if A.2.1 k 1 = 1 ∧ A.2.1 k 2 = b then 1 else 0) 4)), (m, kd, w)) := by
  obtain ⟨k77, k78, k79, k80, k81, k82, k83, k84, k85, k86, k87, k88, k89, k90⟩ := id hK
  obtain ⟨r1, r2, r3, r4, r6, r7, r8, r12, r13, r15, r23, r25, r26⟩ := id hR
  obtain ⟨g0, g1, gC, gI, gB, gJ, gR, gD, gE⟩ := id hQ
  have loop : ∀ (n : Nat) (k s : Int), 0 ≤ k → k + n = 4 → 0 ≤ s → s ≤ 1 * k → qa_ev P_X12_childrenOf 1 [(1, 77), (0, b), (0, s), (0, k)] [] (m, kd, w) = some (.inl (some (0, s + zsf (fun k => if A.2.1 k 1 = 1 ∧ A.2.1 k 2 = b then 1 else 0) k n)), (m, kd, w)) := by
    intro n
    induction n with
    | zero =>
      intro k s h1 h2 h3 h4
      rw [ev_X12_childrenOf_1]
      simp (disch := omega) [ev_X12_childrenOf_0, ev_X12_childrenOf_2, ev_X12_childrenOf_3, ev_X12_childrenOf_4, B_X12_childrenOf_0, B_X12_childrenOf_1, B_X12_childrenOf_2, B_X12_childrenOf_3, B_X12_childrenOf_4, x_const, x_iadd, x_isub, x_imul, x_idiv, x_irem, x_ineg, x_dup, x_dup_x1, x_dup2, x_pop, x_goto, x_ifeq, x_ifne, x_iflt, x_ifge, x_ifgt, x_ifle, x_cmpeq, x_cmpne, x_cmplt, x_cmpge, x_cmpgt, x_cmple, x_null, x_nonnull, x_acmpeq, x_acmpne, x_get, x_put, x_putz, x_ald, x_ast, x_bast, x_zast, x_aast, x_alen, x_obj, x_ret, x_retz, x_vret, x_max, x_min, x_copy, x_i2l, qg_none, qg_inl, qg_inr, qg_ite, xr1, xr0, xrE, xri, xl0, xl1, xl2, xl3, xl4, xl5, xl6, xl7, xl8, xl9, xl10, xs0, xs1, xs2, xs3, xs4, xs5, xs6, xs7, xs8, xs9, xs10, xi0, xi1, xi2, xi3, xi4, xi5, xi6, xi7, xi8, xi9, xi10, xc0, xc1, xc2, xc3, xc4, xc5, xc6, xc7, xv1, xv2, xv3, xv4, xv5, xv6, xv7, dT_le, dF_le, dT_lt, dF_lt, zsf]
    | succ n ih =>
      intro k s h1 h2 h3 h4
      have ih' := ih (k + 1)
      have ez : ∀ v : Int, (fun k => if A.2.1 k 1 = 1 ∧ A.2.1 k 2 = b then 1 else 0) k = v → zsf (fun k => if A.2.1 k 1 = 1 ∧ A.2.1 k 2 = b then 1 else 0) k (n + 1) = v + zsf (fun k => if A.2.1 k 1 = 1 ∧ A.2.1 k 2 = b then 1 else 0) (k + 1) n := fun v h => by rw [← h]; rfl
      have hi := m_isBranch (w := w) hK hR hQ k
      rw [ev_X12_childrenOf_1]
      by_cases h : zBl A k
      · rw [if_pos h] at hi
        have u4 := (gB k h1 (by omega) h.2.2).2.2.2.1
        by_cases hp : A.2.1 k 2 = b
        · skip
          have ez := ez _ (if_pos ⟨h.2.2, hp⟩)
          simp (disch := omega) [ev_X12_childrenOf_0, ev_X12_childrenOf_2, ev_X12_childrenOf_3, ev_X12_childrenOf_4, B_X12_childrenOf_0, B_X12_childrenOf_1, B_X12_childrenOf_2, B_X12_childrenOf_3, B_X12_childrenOf_4, x_const, x_iadd, x_isub, x_imul, x_idiv, x_irem, x_ineg, x_dup, x_dup_x1, x_dup2, x_pop, x_goto, x_ifeq, x_ifne, x_iflt, x_ifge, x_ifgt, x_ifle, x_cmpeq, x_cmpne, x_cmplt, x_cmpge, x_cmpgt, x_cmple, x_null, x_nonnull, x_acmpeq, x_acmpne, x_get, x_put, x_putz, x_ald, x_ast, x_bast, x_zast, x_aast, x_alen, x_obj, x_ret, x_retz, x_vret, x_max, x_min, x_copy, x_i2l, qg_none, qg_inl, qg_inr, qg_ite, xr1, xr0, xrE, xri, xl0, xl1, xl2, xl3, xl4, xl5, xl6, xl7, xl8, xl9, xl10, xs0, xs1, xs2, xs3, xs4, xs5, xs6, xs7, xs8, xs9, xs10, xi0, xi1, xi2, xi3, xi4, xi5, xi6, xi7, xi8, xi9, xi10, xc0, xc1, xc2, xc3, xc4, xc5, xc6, xc7, xv1, xv2, xv3, xv4, xv5, xv6, xv7, dT_le, dF_le, dT_lt, dF_lt, k77, k79, r2, ez, ih', hi, m_ofBranch hK hR, u4, hp]
          try omega
        · skip
          have ez := ez _ (if_neg (fun z => hp z.2))
          simp (disch := omega) [ev_X12_childrenOf_0, ev_X12_childrenOf_2, ev_X12_childrenOf_3, ev_X12_childrenOf_4, B_X12_childrenOf_0, B_X12_childrenOf_1, B_X12_childrenOf_2, B_X12_childrenOf_3, B_X12_childrenOf_4, x_const, x_iadd, x_isub, x_imul, x_idiv, x_irem, x_ineg, x_dup, x_dup_x1, x_dup2, x_pop, x_goto, x_ifeq, x_ifne, x_iflt, x_ifge, x_ifgt, x_ifle, x_cmpeq, x_cmpne, x_cmplt, x_cmpge, x_cmpgt, x_cmple, x_null, x_nonnull, x_acmpeq, x_acmpne, x_get, x_put, x_putz, x_ald, x_ast, x_bast, x_zast, x_aast, x_alen, x_obj, x_ret, x_retz, x_vret, x_max, x_min, x_copy, x_i2l, qg_none, qg_inl, qg_inr, qg_ite, xr1, xr0, xrE, xri, xl0, xl1, xl2, xl3, xl4, xl5, xl6, xl7, xl8, xl9, xl10, xs0, xs1, xs2, xs3, xs4, xs5, xs6, xs7, xs8, xs9, xs10, xi0, xi1, xi2, xi3, xi4, xi5, xi6, xi7, xi8, xi9, xi10, xc0, xc1, xc2, xc3, xc4, xc5, xc6, xc7, xv1, xv2, xv3, xv4, xv5, xv6, xv7, dT_le, dF_le, dT_lt, dF_lt, k77, k79, r2, ez, ih', hi, m_ofBranch hK hR, u4, hp]
          try omega
      · rw [if_neg h] at hi
        have ht := fun z => h ⟨h1, (by omega : k < 4), z⟩
        have ez := ez _ (if_neg (fun z => ht z.1))
        simp (disch := omega) [ev_X12_childrenOf_0, ev_X12_childrenOf_2, ev_X12_childrenOf_3, ev_X12_childrenOf_4, B_X12_childrenOf_0, B_X12_childrenOf_1, B_X12_childrenOf_2, B_X12_childrenOf_3, B_X12_childrenOf_4, x_const, x_iadd, x_isub, x_imul, x_idiv, x_irem, x_ineg, x_dup, x_dup_x1, x_dup2, x_pop, x_goto, x_ifeq, x_ifne, x_iflt, x_ifge, x_ifgt, x_ifle, x_cmpeq, x_cmpne, x_cmplt, x_cmpge, x_cmpgt, x_cmple, x_null, x_nonnull, x_acmpeq, x_acmpne, x_get, x_put, x_putz, x_ald, x_ast, x_bast, x_zast, x_aast, x_alen, x_obj, x_ret, x_retz, x_vret, x_max, x_min, x_copy, x_i2l, qg_none, qg_inl, qg_inr, qg_ite, xr1, xr0, xrE, xri, xl0, xl1, xl2, xl3, xl4, xl5, xl6, xl7, xl8, xl9, xl10, xs0, xs1, xs2, xs3, xs4, xs5, xs6, xs7, xs8, xs9, xs10, xi0, xi1, xi2, xi3, xi4, xi5, xi6, xi7, xi8, xi9, xi10, xc0, xc1, xc2, xc3, xc4, xc5, xc6, xc7, xv1, xv2, xv3, xv4, xv5, xv6, xv7, dT_le, dF_le, dT_lt, dF_lt, k77, k79, r2, ez, ih', hi]
        try omega
  unfold f_X12_childrenOf
  refine qa_fn_eq ?_ (by simp)
  simp (disch := omega) [ev_X12_childrenOf_0, ev_X12_childrenOf_2, ev_X12_childrenOf_3, ev_X12_childrenOf_4, B_X12_childrenOf_0, B_X12_childrenOf_1, B_X12_childrenOf_2, B_X12_childrenOf_3, B_X12_childrenOf_4, x_const, x_iadd, x_isub, x_imul, x_idiv, x_irem, x_ineg, x_dup, x_dup_x1, x_dup2, x_pop, x_goto, x_ifeq, x_ifne, x_iflt, x_ifge, x_ifgt, x_ifle, x_cmpeq, x_cmpne, x_cmplt, x_cmpge, x_cmpgt, x_cmple, x_null, x_nonnull, x_acmpeq, x_acmpne, x_get, x_put, x_putz, x_ald, x_ast, x_bast, x_zast, x_aast, x_alen, x_obj, x_ret, x_retz, x_vret, x_max, x_min, x_copy, x_i2l, qg_none, qg_inl, qg_inr, qg_ite, xr1, xr0, xrE, xri, xl0, xl1, xl2, xl3, xl4, xl5, xl6, xl7, xl8, xl9, xl10, xs0, xs1, xs2, xs3, xs4, xs5, xs6, xs7, xs8, xs9, xs10, xi0, xi1, xi2, xi3, xi4, xi5, xi6, xi7, xi8, xi9, xi10, xc0, xc1, xc2, xc3, xc4, xc5, xc6, xc7, xv1, xv2, xv3, xv4, xv5, xv6, xv7, dT_le, dF_le, dT_lt, dF_lt, loop 4 0 0]
  try rfl
theorem m_notBehind {m : Int → Int → Int} {kd : Int → Nat × Int} {w : Nat × Nat × Nat} {A : zA} (hK : KM kd) (hR : RM m) (hQ : QR A (m 79)) (b p : Int) : f_X12_notBehind [(1, 77), (0, b), (0, p)] (m, kd, w) = some (.inl (some (0, zNotBehind A b p)), (m, kd, w)) := by
  obtain ⟨k77, k78, k79, k80, k81, k82, k83, k84, k85, k86, k87, k88, k89, k90⟩ := id hK
  obtain ⟨r1, r2, r3, r4, r6, r7, r8, r12, r13, r15, r23, r25, r26⟩ := id hR
  obtain ⟨g0, g1, gC, gI, gB, gJ, gR, gD, gE⟩ := id hQ
  have loop : ∀ (n : Nat) (k s : Int), 0 ≤ k → k + n = 6 → 0 ≤ s → s ≤ 1 * k → qa_ev P_X12_notBehind 1 [(1, 77), (0, b), (0, p), (0, s), (0, k)] [] (m, kd, w) = some (.inl (some (0, s + zsf (fun r => if zIn A r b ∧ A.2.2.1 r 2 ≤ p then 1 else 0) k n)), (m, kd, w)) := by
    intro n
    induction n with
    | zero =>
      intro k s h1 h2 h3 h4
      rw [ev_X12_notBehind_1]
      simp (disch := omega) [ev_X12_notBehind_0, ev_X12_notBehind_2, ev_X12_notBehind_3, ev_X12_notBehind_4, B_X12_notBehind_0, B_X12_notBehind_1, B_X12_notBehind_2, B_X12_notBehind_3, B_X12_notBehind_4, x_const, x_iadd, x_isub, x_imul, x_idiv, x_irem, x_ineg, x_dup, x_dup_x1, x_dup2, x_pop, x_goto, x_ifeq, x_ifne, x_iflt, x_ifge, x_ifgt, x_ifle, x_cmpeq, x_cmpne, x_cmplt, x_cmpge, x_cmpgt, x_cmple, x_null, x_nonnull, x_acmpeq, x_acmpne, x_get, x_put, x_putz, x_ald, x_ast, x_bast, x_zast, x_aast, x_alen, x_obj, x_ret, x_retz, x_vret, x_max, x_min, x_copy, x_i2l, qg_none, qg_inl, qg_inr, qg_ite, xr1, xr0, xrE, xri, xl0, xl1, xl2, xl3, xl4, xl5, xl6, xl7, xl8, xl9, xl10, xs0, xs1, xs2, xs3, xs4, xs5, xs6, xs7, xs8, xs9, xs10, xi0, xi1, xi2, xi3, xi4, xi5, xi6, xi7, xi8, xi9, xi10, xc0, xc1, xc2, xc3, xc4, xc5, xc6, xc7, xv1, xv2, xv3, xv4, xv5, xv6, xv7, dT_le, dF_le, dT_lt, dF_lt, zsf]
    | succ n ih =>
      intro k s h1 h2 h3 h4
      have ih' := ih (k + 1)
      have ez : ∀ v : Int, (fun r => if zIn A r b ∧ A.2.2.1 r 2 ≤ p then 1 else 0) k = v → zsf (fun r => if zIn A r b ∧ A.2.2.1 r 2 ≤ p then 1 else 0) k (n + 1) = v + zsf (fun r => if zIn A r b ∧ A.2.2.1 r 2 ≤ p then 1 else 0) (k + 1) n := fun v h => by rw [← h]; rfl
      have hi := m_isIn (w := w) hK hR hQ k b
      rw [ev_X12_notBehind_1]
      by_cases h : zIn A k b
      · rw [if_pos h] at hi
        have e2 := gR k 2 h.1.1 h.1.2.1 h.1.2.2 (by decide) (by decide)
        by_cases hp : A.2.2.1 k 2 ≤ p
        · skip
          have ez := ez _ (if_pos ⟨h, hp⟩)
          simp (disch := omega) [ev_X12_notBehind_0, ev_X12_notBehind_2, ev_X12_notBehind_3, ev_X12_notBehind_4, B_X12_notBehind_0, B_X12_notBehind_1, B_X12_notBehind_2, B_X12_notBehind_3, B_X12_notBehind_4, x_const, x_iadd, x_isub, x_imul, x_idiv, x_irem, x_ineg, x_dup, x_dup_x1, x_dup2, x_pop, x_goto, x_ifeq, x_ifne, x_iflt, x_ifge, x_ifgt, x_ifle, x_cmpeq, x_cmpne, x_cmplt, x_cmpge, x_cmpgt, x_cmple, x_null, x_nonnull, x_acmpeq, x_acmpne, x_get, x_put, x_putz, x_ald, x_ast, x_bast, x_zast, x_aast, x_alen, x_obj, x_ret, x_retz, x_vret, x_max, x_min, x_copy, x_i2l, qg_none, qg_inl, qg_inr, qg_ite, xr1, xr0, xrE, xri, xl0, xl1, xl2, xl3, xl4, xl5, xl6, xl7, xl8, xl9, xl10, xs0, xs1, xs2, xs3, xs4, xs5, xs6, xs7, xs8, xs9, xs10, xi0, xi1, xi2, xi3, xi4, xi5, xi6, xi7, xi8, xi9, xi10, xc0, xc1, xc2, xc3, xc4, xc5, xc6, xc7, xv1, xv2, xv3, xv4, xv5, xv6, xv7, dT_le, dF_le, dT_lt, dF_lt, k77, k79, r2, ez, ih', hi, m_ofReader hK hR, e2, hp]
          try omega
        · skip
          have ez := ez _ (if_neg (fun z => hp z.2))
          simp (disch := omega) [ev_X12_notBehind_0, ev_X12_notBehind_2, ev_X12_notBehind_3, ev_X12_notBehind_4, B_X12_notBehind_0, B_X12_notBehind_1, B_X12_notBehind_2, B_X12_notBehind_3, B_X12_notBehind_4, x_const, x_iadd, x_isub, x_imul, x_idiv, x_irem, x_ineg, x_dup, x_dup_x1, x_dup2, x_pop, x_goto, x_ifeq, x_ifne, x_iflt, x_ifge, x_ifgt, x_ifle, x_cmpeq, x_cmpne, x_cmplt, x_cmpge, x_cmpgt, x_cmple, x_null, x_nonnull, x_acmpeq, x_acmpne, x_get, x_put, x_putz, x_ald, x_ast, x_bast, x_zast, x_aast, x_alen, x_obj, x_ret, x_retz, x_vret, x_max, x_min, x_copy, x_i2l, qg_none, qg_inl, qg_inr, qg_ite, xr1, xr0, xrE, xri, xl0, xl1, xl2, xl3, xl4, xl5, xl6, xl7, xl8, xl9, xl10, xs0, xs1, xs2, xs3, xs4, xs5, xs6, xs7, xs8, xs9, xs10, xi0, xi1, xi2, xi3, xi4, xi5, xi6, xi7, xi8, xi9, xi10, xc0, xc1, xc2, xc3, xc4, xc5, xc6, xc7, xv1, xv2, xv3, xv4, xv5, xv6, xv7, dT_le, dF_le, dT_lt, dF_lt, k77, k79, r2, ez, ih', hi, m_ofReader hK hR, e2, hp]
          try omega
      · rw [if_neg h] at hi
        have ez := ez _ (if_neg (fun z => h z.1))
        simp (disch := omega) [ev_X12_notBehind_0, ev_X12_notBehind_2, ev_X12_notBehind_3, ev_X12_notBehind_4, B_X12_notBehind_0, B_X12_notBehind_1, B_X12_notBehind_2, B_X12_notBehind_3, B_X12_notBehind_4, x_const, x_iadd, x_isub, x_imul, x_idiv, x_irem, x_ineg, x_dup, x_dup_x1, x_dup2, x_pop, x_goto, x_ifeq, x_ifne, x_iflt, x_ifge, x_ifgt, x_ifle, x_cmpeq, x_cmpne, x_cmplt, x_cmpge, x_cmpgt, x_cmple, x_null, x_nonnull, x_acmpeq, x_acmpne, x_get, x_put, x_putz, x_ald, x_ast, x_bast, x_zast, x_aast, x_alen, x_obj, x_ret, x_retz, x_vret, x_max, x_min, x_copy, x_i2l, qg_none, qg_inl, qg_inr, qg_ite, xr1, xr0, xrE, xri, xl0, xl1, xl2, xl3, xl4, xl5, xl6, xl7, xl8, xl9, xl10, xs0, xs1, xs2, xs3, xs4, xs5, xs6, xs7, xs8, xs9, xs10, xi0, xi1, xi2, xi3, xi4, xi5, xi6, xi7, xi8, xi9, xi10, xc0, xc1, xc2, xc3, xc4, xc5, xc6, xc7, xv1, xv2, xv3, xv4, xv5, xv6, xv7, dT_le, dF_le, dT_lt, dF_lt, k77, k79, r2, ez, ih', hi]
        try omega
  unfold f_X12_notBehind
  refine qa_fn_eq ?_ (by simp)
  simp (disch := omega) [ev_X12_notBehind_0, ev_X12_notBehind_2, ev_X12_notBehind_3, ev_X12_notBehind_4, B_X12_notBehind_0, B_X12_notBehind_1, B_X12_notBehind_2, B_X12_notBehind_3, B_X12_notBehind_4, x_const, x_iadd, x_isub, x_imul, x_idiv, x_irem, x_ineg, x_dup, x_dup_x1, x_dup2, x_pop, x_goto, x_ifeq, x_ifne, x_iflt, x_ifge, x_ifgt, x_ifle, x_cmpeq, x_cmpne, x_cmplt, x_cmpge, x_cmpgt, x_cmple, x_null, x_nonnull, x_acmpeq, x_acmpne, x_get, x_put, x_putz, x_ald, x_ast, x_bast, x_zast, x_aast, x_alen, x_obj, x_ret, x_retz, x_vret, x_max, x_min, x_copy, x_i2l, qg_none, qg_inl, qg_inr, qg_ite, xr1, xr0, xrE, xri, xl0, xl1, xl2, xl3, xl4, xl5, xl6, xl7, xl8, xl9, xl10, xs0, xs1, xs2, xs3, xs4, xs5, xs6, xs7, xs8, xs9, xs10, xi0, xi1, xi2, xi3, xi4, xi5, xi6, xi7, xi8, xi9, xi10, xc0, xc1, xc2, xc3, xc4, xc5, xc6, xc7, xv1, xv2, xv3, xv4, xv5, xv6, xv7, dT_le, dF_le, dT_lt, dF_lt, loop 6 0 0]
  try rfl
theorem m_aheadOf {m : Int → Int → Int} {kd : Int → Nat × Int} {w : Nat × Nat × Nat} {A : zA} (hK : KM kd) (hR : RM m) (hQ : QR A (m 79)) {r : Int} (hr : zRl A r) : f_X12_aheadOf [(1, 77), (0, r)] (m, kd, w) = some (.inl (some (0, zAhead A r (A.2.2.1 r 4))), (m, kd, w)) := by
  obtain ⟨k77, k78, k79, k80, k81, k82, k83, k84, k85, k86, k87, k88, k89, k90⟩ := id hK
  obtain ⟨r1, r2, r3, r4, r6, r7, r8, r12, r13, r15, r23, r25, r26⟩ := id hR
  obtain ⟨g0, g1, gC, gI, gB, gJ, gR, gD, gE⟩ := id hQ
  have e4 := gR r 4 hr.1 hr.2.1 hr.2.2 (by decide) (by decide)
  obtain ⟨s1, s2, s3⟩ := id hr
  have loop : ∀ (n : Nat) (k s : Int) (l : qV), 0 ≤ k → k + n = 6 → 0 ≤ s → s ≤ k → qa_ev P_X12_aheadOf 1 [(1, 77), (0, r), (0, s), (0, k), l] [] (m, kd, w) = some (.inl (some (0, s + zsf (fun k => if zPr A k ∧ (A.2.2.1 k 4 < A.2.2.1 r 4 ∨ (A.2.2.1 k 4 = A.2.2.1 r 4 ∧ k < r)) then 1 else 0) k n)), (m, kd, w)) := by
    intro n
    induction n with
    | zero =>
      intro k s l h1 h2 h3 h4
      rw [ev_X12_aheadOf_1]
      simp (disch := omega) [ev_X12_aheadOf_0, ev_X12_aheadOf_2, ev_X12_aheadOf_3, ev_X12_aheadOf_4, ev_X12_aheadOf_5, ev_X12_aheadOf_6, ev_X12_aheadOf_7, B_X12_aheadOf_0, B_X12_aheadOf_1, B_X12_aheadOf_2, B_X12_aheadOf_3, B_X12_aheadOf_4, B_X12_aheadOf_5, B_X12_aheadOf_6, B_X12_aheadOf_7, x_const, x_iadd, x_isub, x_imul, x_idiv, x_irem, x_ineg, x_dup, x_dup_x1, x_dup2, x_pop, x_goto, x_ifeq, x_ifne, x_iflt, x_ifge, x_ifgt, x_ifle, x_cmpeq, x_cmpne, x_cmplt, x_cmpge, x_cmpgt, x_cmple, x_null, x_nonnull, x_acmpeq, x_acmpne, x_get, x_put, x_putz, x_ald, x_ast, x_bast, x_zast, x_aast, x_alen, x_obj, x_ret, x_retz, x_vret, x_max, x_min, x_copy, x_i2l, qg_none, qg_inl, qg_inr, qg_ite, xr1, xr0, xrE, xri, xl0, xl1, xl2, xl3, xl4, xl5, xl6, xl7, xl8, xl9, xl10, xs0, xs1, xs2, xs3, xs4, xs5, xs6, xs7, xs8, xs9, xs10, xi0, xi1, xi2, xi3, xi4, xi5, xi6, xi7, xi8, xi9, xi10, xc0, xc1, xc2, xc3, xc4, xc5, xc6, xc7, xv1, xv2, xv3, xv4, xv5, xv6, xv7, dT_le, dF_le, dT_lt, dF_lt, zsf]
    | succ n ih =>
      intro k s l h1 h2 h3 h4
      have ih' := ih (k + 1)
      have hp := m_hasPromise (w := w) hK hR hQ k
      have ez : ∀ v : Int, (fun k => if zPr A k ∧ (A.2.2.1 k 4 < A.2.2.1 r 4 ∨ (A.2.2.1 k 4 = A.2.2.1 r 4 ∧ k < r)) then 1 else 0) k = v → zsf (fun k => if zPr A k ∧ (A.2.2.1 k 4 < A.2.2.1 r 4 ∨ (A.2.2.1 k 4 = A.2.2.1 r 4 ∧ k < r)) then 1 else 0) k (n + 1) = v + zsf (fun k => if zPr A k ∧ (A.2.2.1 k 4 < A.2.2.1 r 4 ∨ (A.2.2.1 k 4 = A.2.2.1 r 4 ∧ k < r)) then 1 else 0) (k + 1) n := fun v h => by rw [← h]; rfl
      rw [ev_X12_aheadOf_1]
      by_cases h : zPr A k
      · rw [if_pos h] at hp
        have ek := gR k 4 h.1.1 h.1.2.1 h.1.2.2 (by decide) (by decide)
        by_cases c1 : A.2.2.1 k 4 < A.2.2.1 r 4
        · have ez := ez _ (if_pos ⟨h, Or.inl c1⟩)
          simp (disch := omega) [ev_X12_aheadOf_0, ev_X12_aheadOf_2, ev_X12_aheadOf_3, ev_X12_aheadOf_4, ev_X12_aheadOf_5, ev_X12_aheadOf_6, ev_X12_aheadOf_7, B_X12_aheadOf_0, B_X12_aheadOf_1, B_X12_aheadOf_2, B_X12_aheadOf_3, B_X12_aheadOf_4, B_X12_aheadOf_5, B_X12_aheadOf_6, B_X12_aheadOf_7, x_const, x_iadd, x_isub, x_imul, x_idiv, x_irem, x_ineg, x_dup, x_dup_x1, x_dup2, x_pop, x_goto, x_ifeq, x_ifne, x_iflt, x_ifge, x_ifgt, x_ifle, x_cmpeq, x_cmpne, x_cmplt, x_cmpge, x_cmpgt, x_cmple, x_null, x_nonnull, x_acmpeq, x_acmpne, x_get, x_put, x_putz, x_ald, x_ast, x_bast, x_zast, x_aast, x_alen, x_obj, x_ret, x_retz, x_vret, x_max, x_min, x_copy, x_i2l, qg_none, qg_inl, qg_inr, qg_ite, xr1, xr0, xrE, xri, xl0, xl1, xl2, xl3, xl4, xl5, xl6, xl7, xl8, xl9, xl10, xs0, xs1, xs2, xs3, xs4, xs5, xs6, xs7, xs8, xs9, xs10, xi0, xi1, xi2, xi3, xi4, xi5, xi6, xi7, xi8, xi9, xi10, xc0, xc1, xc2, xc3, xc4, xc5, xc6, xc7, xv1, xv2, xv3, xv4, xv5, xv6, xv7, dT_le, dF_le, dT_lt, dF_lt, k77, m_ofReader hK hR, e4, ek, hp, ez, c1, ih']
          try omega
        · by_cases c2 : A.2.2.1 k 4 = A.2.2.1 r 4
          · by_cases c3 : k < r
            · have ez := ez _ (if_pos ⟨h, Or.inr ⟨c2, c3⟩⟩)
              simp (disch := omega) [ev_X12_aheadOf_0, ev_X12_aheadOf_2, ev_X12_aheadOf_3, ev_X12_aheadOf_4, ev_X12_aheadOf_5, ev_X12_aheadOf_6, ev_X12_aheadOf_7, B_X12_aheadOf_0, B_X12_aheadOf_1, B_X12_aheadOf_2, B_X12_aheadOf_3, B_X12_aheadOf_4, B_X12_aheadOf_5, B_X12_aheadOf_6, B_X12_aheadOf_7, x_const, x_iadd, x_isub, x_imul, x_idiv, x_irem, x_ineg, x_dup, x_dup_x1, x_dup2, x_pop, x_goto, x_ifeq, x_ifne, x_iflt, x_ifge, x_ifgt, x_ifle, x_cmpeq, x_cmpne, x_cmplt, x_cmpge, x_cmpgt, x_cmple, x_null, x_nonnull, x_acmpeq, x_acmpne, x_get, x_put, x_putz, x_ald, x_ast, x_bast, x_zast, x_aast, x_alen, x_obj, x_ret, x_retz, x_vret, x_max, x_min, x_copy, x_i2l, qg_none, qg_inl, qg_inr, qg_ite, xr1, xr0, xrE, xri, xl0, xl1, xl2, xl3, xl4, xl5, xl6, xl7, xl8, xl9, xl10, xs0, xs1, xs2, xs3, xs4, xs5, xs6, xs7, xs8, xs9, xs10, xi0, xi1, xi2, xi3, xi4, xi5, xi6, xi7, xi8, xi9, xi10, xc0, xc1, xc2, xc3, xc4, xc5, xc6, xc7, xv1, xv2, xv3, xv4, xv5, xv6, xv7, dT_le, dF_le, dT_lt, dF_lt, k77, m_ofReader hK hR, e4, ek, hp, ez, c2, c3, ih']
              try omega
            · have ez := ez _ (if_neg (fun z => by omega))
              simp (disch := omega) [ev_X12_aheadOf_0, ev_X12_aheadOf_2, ev_X12_aheadOf_3, ev_X12_aheadOf_4, ev_X12_aheadOf_5, ev_X12_aheadOf_6, ev_X12_aheadOf_7, B_X12_aheadOf_0, B_X12_aheadOf_1, B_X12_aheadOf_2, B_X12_aheadOf_3, B_X12_aheadOf_4, B_X12_aheadOf_5, B_X12_aheadOf_6, B_X12_aheadOf_7, x_const, x_iadd, x_isub, x_imul, x_idiv, x_irem, x_ineg, x_dup, x_dup_x1, x_dup2, x_pop, x_goto, x_ifeq, x_ifne, x_iflt, x_ifge, x_ifgt, x_ifle, x_cmpeq, x_cmpne, x_cmplt, x_cmpge, x_cmpgt, x_cmple, x_null, x_nonnull, x_acmpeq, x_acmpne, x_get, x_put, x_putz, x_ald, x_ast, x_bast, x_zast, x_aast, x_alen, x_obj, x_ret, x_retz, x_vret, x_max, x_min, x_copy, x_i2l, qg_none, qg_inl, qg_inr, qg_ite, xr1, xr0, xrE, xri, xl0, xl1, xl2, xl3, xl4, xl5, xl6, xl7, xl8, xl9, xl10, xs0, xs1, xs2, xs3, xs4, xs5, xs6, xs7, xs8, xs9, xs10, xi0, xi1, xi2, xi3, xi4, xi5, xi6, xi7, xi8, xi9, xi10, xc0, xc1, xc2, xc3, xc4, xc5, xc6, xc7, xv1, xv2, xv3, xv4, xv5, xv6, xv7, dT_le, dF_le, dT_lt, dF_lt, k77, m_ofReader hK hR, e4, ek, hp, ez, c2, c3, ih']
          · have ez := ez _ (if_neg (fun z => by omega))
            simp (disch := omega) [ev_X12_aheadOf_0, ev_X12_aheadOf_2, ev_X12_aheadOf_3, ev_X12_aheadOf_4, ev_X12_aheadOf_5, ev_X12_aheadOf_6, ev_X12_aheadOf_7, B_X12_aheadOf_0, B_X12_aheadOf_1, B_X12_aheadOf_2, B_X12_aheadOf_3, B_X12_aheadOf_4, B_X12_aheadOf_5, B_X12_aheadOf_6, B_X12_aheadOf_7, x_const, x_iadd, x_isub, x_imul, x_idiv, x_irem, x_ineg, x_dup, x_dup_x1, x_dup2, x_pop, x_goto, x_ifeq, x_ifne, x_iflt, x_ifge, x_ifgt, x_ifle, x_cmpeq, x_cmpne, x_cmplt, x_cmpge, x_cmpgt, x_cmple, x_null, x_nonnull, x_acmpeq, x_acmpne, x_get, x_put, x_putz, x_ald, x_ast, x_bast, x_zast, x_aast, x_alen, x_obj, x_ret, x_retz, x_vret, x_max, x_min, x_copy, x_i2l, qg_none, qg_inl, qg_inr, qg_ite, xr1, xr0, xrE, xri, xl0, xl1, xl2, xl3, xl4, xl5, xl6, xl7, xl8, xl9, xl10, xs0, xs1, xs2, xs3, xs4, xs5, xs6, xs7, xs8, xs9, xs10, xi0, xi1, xi2, xi3, xi4, xi5, xi6, xi7, xi8, xi9, xi10, xc0, xc1, xc2, xc3, xc4, xc5, xc6, xc7, xv1, xv2, xv3, xv4, xv5, xv6, xv7, dT_le, dF_le, dT_lt, dF_lt, k77, m_ofReader hK hR, e4, ek, hp, ez, c1, c2, ih']
      · rw [if_neg h] at hp
        have ez := ez _ (if_neg (fun z => h z.1))
        by_cases c1 : m 79 (34 + 26 * k + 4) < A.2.2.1 r 4
        · simp (disch := omega) [ev_X12_aheadOf_0, ev_X12_aheadOf_2, ev_X12_aheadOf_3, ev_X12_aheadOf_4, ev_X12_aheadOf_5, ev_X12_aheadOf_6, ev_X12_aheadOf_7, B_X12_aheadOf_0, B_X12_aheadOf_1, B_X12_aheadOf_2, B_X12_aheadOf_3, B_X12_aheadOf_4, B_X12_aheadOf_5, B_X12_aheadOf_6, B_X12_aheadOf_7, x_const, x_iadd, x_isub, x_imul, x_idiv, x_irem, x_ineg, x_dup, x_dup_x1, x_dup2, x_pop, x_goto, x_ifeq, x_ifne, x_iflt, x_ifge, x_ifgt, x_ifle, x_cmpeq, x_cmpne, x_cmplt, x_cmpge, x_cmpgt, x_cmple, x_null, x_nonnull, x_acmpeq, x_acmpne, x_get, x_put, x_putz, x_ald, x_ast, x_bast, x_zast, x_aast, x_alen, x_obj, x_ret, x_retz, x_vret, x_max, x_min, x_copy, x_i2l, qg_none, qg_inl, qg_inr, qg_ite, xr1, xr0, xrE, xri, xl0, xl1, xl2, xl3, xl4, xl5, xl6, xl7, xl8, xl9, xl10, xs0, xs1, xs2, xs3, xs4, xs5, xs6, xs7, xs8, xs9, xs10, xi0, xi1, xi2, xi3, xi4, xi5, xi6, xi7, xi8, xi9, xi10, xc0, xc1, xc2, xc3, xc4, xc5, xc6, xc7, xv1, xv2, xv3, xv4, xv5, xv6, xv7, dT_le, dF_le, dT_lt, dF_lt, k77, m_ofReader hK hR, e4, hp, ez, c1, ih']
        · by_cases c2 : m 79 (34 + 26 * k + 4) = A.2.2.1 r 4
          · by_cases c3 : k < r
            · simp (disch := omega) [ev_X12_aheadOf_0, ev_X12_aheadOf_2, ev_X12_aheadOf_3, ev_X12_aheadOf_4, ev_X12_aheadOf_5, ev_X12_aheadOf_6, ev_X12_aheadOf_7, B_X12_aheadOf_0, B_X12_aheadOf_1, B_X12_aheadOf_2, B_X12_aheadOf_3, B_X12_aheadOf_4, B_X12_aheadOf_5, B_X12_aheadOf_6, B_X12_aheadOf_7, x_const, x_iadd, x_isub, x_imul, x_idiv, x_irem, x_ineg, x_dup, x_dup_x1, x_dup2, x_pop, x_goto, x_ifeq, x_ifne, x_iflt, x_ifge, x_ifgt, x_ifle, x_cmpeq, x_cmpne, x_cmplt, x_cmpge, x_cmpgt, x_cmple, x_null, x_nonnull, x_acmpeq, x_acmpne, x_get, x_put, x_putz, x_ald, x_ast, x_bast, x_zast, x_aast, x_alen, x_obj, x_ret, x_retz, x_vret, x_max, x_min, x_copy, x_i2l, qg_none, qg_inl, qg_inr, qg_ite, xr1, xr0, xrE, xri, xl0, xl1, xl2, xl3, xl4, xl5, xl6, xl7, xl8, xl9, xl10, xs0, xs1, xs2, xs3, xs4, xs5, xs6, xs7, xs8, xs9, xs10, xi0, xi1, xi2, xi3, xi4, xi5, xi6, xi7, xi8, xi9, xi10, xc0, xc1, xc2, xc3, xc4, xc5, xc6, xc7, xv1, xv2, xv3, xv4, xv5, xv6, xv7, dT_le, dF_le, dT_lt, dF_lt, k77, m_ofReader hK hR, e4, hp, ez, c2, c3, ih']
            · simp (disch := omega) [ev_X12_aheadOf_0, ev_X12_aheadOf_2, ev_X12_aheadOf_3, ev_X12_aheadOf_4, ev_X12_aheadOf_5, ev_X12_aheadOf_6, ev_X12_aheadOf_7, B_X12_aheadOf_0, B_X12_aheadOf_1, B_X12_aheadOf_2, B_X12_aheadOf_3, B_X12_aheadOf_4, B_X12_aheadOf_5, B_X12_aheadOf_6, B_X12_aheadOf_7, x_const, x_iadd, x_isub, x_imul, x_idiv, x_irem, x_ineg, x_dup, x_dup_x1, x_dup2, x_pop, x_goto, x_ifeq, x_ifne, x_iflt, x_ifge, x_ifgt, x_ifle, x_cmpeq, x_cmpne, x_cmplt, x_cmpge, x_cmpgt, x_cmple, x_null, x_nonnull, x_acmpeq, x_acmpne, x_get, x_put, x_putz, x_ald, x_ast, x_bast, x_zast, x_aast, x_alen, x_obj, x_ret, x_retz, x_vret, x_max, x_min, x_copy, x_i2l, qg_none, qg_inl, qg_inr, qg_ite, xr1, xr0, xrE, xri, xl0, xl1, xl2, xl3, xl4, xl5, xl6, xl7, xl8, xl9, xl10, xs0, xs1, xs2, xs3, xs4, xs5, xs6, xs7, xs8, xs9, xs10, xi0, xi1, xi2, xi3, xi4, xi5, xi6, xi7, xi8, xi9, xi10, xc0, xc1, xc2, xc3, xc4, xc5, xc6, xc7, xv1, xv2, xv3, xv4, xv5, xv6, xv7, dT_le, dF_le, dT_lt, dF_lt, k77, m_ofReader hK hR, e4, hp, ez, c2, c3, ih']
          · simp (disch := omega) [ev_X12_aheadOf_0, ev_X12_aheadOf_2, ev_X12_aheadOf_3, ev_X12_aheadOf_4, ev_X12_aheadOf_5, ev_X12_aheadOf_6, ev_X12_aheadOf_7, B_X12_aheadOf_0, B_X12_aheadOf_1, B_X12_aheadOf_2, B_X12_aheadOf_3, B_X12_aheadOf_4, B_X12_aheadOf_5, B_X12_aheadOf_6, B_X12_aheadOf_7, x_const, x_iadd, x_isub, x_imul, x_idiv, x_irem, x_ineg, x_dup, x_dup_x1, x_dup2, x_pop, x_goto, x_ifeq, x_ifne, x_iflt, x_ifge, x_ifgt, x_ifle, x_cmpeq, x_cmpne, x_cmplt, x_cmpge, x_cmpgt, x_cmple, x_null, x_nonnull, x_acmpeq, x_acmpne, x_get, x_put, x_putz, x_ald, x_ast, x_bast, x_zast, x_aast, x_alen, x_obj, x_ret, x_retz, x_vret, x_max, x_min, x_copy, x_i2l, qg_none, qg_inl, qg_inr, qg_ite, xr1, xr0, xrE, xri, xl0, xl1, xl2, xl3, xl4, xl5, xl6, xl7, xl8, xl9, xl10, xs0, xs1, xs2, xs3, xs4, xs5, xs6, xs7, xs8, xs9, xs10, xi0, xi1, xi2, xi3, xi4, xi5, xi6, xi7, xi8, xi9, xi10, xc0, xc1, xc2, xc3, xc4, xc5, xc6, xc7, xv1, xv2, xv3, xv4, xv5, xv6, xv7, dT_le, dF_le, dT_lt, dF_lt, k77, m_ofReader hK hR, e4, hp, ez, c1, c2, ih']
  unfold f_X12_aheadOf
  refine qa_fn_eq ?_ (by simp)
  simp (disch := omega) [ev_X12_aheadOf_0, ev_X12_aheadOf_2, ev_X12_aheadOf_3, ev_X12_aheadOf_4, ev_X12_aheadOf_5, ev_X12_aheadOf_6, ev_X12_aheadOf_7, B_X12_aheadOf_0, B_X12_aheadOf_1, B_X12_aheadOf_2, B_X12_aheadOf_3, B_X12_aheadOf_4, B_X12_aheadOf_5, B_X12_aheadOf_6, B_X12_aheadOf_7, x_const, x_iadd, x_isub, x_imul, x_idiv, x_irem, x_ineg, x_dup, x_dup_x1, x_dup2, x_pop, x_goto, x_ifeq, x_ifne, x_iflt, x_ifge, x_ifgt, x_ifle, x_cmpeq, x_cmpne, x_cmplt, x_cmpge, x_cmpgt, x_cmple, x_null, x_nonnull, x_acmpeq, x_acmpne, x_get, x_put, x_putz, x_ald, x_ast, x_bast, x_zast, x_aast, x_alen, x_obj, x_ret, x_retz, x_vret, x_max, x_min, x_copy, x_i2l, qg_none, qg_inl, qg_inr, qg_ite, xr1, xr0, xrE, xri, xl0, xl1, xl2, xl3, xl4, xl5, xl6, xl7, xl8, xl9, xl10, xs0, xs1, xs2, xs3, xs4, xs5, xs6, xs7, xs8, xs9, xs10, xi0, xi1, xi2, xi3, xi4, xi5, xi6, xi7, xi8, xi9, xi10, xc0, xc1, xc2, xc3, xc4, xc5, xc6, xc7, xv1, xv2, xv3, xv4, xv5, xv6, xv7, dT_le, dF_le, dT_lt, dF_lt, loop 6 0 0]
  rfl
theorem m_greatestTotal {m : Int → Int → Int} {kd : Int → Nat × Int} {w : Nat × Nat × Nat} {A : zA} (hK : KM kd) (hR : RM m) (hQ : QR A (m 79)) : f_X12_greatestTotal [(1, 77)] (m, kd, w) = some (.inl (some (0, zmx A 0 0 4)), (m, kd, w)) := by
  obtain ⟨k77, k78, k79, k80, k81, k82, k83, k84, k85, k86, k87, k88, k89, k90⟩ := id hK
  obtain ⟨r1, r2, r3, r4, r6, r7, r8, r12, r13, r15, r23, r25, r26⟩ := id hR
  obtain ⟨g0, g1, gC, gI, gB, gJ, gR, gD, gE⟩ := id hQ
  have loop : ∀ (n : Nat) (k s : Int), 0 ≤ k → k + n = 4 → qa_ev P_X12_greatestTotal 1 [(1, 77), (0, s), (0, k)] [] (m, kd, w) = some (.inl (some (0, zmx A s k n)), (m, kd, w)) := by
    intro n
    induction n with
    | zero =>
      intro k s h1 h2
      rw [ev_X12_greatestTotal_1]
      simp (disch := omega) [ev_X12_greatestTotal_0, ev_X12_greatestTotal_2, ev_X12_greatestTotal_3, ev_X12_greatestTotal_4, B_X12_greatestTotal_0, B_X12_greatestTotal_1, B_X12_greatestTotal_2, B_X12_greatestTotal_3, B_X12_greatestTotal_4, x_const, x_iadd, x_isub, x_imul, x_idiv, x_irem, x_ineg, x_dup, x_dup_x1, x_dup2, x_pop, x_goto, x_ifeq, x_ifne, x_iflt, x_ifge, x_ifgt, x_ifle, x_cmpeq, x_cmpne, x_cmplt, x_cmpge, x_cmpgt, x_cmple, x_null, x_nonnull, x_acmpeq, x_acmpne, x_get, x_put, x_putz, x_ald, x_ast, x_bast, x_zast, x_aast, x_alen, x_obj, x_ret, x_retz, x_vret, x_max, x_min, x_copy, x_i2l, qg_none, qg_inl, qg_inr, qg_ite, xr1, xr0, xrE, xri, xl0, xl1, xl2, xl3, xl4, xl5, xl6, xl7, xl8, xl9, xl10, xs0, xs1, xs2, xs3, xs4, xs5, xs6, xs7, xs8, xs9, xs10, xi0, xi1, xi2, xi3, xi4, xi5, xi6, xi7, xi8, xi9, xi10, xc0, xc1, xc2, xc3, xc4, xc5, xc6, xc7, xv1, xv2, xv3, xv4, xv5, xv6, xv7, dT_le, dF_le, dT_lt, dF_lt, zmx]
    | succ n ih =>
      intro k s h1 h2
      have ih' := fun s => ih (k + 1) s (by omega) (by omega)
      have hi := m_isBranch (w := w) hK hR hQ k
      rw [ev_X12_greatestTotal_1]
      by_cases h : zBl A k
      · rw [if_pos h] at hi
        have u3 := (gB k h1 (by omega) h.2.2).2.2.1
        by_cases hs : s < A.2.1 k 6
        · have ez : zmx A s k (n + 1) = zmx A (A.2.1 k 6) (k + 1) n := by
            simp only [zmx]
            rw [if_pos ⟨h.2.2, hs⟩]
          simp (disch := omega) [ev_X12_greatestTotal_0, ev_X12_greatestTotal_2, ev_X12_greatestTotal_3, ev_X12_greatestTotal_4, B_X12_greatestTotal_0, B_X12_greatestTotal_1, B_X12_greatestTotal_2, B_X12_greatestTotal_3, B_X12_greatestTotal_4, x_const, x_iadd, x_isub, x_imul, x_idiv, x_irem, x_ineg, x_dup, x_dup_x1, x_dup2, x_pop, x_goto, x_ifeq, x_ifne, x_iflt, x_ifge, x_ifgt, x_ifle, x_cmpeq, x_cmpne, x_cmplt, x_cmpge, x_cmpgt, x_cmple, x_null, x_nonnull, x_acmpeq, x_acmpne, x_get, x_put, x_putz, x_ald, x_ast, x_bast, x_zast, x_aast, x_alen, x_obj, x_ret, x_retz, x_vret, x_max, x_min, x_copy, x_i2l, qg_none, qg_inl, qg_inr, qg_ite, xr1, xr0, xrE, xri, xl0, xl1, xl2, xl3, xl4, xl5, xl6, xl7, xl8, xl9, xl10, xs0, xs1, xs2, xs3, xs4, xs5, xs6, xs7, xs8, xs9, xs10, xi0, xi1, xi2, xi3, xi4, xi5, xi6, xi7, xi8, xi9, xi10, xc0, xc1, xc2, xc3, xc4, xc5, xc6, xc7, xv1, xv2, xv3, xv4, xv5, xv6, xv7, dT_le, dF_le, dT_lt, dF_lt, k77, m_ofBranch hK hR, u3, hi, hs, ez, ih']
        · have ez : zmx A s k (n + 1) = zmx A s (k + 1) n := by
            simp only [zmx]
            rw [if_neg (fun z => hs z.2)]
          simp (disch := omega) [ev_X12_greatestTotal_0, ev_X12_greatestTotal_2, ev_X12_greatestTotal_3, ev_X12_greatestTotal_4, B_X12_greatestTotal_0, B_X12_greatestTotal_1, B_X12_greatestTotal_2, B_X12_greatestTotal_3, B_X12_greatestTotal_4, x_const, x_iadd, x_isub, x_imul, x_idiv, x_irem, x_ineg, x_dup, x_dup_x1, x_dup2, x_pop, x_goto, x_ifeq, x_ifne, x_iflt, x_ifge, x_ifgt, x_ifle, x_cmpeq, x_cmpne, x_cmplt, x_cmpge, x_cmpgt, x_cmple, x_null, x_nonnull, x_acmpeq, x_acmpne, x_get, x_put, x_putz, x_ald, x_ast, x_bast, x_zast, x_aast, x_alen, x_obj, x_ret, x_retz, x_vret, x_max, x_min, x_copy, x_i2l, qg_none, qg_inl, qg_inr, qg_ite, xr1, xr0, xrE, xri, xl0, xl1, xl2, xl3, xl4, xl5, xl6, xl7, xl8, xl9, xl10, xs0, xs1, xs2, xs3, xs4, xs5, xs6, xs7, xs8, xs9, xs10, xi0, xi1, xi2, xi3, xi4, xi5, xi6, xi7, xi8, xi9, xi10, xc0, xc1, xc2, xc3, xc4, xc5, xc6, xc7, xv1, xv2, xv3, xv4, xv5, xv6, xv7, dT_le, dF_le, dT_lt, dF_lt, k77, m_ofBranch hK hR, u3, hi, hs, ez, ih']
      · rw [if_neg h] at hi
        have ez : zmx A s k (n + 1) = zmx A s (k + 1) n := by
          simp only [zmx]
          rw [if_neg (fun z => h ⟨h1, by omega, z.1⟩)]
        simp (disch := omega) [ev_X12_greatestTotal_0, ev_X12_greatestTotal_2, ev_X12_greatestTotal_3, ev_X12_greatestTotal_4, B_X12_greatestTotal_0, B_X12_greatestTotal_1, B_X12_greatestTotal_2, B_X12_greatestTotal_3, B_X12_greatestTotal_4, x_const, x_iadd, x_isub, x_imul, x_idiv, x_irem, x_ineg, x_dup, x_dup_x1, x_dup2, x_pop, x_goto, x_ifeq, x_ifne, x_iflt, x_ifge, x_ifgt, x_ifle, x_cmpeq, x_cmpne, x_cmplt, x_cmpge, x_cmpgt, x_cmple, x_null, x_nonnull, x_acmpeq, x_acmpne, x_get, x_put, x_putz, x_ald, x_ast, x_bast, x_zast, x_aast, x_alen, x_obj, x_ret, x_retz, x_vret, x_max, x_min, x_copy, x_i2l, qg_none, qg_inl, qg_inr, qg_ite, xr1, xr0, xrE, xri, xl0, xl1, xl2, xl3, xl4, xl5, xl6, xl7, xl8, xl9, xl10, xs0, xs1, xs2, xs3, xs4, xs5, xs6, xs7, xs8, xs9, xs10, xi0, xi1, xi2, xi3, xi4, xi5, xi6, xi7, xi8, xi9, xi10, xc0, xc1, xc2, xc3, xc4, xc5, xc6, xc7, xv1, xv2, xv3, xv4, xv5, xv6, xv7, dT_le, dF_le, dT_lt, dF_lt, k77, hi, ez, ih']
  unfold f_X12_greatestTotal
  refine qa_fn_eq ?_ (by simp)
  simp (disch := omega) [ev_X12_greatestTotal_0, ev_X12_greatestTotal_2, ev_X12_greatestTotal_3, ev_X12_greatestTotal_4, B_X12_greatestTotal_0, B_X12_greatestTotal_1, B_X12_greatestTotal_2, B_X12_greatestTotal_3, B_X12_greatestTotal_4, x_const, x_iadd, x_isub, x_imul, x_idiv, x_irem, x_ineg, x_dup, x_dup_x1, x_dup2, x_pop, x_goto, x_ifeq, x_ifne, x_iflt, x_ifge, x_ifgt, x_ifle, x_cmpeq, x_cmpne, x_cmplt, x_cmpge, x_cmpgt, x_cmple, x_null, x_nonnull, x_acmpeq, x_acmpne, x_get, x_put, x_putz, x_ald, x_ast, x_bast, x_zast, x_aast, x_alen, x_obj, x_ret, x_retz, x_vret, x_max, x_min, x_copy, x_i2l, qg_none, qg_inl, qg_inr, qg_ite, xr1, xr0, xrE, xri, xl0, xl1, xl2, xl3, xl4, xl5, xl6, xl7, xl8, xl9, xl10, xs0, xs1, xs2, xs3, xs4, xs5, xs6, xs7, xs8, xs9, xs10, xi0, xi1, xi2, xi3, xi4, xi5, xi6, xi7, xi8, xi9, xi10, xc0, xc1, xc2, xc3, xc4, xc5, xc6, xc7, xv1, xv2, xv3, xv4, xv5, xv6, xv7, dT_le, dF_le, dT_lt, dF_lt, loop 4 0 0]
theorem m_unreadSize {m : Int → Int → Int} {kd : Int → Nat × Int} {w : Nat × Nat × Nat} {A : zA} (hK : KM kd) (hR : RM m) (hQ : QR A (m 79)) {M : Int} (hW : zW M A) {r : Int} (hr : zRl A r) : f_X12_unreadSize [(1, 77), (0, r)] (m, kd, w) = some (.inl (some (0, zsf (fun q => A.2.2.2 (A.2.2.1 r 1) q 2) (A.2.2.1 r 2) (A.2.1 (A.2.2.1 r 1) 5 - A.2.2.1 r 2).toNat)), (m, kd, w)) := by
  obtain ⟨k77, k78, k79, k80, k81, k82, k83, k84, k85, k86, k87, k88, k89, k90⟩ := id hK
  obtain ⟨r1, r2, r3, r4, r6, r7, r8, r12, r13, r15, r23, r25, r26⟩ := id hR
  obtain ⟨g0, g1, gC, gI, gB, gJ, gR, gD, gE⟩ := id hQ
  obtain ⟨s1, s2, s3⟩ := id hr
  obtain ⟨t1, t2, t3, t4, t5, t6, t7, t8, t9, t10, t11, t12, t13, t14, t15, t16, t17, t18, t19⟩ := hW.rn hr
  have e1 := gR r 1 s1 s2 s3 (by decide) (by decide)
  have e2 := gR r 2 s1 s2 s3 (by decide) (by decide)
  have hb : zBl A (A.2.2.1 r 1) := ⟨t1, t2, t3⟩
  have hbn := hW.bn hb
  obtain ⟨u1, u2, u3⟩ := gB _ t1 t2 t3
  generalize hbb : A.2.2.1 r 1 = b at *
  have loop : ∀ (n : Nat) (k s : Int), 0 ≤ k → k + n = A.2.1 b 5 - A.2.1 b 4 → 0 ≤ s → s ≤ 9 * k → qa_ev P_X12_unreadSize 1 [(1, 77), (0, r), (0, b), (0, s), (0, k)] [] (m, kd, w) = some (.inl (some (0, s + zsf (fun q => A.2.2.2 b q 2) (A.2.1 b 4 + k) n)), (m, kd, w)) := by
    intro n
    induction n with
    | zero =>
      intro k s h1 h2 h3 h4
      rw [ev_X12_unreadSize_1]
      simp (disch := omega) [ev_X12_unreadSize_0, ev_X12_unreadSize_2, B_X12_unreadSize_0, B_X12_unreadSize_1, B_X12_unreadSize_2, x_const, x_iadd, x_isub, x_imul, x_idiv, x_irem, x_ineg, x_dup, x_dup_x1, x_dup2, x_pop, x_goto, x_ifeq, x_ifne, x_iflt, x_ifge, x_ifgt, x_ifle, x_cmpeq, x_cmpne, x_cmplt, x_cmpge, x_cmpgt, x_cmple, x_null, x_nonnull, x_acmpeq, x_acmpne, x_get, x_put, x_putz, x_ald, x_ast, x_bast, x_zast, x_aast, x_alen, x_obj, x_ret, x_retz, x_vret, x_max, x_min, x_copy, x_i2l, qg_none, qg_inl, qg_inr, qg_ite, xr1, xr0, xrE, xri, xl0, xl1, xl2, xl3, xl4, xl5, xl6, xl7, xl8, xl9, xl10, xs0, xs1, xs2, xs3, xs4, xs5, xs6, xs7, xs8, xs9, xs10, xi0, xi1, xi2, xi3, xi4, xi5, xi6, xi7, xi8, xi9, xi10, xc0, xc1, xc2, xc3, xc4, xc5, xc6, xc7, xv1, xv2, xv3, xv4, xv5, xv6, xv7, dT_le, dF_le, dT_lt, dF_lt, k77, m_ofBranch hK hR, u2, zsf]
    | succ n ih =>
      intro k s h1 h2 h3 h4
      have ih' := ih (k + 1)
      have he := hW.2.2.2.2.2.2.1 b (A.2.1 b 4 + k) t1 t2 t3 (by omega) (by omega)
      have hz := m_sizeOf (w := w) hK hR hQ (k := k) hb (by omega) h1 (by omega) he
      obtain ⟨q1, q2, q3, q4, q5, q6, q7⟩ := id he
      rw [ev_X12_unreadSize_1]
      simp (disch := omega) [ev_X12_unreadSize_0, ev_X12_unreadSize_2, B_X12_unreadSize_0, B_X12_unreadSize_1, B_X12_unreadSize_2, x_const, x_iadd, x_isub, x_imul, x_idiv, x_irem, x_ineg, x_dup, x_dup_x1, x_dup2, x_pop, x_goto, x_ifeq, x_ifne, x_iflt, x_ifge, x_ifgt, x_ifle, x_cmpeq, x_cmpne, x_cmplt, x_cmpge, x_cmpgt, x_cmple, x_null, x_nonnull, x_acmpeq, x_acmpne, x_get, x_put, x_putz, x_ald, x_ast, x_bast, x_zast, x_aast, x_alen, x_obj, x_ret, x_retz, x_vret, x_max, x_min, x_copy, x_i2l, qg_none, qg_inl, qg_inr, qg_ite, xr1, xr0, xrE, xri, xl0, xl1, xl2, xl3, xl4, xl5, xl6, xl7, xl8, xl9, xl10, xs0, xs1, xs2, xs3, xs4, xs5, xs6, xs7, xs8, xs9, xs10, xi0, xi1, xi2, xi3, xi4, xi5, xi6, xi7, xi8, xi9, xi10, xc0, xc1, xc2, xc3, xc4, xc5, xc6, xc7, xv1, xv2, xv3, xv4, xv5, xv6, xv7, dT_le, dF_le, dT_lt, dF_lt, k77, m_ofBranch hK hR, u2, zsf, hz, ih']
      rw [show A.2.1 b 4 + (k + 1) = A.2.1 b 4 + k + 1 by omega]
      omega
  have lp := loop (A.2.1 b 5 - A.2.2.1 r 2).toNat (A.2.2.1 r 2 - A.2.1 b 4) 0 (by omega) (by omega) (by decide) (by omega)
  rw [show A.2.1 b 4 + (A.2.2.1 r 2 - A.2.1 b 4) = A.2.2.1 r 2 by omega] at lp
  unfold f_X12_unreadSize
  refine qa_fn_eq ?_ (by simp)
  simp (disch := omega) [ev_X12_unreadSize_0, ev_X12_unreadSize_2, B_X12_unreadSize_0, B_X12_unreadSize_1, B_X12_unreadSize_2, x_const, x_iadd, x_isub, x_imul, x_idiv, x_irem, x_ineg, x_dup, x_dup_x1, x_dup2, x_pop, x_goto, x_ifeq, x_ifne, x_iflt, x_ifge, x_ifgt, x_ifle, x_cmpeq, x_cmpne, x_cmplt, x_cmpge, x_cmpgt, x_cmple, x_null, x_nonnull, x_acmpeq, x_acmpne, x_get, x_put, x_putz, x_ald, x_ast, x_bast, x_zast, x_aast, x_alen, x_obj, x_ret, x_retz, x_vret, x_max, x_min, x_copy, x_i2l, qg_none, qg_inl, qg_inr, qg_ite, xr1, xr0, xrE, xri, xl0, xl1, xl2, xl3, xl4, xl5, xl6, xl7, xl8, xl9, xl10, xs0, xs1, xs2, xs3, xs4, xs5, xs6, xs7, xs8, xs9, xs10, xi0, xi1, xi2, xi3, xi4, xi5, xi6, xi7, xi8, xi9, xi10, xc0, xc1, xc2, xc3, xc4, xc5, xc6, xc7, xv1, xv2, xv3, xv4, xv5, xv6, xv7, dT_le, dF_le, dT_lt, dF_lt, k77, m_ofReader hK hR, m_ofBranch hK hR, e1, e2, u1, lp]
