def KM (kd : Int → Nat × Int) : Prop := kd 77 = (15, 0) ∧ kd 78 = (101, 7) ∧ kd 79 = (101, 14622) ∧ kd 80 = (101, 14622) ∧ kd 81 = (101, 116976) ∧ kd 82 = (101, 29244) ∧ kd 83 = (103, 2) ∧ kd 84 = (101, 11) ∧ kd 85 = (101, 6) ∧ kd 86 = (101, 792) ∧ kd 87 = (102, 700) ∧ kd 88 = (102, 62) ∧ kd 89 = (101, 305) ∧ kd 90 = (102, 200)
def RM (m : Int → Int → Int) : Prop := m 77 1 = 78 ∧ m 77 2 = 79 ∧ m 77 3 = 80 ∧ m 77 4 = 81 ∧ m 77 6 = 82 ∧ m 77 7 = 83 ∧ m 77 8 = 84 ∧ m 77 12 = 85 ∧ m 77 13 = 86 ∧ m 77 15 = 87 ∧ m 77 23 = 88 ∧ m 77 25 = 89 ∧ m 77 26 = 90
def QR (A : zA) (ρ : Int → Int) : Prop := ρ 0 = A.1 0 ∧ ρ 1 = A.1 1 ∧ (∀ i, 0 ≤ i → i < 4 → ρ (2 + i) = A.1 (2 + i)) ∧ (∀ b, 0 ≤ b → b < 4 → ρ (6 + 7 * b) = A.2.1 b 1) ∧
  (∀ b, 0 ≤ b → b < 4 → A.2.1 b 1 = 1 → ρ (6 + 7 * b + 1) = A.2.1 b 4 ∧ ρ (6 + 7 * b + 2) = A.2.1 b 5 - A.2.1 b 4 ∧ ρ (6 + 7 * b + 3) = A.2.1 b 6 ∧ ρ (6 + 7 * b + 4) = A.2.1 b 2 ∧ ρ (6 + 7 * b + 5) = A.2.1 b 3 ∧ ρ (6 + 7 * b + 6) = A.2.1 b 7) ∧
  (∀ r, 0 ≤ r → r < 6 → ρ (34 + 26 * r) = A.2.2.1 r 0) ∧ (∀ r j, 0 ≤ r → r < 6 → A.2.2.1 r 0 = 1 → 1 ≤ j → j ≤ 11 → ρ (34 + 26 * r + j) = A.2.2.1 r j) ∧ (∀ r j, 0 ≤ r → r < 6 → A.2.2.1 r 0 = 1 → A.2.2.1 r 9 ≠ 0 → 12 ≤ j → j < 26 → ρ (34 + 26 * r + j) = A.2.2.1 r j) ∧
  ∀ b k, 0 ≤ b → b < 4 → A.2.1 b 1 = 1 → 0 ≤ k → k < A.2.1 b 5 - A.2.1 b 4 → ρ (190 + (1804 * b + k)) = A.2.2.2 b (A.2.1 b 4 + k) 0 ∧ ρ (7406 + (1804 * b + k)) = (A.2.2.2 b (A.2.1 b 4 + k) 1 * 10 + A.2.2.2 b (A.2.1 b 4 + k) 2) * 200 + A.2.2.2 b (A.2.1 b 4 + k) 3 + 99
theorem m_in {m : Int → Int → Int} {kd : Int → Nat × Int} {w : Nat × Nat × Nat} (v l h : Int) : f_X12_in [(0, v), (0, l), (0, h)] (m, kd, w) = some (.inl (some (0, if l ≤ v ∧ v ≤ h then 1 else 0)), (m, kd, w)) := by
  unfold f_X12_in
  refine qa_fn_eq ?_ (by simp)
  simp [ev_X12_in_0, ev_X12_in_1, ev_X12_in_2, B_X12_in_0, B_X12_in_1, B_X12_in_2, x_const, x_iadd, x_isub, x_imul, x_idiv, x_irem, x_ineg, x_dup, x_dup_x1, x_dup2, x_pop, x_goto, x_ifeq, x_ifne, x_iflt, x_ifge, x_ifgt, x_ifle, x_cmpeq, x_cmpne, x_cmplt, x_cmpge, x_cmpgt, x_cmple, x_null, x_nonnull, x_acmpeq, x_acmpne, x_get, x_put, x_putz, x_ald, x_ast, x_bast, x_zast, x_aast, x_alen, x_obj, x_ret, x_retz, x_vret, x_max, x_min, x_copy, x_i2l, qg_none, qg_inl, qg_inr, qg_ite, xr1, xr0, xrE, xri, xl0, xl1, xl2, xl3, xl4, xl5, xl6, xl7, xl8, xl9, xl10, xs0, xs1, xs2, xs3, xs4, xs5, xs6, xs7, xs8, xs9, xs10, xi0, xi1, xi2, xi3, xi4, xi5, xi6, xi7, xi8, xi9, xi10, xc0, xc1, xc2, xc3, xc4, xc5, xc6, xc7, xv1, xv2, xv3, xv4, xv5, xv6, xv7]
  grind
theorem m_branchAt {m : Int → Int → Int} {kd : Int → Nat × Int} {w : Nat × Nat × Nat} {b : Int} (h1 : 0 ≤ b) (h2 : b < 4) : f_X12_branchAt [(0, b)] (m, kd, w) = some (.inl (some (0, 6 + 7 * b)), (m, kd, w)) := by
  unfold f_X12_branchAt
  refine qa_fn_eq ?_ (by simp)
  simp (disch := omega) [ev_X12_branchAt_0, B_X12_branchAt_0, x_const, x_iadd, x_isub, x_imul, x_idiv, x_irem, x_ineg, x_dup, x_dup_x1, x_dup2, x_pop, x_goto, x_ifeq, x_ifne, x_iflt, x_ifge, x_ifgt, x_ifle, x_cmpeq, x_cmpne, x_cmplt, x_cmpge, x_cmpgt, x_cmple, x_null, x_nonnull, x_acmpeq, x_acmpne, x_get, x_put, x_putz, x_ald, x_ast, x_bast, x_zast, x_aast, x_alen, x_obj, x_ret, x_retz, x_vret, x_max, x_min, x_copy, x_i2l, qg_none, qg_inl, qg_inr, qg_ite, xr1, xr0, xrE, xri, xl0, xl1, xl2, xl3, xl4, xl5, xl6, xl7, xl8, xl9, xl10, xs0, xs1, xs2, xs3, xs4, xs5, xs6, xs7, xs8, xs9, xs10, xi0, xi1, xi2, xi3, xi4, xi5, xi6, xi7, xi8, xi9, xi10, xc0, xc1, xc2, xc3, xc4, xc5, xc6, xc7, xv1, xv2, xv3, xv4, xv5, xv6, xv7, dT_le, dF_le, dT_lt, dF_lt]
theorem m_readerAt {m : Int → Int → Int} {kd : Int → Nat × Int} {w : Nat × Nat × Nat} {r : Int} (h1 : 0 ≤ r) (h2 : r < 6) : f_X12_readerAt [(0, r)] (m, kd, w) = some (.inl (some (0, 34 + 26 * r)), (m, kd, w)) := by
  unfold f_X12_readerAt
  refine qa_fn_eq ?_ (by simp)
  simp (disch := omega) [ev_X12_readerAt_0, B_X12_readerAt_0, x_const, x_iadd, x_isub, x_imul, x_idiv, x_irem, x_ineg, x_dup, x_dup_x1, x_dup2, x_pop, x_goto, x_ifeq, x_ifne, x_iflt, x_ifge, x_ifgt, x_ifle, x_cmpeq, x_cmpne, x_cmplt, x_cmpge, x_cmpgt, x_cmple, x_null, x_nonnull, x_acmpeq, x_acmpne, x_get, x_put, x_putz, x_ald, x_ast, x_bast, x_zast, x_aast, x_alen, x_obj, x_ret, x_retz, x_vret, x_max, x_min, x_copy, x_i2l, qg_none, qg_inl, qg_inr, qg_ite, xr1, xr0, xrE, xri, xl0, xl1, xl2, xl3, xl4, xl5, xl6, xl7, xl8, xl9, xl10, xs0, xs1, xs2, xs3, xs4, xs5, xs6, xs7, xs8, xs9, xs10, xi0, xi1, xi2, xi3, xi4, xi5, xi6, xi7, xi8, xi9, xi10, xc0, xc1, xc2, xc3, xc4, xc5, xc6, xc7, xv1, xv2, xv3, xv4, xv5, xv6, xv7, dT_le, dF_le, dT_lt, dF_lt]
theorem m_entryAt {m : Int → Int → Int} {kd : Int → Nat × Int} {w : Nat × Nat × Nat} {b k : Int} (h1 : 0 ≤ b) (h2 : b < 4) (h3 : 0 ≤ k) (h4 : k < 1804) : f_X12_entryAt [(0, b), (0, k)] (m, kd, w) = some (.inl (some (0, 1804 * b + k)), (m, kd, w)) := by
  unfold f_X12_entryAt
  refine qa_fn_eq ?_ (by simp)
  simp (disch := omega) [ev_X12_entryAt_0, B_X12_entryAt_0, x_const, x_iadd, x_isub, x_imul, x_idiv, x_irem, x_ineg, x_dup, x_dup_x1, x_dup2, x_pop, x_goto, x_ifeq, x_ifne, x_iflt, x_ifge, x_ifgt, x_ifle, x_cmpeq, x_cmpne, x_cmplt, x_cmpge, x_cmpgt, x_cmple, x_null, x_nonnull, x_acmpeq, x_acmpne, x_get, x_put, x_putz, x_ald, x_ast, x_bast, x_zast, x_aast, x_alen, x_obj, x_ret, x_retz, x_vret, x_max, x_min, x_copy, x_i2l, qg_none, qg_inl, qg_inr, qg_ite, xr1, xr0, xrE, xri, xl0, xl1, xl2, xl3, xl4, xl5, xl6, xl7, xl8, xl9, xl10, xs0, xs1, xs2, xs3, xs4, xs5, xs6, xs7, xs8, xs9, xs10, xi0, xi1, xi2, xi3, xi4, xi5, xi6, xi7, xi8, xi9, xi10, xc0, xc1, xc2, xc3, xc4, xc5, xc6, xc7, xv1, xv2, xv3, xv4, xv5, xv6, xv7, dT_le, dF_le, dT_lt, dF_lt]
theorem m_ofBranch {m : Int → Int → Int} {kd : Int → Nat × Int} {w : Nat × Nat × Nat} (hK : KM kd) (hR : RM m) {b f : Int} (h1 : 0 ≤ b) (h2 : b < 4) (h3 : 0 ≤ f) (h4 : f < 7) : f_X12_ofBranch [(1, 77), (0, b), (0, f)] (m, kd, w) = some (.inl (some (0, m 79 (6 + 7 * b + f))), (m, kd, w)) := by
  obtain ⟨k77, k78, k79, k80, k81, k82, k83, k84, k85, k86, k87, k88, k89, k90⟩ := id hK
  obtain ⟨r1, r2, r3, r4, r6, r7, r8, r12, r13, r15, r23, r25, r26⟩ := id hR
  unfold f_X12_ofBranch
  refine qa_fn_eq ?_ (by simp)
  simp (disch := omega) [ev_X12_ofBranch_0, B_X12_ofBranch_0, x_const, x_iadd, x_isub, x_imul, x_idiv, x_irem, x_ineg, x_dup, x_dup_x1, x_dup2, x_pop, x_goto, x_ifeq, x_ifne, x_iflt, x_ifge, x_ifgt, x_ifle, x_cmpeq, x_cmpne, x_cmplt, x_cmpge, x_cmpgt, x_cmple, x_null, x_nonnull, x_acmpeq, x_acmpne, x_get, x_put, x_putz, x_ald, x_ast, x_bast, x_zast, x_aast, x_alen, x_obj, x_ret, x_retz, x_vret, x_max, x_min, x_copy, x_i2l, qg_none, qg_inl, qg_inr, qg_ite, xr1, xr0, xrE, xri, xl0, xl1, xl2, xl3, xl4, xl5, xl6, xl7, xl8, xl9, xl10, xs0, xs1, xs2, xs3, xs4, xs5, xs6, xs7, xs8, xs9, xs10, xi0, xi1, xi2, xi3, xi4, xi5, xi6, xi7, xi8, xi9, xi10, xc0, xc1, xc2, xc3, xc4, xc5, xc6, xc7, xv1, xv2, xv3, xv4, xv5, xv6, xv7, dT_le, dF_le, dT_lt, dF_lt, k77, k79, r2, m_branchAt]
theorem m_ofReader {m : Int → Int → Int} {kd : Int → Nat × Int} {w : Nat × Nat × Nat} (hK : KM kd) (hR : RM m) {r f : Int} (h1 : 0 ≤ r) (h2 : r < 6) (h3 : 0 ≤ f) (h4 : f < 26) : f_X12_ofReader [(1, 77), (0, r), (0, f)] (m, kd, w) = some (.inl (some (0, m 79 (34 + 26 * r + f))), (m, kd, w)) := by
  obtain ⟨k77, k78, k79, k80, k81, k82, k83, k84, k85, k86, k87, k88, k89, k90⟩ := id hK
  obtain ⟨r1, r2, r3, r4, r6, r7, r8, r12, r13, r15, r23, r25, r26⟩ := id hR
  unfold f_X12_ofReader
  refine qa_fn_eq ?_ (by simp)
  simp (disch := omega) [ev_X12_ofReader_0, B_X12_ofReader_0, x_const, x_iadd, x_isub, x_imul, x_idiv, x_irem, x_ineg, x_dup, x_dup_x1, x_dup2, x_pop, x_goto, x_ifeq, x_ifne, x_iflt, x_ifge, x_ifgt, x_ifle, x_cmpeq, x_cmpne, x_cmplt, x_cmpge, x_cmpgt, x_cmple, x_null, x_nonnull, x_acmpeq, x_acmpne, x_get, x_put, x_putz, x_ald, x_ast, x_bast, x_zast, x_aast, x_alen, x_obj, x_ret, x_retz, x_vret, x_max, x_min, x_copy, x_i2l, qg_none, qg_inl, qg_inr, qg_ite, xr1, xr0, xrE, xri, xl0, xl1, xl2, xl3, xl4, xl5, xl6, xl7, xl8, xl9, xl10, xs0, xs1, xs2, xs3, xs4, xs5, xs6, xs7, xs8, xs9, xs10, xi0, xi1, xi2, xi3, xi4, xi5, xi6, xi7, xi8, xi9, xi10, xc0, xc1, xc2, xc3, xc4, xc5, xc6, xc7, xv1, xv2, xv3, xv4, xv5, xv6, xv7, dT_le, dF_le, dT_lt, dF_lt, k77, k79, r2, m_readerAt]
theorem m_isBranch {m : Int → Int → Int} {kd : Int → Nat × Int} {w : Nat × Nat × Nat} {A : zA} (hK : KM kd) (hR : RM m) (hQ : QR A (m 79)) (b : Int) : f_X12_isBranch [(1, 77), (0, b)] (m, kd, w) = some (.inl (some (0, if zBl A b then 1 else 0)), (m, kd, w)) := by
  obtain ⟨k77, k78, k79, k80, k81, k82, k83, k84, k85, k86, k87, k88, k89, k90⟩ := id hK
  obtain ⟨r1, r2, r3, r4, r6, r7, r8, r12, r13, r15, r23, r25, r26⟩ := id hR
  obtain ⟨g0, g1, gC, gI, gB, gJ, gR, gD, gE⟩ := id hQ
  have e := fun h1 h2 => m_ofBranch (w := w) hK hR (b := b) (f := 0) h1 h2 (by decide) (by decide)
  unfold f_X12_isBranch
  refine qa_fn_eq ?_ (by simp)
  by_cases h : 0 ≤ b ∧ b < 4
  · simp (disch := omega) [ev_X12_isBranch_0, ev_X12_isBranch_1, ev_X12_isBranch_2, B_X12_isBranch_0, B_X12_isBranch_1, B_X12_isBranch_2, x_const, x_iadd, x_isub, x_imul, x_idiv, x_irem, x_ineg, x_dup, x_dup_x1, x_dup2, x_pop, x_goto, x_ifeq, x_ifne, x_iflt, x_ifge, x_ifgt, x_ifle, x_cmpeq, x_cmpne, x_cmplt, x_cmpge, x_cmpgt, x_cmple, x_null, x_nonnull, x_acmpeq, x_acmpne, x_get, x_put, x_putz, x_ald, x_ast, x_bast, x_zast, x_aast, x_alen, x_obj, x_ret, x_retz, x_vret, x_max, x_min, x_copy, x_i2l, qg_none, qg_inl, qg_inr, qg_ite, xr1, xr0, xrE, xri, xl0, xl1, xl2, xl3, xl4, xl5, xl6, xl7, xl8, xl9, xl10, xs0, xs1, xs2, xs3, xs4, xs5, xs6, xs7, xs8, xs9, xs10, xi0, xi1, xi2, xi3, xi4, xi5, xi6, xi7, xi8, xi9, xi10, xc0, xc1, xc2, xc3, xc4, xc5, xc6, xc7, xv1, xv2, xv3, xv4, xv5, xv6, xv7, dT_le, dF_le, dT_lt, dF_lt, k77, m_in, e h.1 h.2, gI]
    grind
  · simp (disch := omega) [ev_X12_isBranch_0, ev_X12_isBranch_1, ev_X12_isBranch_2, B_X12_isBranch_0, B_X12_isBranch_1, B_X12_isBranch_2, x_const, x_iadd, x_isub, x_imul, x_idiv, x_irem, x_ineg, x_dup, x_dup_x1, x_dup2, x_pop, x_goto, x_ifeq, x_ifne, x_iflt, x_ifge, x_ifgt, x_ifle, x_cmpeq, x_cmpne, x_cmplt, x_cmpge, x_cmpgt, x_cmple, x_null, x_nonnull, x_acmpeq, x_acmpne, x_get, x_put, x_putz, x_ald, x_ast, x_bast, x_zast, x_aast, x_alen, x_obj, x_ret, x_retz, x_vret, x_max, x_min, x_copy, x_i2l, qg_none, qg_inl, qg_inr, qg_ite, xr1, xr0, xrE, xri, xl0, xl1, xl2, xl3, xl4, xl5, xl6, xl7, xl8, xl9, xl10, xs0, xs1, xs2, xs3, xs4, xs5, xs6, xs7, xs8, xs9, xs10, xi0, xi1, xi2, xi3, xi4, xi5, xi6, xi7, xi8, xi9, xi10, xc0, xc1, xc2, xc3, xc4, xc5, xc6, xc7, xv1, xv2, xv3, xv4, xv5, xv6, xv7, k77, m_in]
    grind
theorem m_isReader {m : Int → Int → Int} {kd : Int → Nat × Int} {w : Nat × Nat × Nat} {A : zA} (hK : KM kd) (hR : RM m) (hQ : QR A (m 79)) (r : Int) : f_X12_isReader [(1, 77), (0, r)] (m, kd, w) = some (.inl (some (0, if zRl A r then 1 else 0)), (m, kd, w)) := by
  obtain ⟨k77, k78, k79, k80, k81, k82, k83, k84, k85, k86, k87, k88, k89, k90⟩ := id hK
  obtain ⟨r1, r2, r3, r4, r6, r7, r8, r12, r13, r15, r23, r25, r26⟩ := id hR
  obtain ⟨g0, g1, gC, gI, gB, gJ, gR, gD, gE⟩ := id hQ
  have e := fun h1 h2 => m_ofReader (w := w) hK hR (r := r) (f := 0) h1 h2 (by decide) (by decide)
  unfold f_X12_isReader
  refine qa_fn_eq ?_ (by simp)
  by_cases h : 0 ≤ r ∧ r < 6
  · simp (disch := omega) [ev_X12_isReader_0, ev_X12_isReader_1, ev_X12_isReader_2, B_X12_isReader_0, B_X12_isReader_1, B_X12_isReader_2, x_const, x_iadd, x_isub, x_imul, x_idiv, x_irem, x_ineg, x_dup, x_dup_x1, x_dup2, x_pop, x_goto, x_ifeq, x_ifne, x_iflt, x_ifge, x_ifgt, x_ifle, x_cmpeq, x_cmpne, x_cmplt, x_cmpge, x_cmpgt, x_cmple, x_null, x_nonnull, x_acmpeq, x_acmpne, x_get, x_put, x_putz, x_ald, x_ast, x_bast, x_zast, x_aast, x_alen, x_obj, x_ret, x_retz, x_vret, x_max, x_min, x_copy, x_i2l, qg_none, qg_inl, qg_inr, qg_ite, xr1, xr0, xrE, xri, xl0, xl1, xl2, xl3, xl4, xl5, xl6, xl7, xl8, xl9, xl10, xs0, xs1, xs2, xs3, xs4, xs5, xs6, xs7, xs8, xs9, xs10, xi0, xi1, xi2, xi3, xi4, xi5, xi6, xi7, xi8, xi9, xi10, xc0, xc1, xc2, xc3, xc4, xc5, xc6, xc7, xv1, xv2, xv3, xv4, xv5, xv6, xv7, dT_le, dF_le, dT_lt, dF_lt, k77, m_in, e h.1 h.2, gJ]
    grind
  · simp (disch := omega) [ev_X12_isReader_0, ev_X12_isReader_1, ev_X12_isReader_2, B_X12_isReader_0, B_X12_isReader_1, B_X12_isReader_2, x_const, x_iadd, x_isub, x_imul, x_idiv, x_irem, x_ineg, x_dup, x_dup_x1, x_dup2, x_pop, x_goto, x_ifeq, x_ifne, x_iflt, x_ifge, x_ifgt, x_ifle, x_cmpeq, x_cmpne, x_cmplt, x_cmpge, x_cmpgt, x_cmple, x_null, x_nonnull, x_acmpeq, x_acmpne, x_get, x_put, x_putz, x_ald, x_ast, x_bast, x_zast, x_aast, x_alen, x_obj, x_ret, x_retz, x_vret, x_max, x_min, x_copy, x_i2l, qg_none, qg_inl, qg_inr, qg_ite, xr1, xr0, xrE, xri, xl0, xl1, xl2, xl3, xl4, xl5, xl6, xl7, xl8, xl9, xl10, xs0, xs1, xs2, xs3, xs4, xs5, xs6, xs7, xs8, xs9, xs10, xi0, xi1, xi2, xi3, xi4, xi5, xi6, xi7, xi8, xi9, xi10, xc0, xc1, xc2, xc3, xc4, xc5, xc6, xc7, xv1, xv2, xv3, xv4, xv5, xv6, xv7, k77, m_in]
    grind
theorem m_endOf {m : Int → Int → Int} {kd : Int → Nat × Int} {w : Nat × Nat × Nat} {A : zA} (hK : KM kd) (hR : RM m) (hQ : QR A (m 79)) {b : Int} (hb : zBl A b) (hn : 0 ≤ A.2.1 b 4 ∧ A.2.1 b 4 ≤ A.2.1 b 5 ∧ A.2.1 b 5 ≤ 512) : f_X12_endOf [(1, 77), (0, b)] (m, kd, w) = some (.inl (some (0, A.2.1 b 5)), (m, kd, w)) := by
  obtain ⟨k77, k78, k79, k80, k81, k82, k83, k84, k85, k86, k87, k88, k89, k90⟩ := id hK
  obtain ⟨r1, r2, r3, r4, r6, r7, r8, r12, r13, r15, r23, r25, r26⟩ := id hR
  obtain ⟨g0, g1, gC, gI, gB, gJ, gR, gD, gE⟩ := id hQ
  obtain ⟨b1, b2, b3⟩ := id hb
  obtain ⟨u1, u2, u3⟩ := gB b b1 b2 b3
  unfold f_X12_endOf
  refine qa_fn_eq ?_ (by simp)
  simp (disch := omega) [ev_X12_endOf_0, B_X12_endOf_0, x_const, x_iadd, x_isub, x_imul, x_idiv, x_irem, x_ineg, x_dup, x_dup_x1, x_dup2, x_pop, x_goto, x_ifeq, x_ifne, x_iflt, x_ifge, x_ifgt, x_ifle, x_cmpeq, x_cmpne, x_cmplt, x_cmpge, x_cmpgt, x_cmple, x_null, x_nonnull, x_acmpeq, x_acmpne, x_get, x_put, x_putz, x_ald, x_ast, x_bast, x_zast, x_aast, x_alen, x_obj, x_ret, x_retz, x_vret, x_max, x_min, x_copy, x_i2l, qg_none, qg_inl, qg_inr, qg_ite, xr1, xr0, xrE, xri, xl0, xl1, xl2, xl3, xl4, xl5, xl6, xl7, xl8, xl9, xl10, xs0, xs1, xs2, xs3, xs4, xs5, xs6, xs7, xs8, xs9, xs10, xi0, xi1, xi2, xi3, xi4, xi5, xi6, xi7, xi8, xi9, xi10, xc0, xc1, xc2, xc3, xc4, xc5, xc6, xc7, xv1, xv2, xv3, xv4, xv5, xv6, xv7, dT_le, dF_le, dT_lt, dF_lt, k77, m_ofBranch hK hR, u1, u2]
  omega
theorem m_isIn {m : Int → Int → Int} {kd : Int → Nat × Int} {w : Nat × Nat × Nat} {A : zA} (hK : KM kd) (hR : RM m) (hQ : QR A (m 79)) (r b : Int) : f_X12_isIn [(1, 77), (0, r), (0, b)] (m, kd, w) = some (.inl (some (0, if zIn A r b then 1 else 0)), (m, kd, w)) := by
  obtain ⟨k77, k78, k79, k80, k81, k82, k83, k84, k85, k86, k87, k88, k89, k90⟩ := id hK
  obtain ⟨r1, r2, r3, r4, r6, r7, r8, r12, r13, r15, r23, r25, r26⟩ := id hR
  obtain ⟨g0, g1, gC, gI, gB, gJ, gR, gD, gE⟩ := id hQ
  have e1 := m_isReader (w := w) hK hR hQ r
  unfold f_X12_isIn
  refine qa_fn_eq ?_ (by simp)
  by_cases h : zRl A r
  · obtain ⟨h1, h2, h3⟩ := id h
    have e2 := m_ofReader (w := w) hK hR (r := r) (f := 1) h1 h2 (by decide) (by decide)
    have e3 := gR r 1 h1 h2 h3 (by decide) (by decide)
    rw [if_pos h] at e1
    simp (disch := omega) [ev_X12_isIn_0, ev_X12_isIn_1, ev_X12_isIn_2, B_X12_isIn_0, B_X12_isIn_1, B_X12_isIn_2, x_const, x_iadd, x_isub, x_imul, x_idiv, x_irem, x_ineg, x_dup, x_dup_x1, x_dup2, x_pop, x_goto, x_ifeq, x_ifne, x_iflt, x_ifge, x_ifgt, x_ifle, x_cmpeq, x_cmpne, x_cmplt, x_cmpge, x_cmpgt, x_cmple, x_null, x_nonnull, x_acmpeq, x_acmpne, x_get, x_put, x_putz, x_ald, x_ast, x_bast, x_zast, x_aast, x_alen, x_obj, x_ret, x_retz, x_vret, x_max, x_min, x_copy, x_i2l, qg_none, qg_inl, qg_inr, qg_ite, xr1, xr0, xrE, xri, xl0, xl1, xl2, xl3, xl4, xl5, xl6, xl7, xl8, xl9, xl10, xs0, xs1, xs2, xs3, xs4, xs5, xs6, xs7, xs8, xs9, xs10, xi0, xi1, xi2, xi3, xi4, xi5, xi6, xi7, xi8, xi9, xi10, xc0, xc1, xc2, xc3, xc4, xc5, xc6, xc7, xv1, xv2, xv3, xv4, xv5, xv6, xv7, dT_le, dF_le, dT_lt, dF_lt, k77, e1, e2, e3]
    grind
  · rw [if_neg h] at e1
    simp (disch := omega) [ev_X12_isIn_0, ev_X12_isIn_1, ev_X12_isIn_2, B_X12_isIn_0, B_X12_isIn_1, B_X12_isIn_2, x_const, x_iadd, x_isub, x_imul, x_idiv, x_irem, x_ineg, x_dup, x_dup_x1, x_dup2, x_pop, x_goto, x_ifeq, x_ifne, x_iflt, x_ifge, x_ifgt, x_ifle, x_cmpeq, x_cmpne, x_cmplt, x_cmpge, x_cmpgt, x_cmple, x_null, x_nonnull, x_acmpeq, x_acmpne, x_get, x_put, x_putz, x_ald, x_ast, x_bast, x_zast, x_aast, x_alen, x_obj, x_ret, x_retz, x_vret, x_max, x_min, x_copy, x_i2l, qg_none, qg_inl, qg_inr, qg_ite, xr1, xr0, xrE, xri, xl0, xl1, xl2, xl3, xl4, xl5, xl6, xl7, xl8, xl9, xl10, xs0, xs1, xs2, xs3, xs4, xs5, xs6, xs7, xs8, xs9, xs10, xi0, xi1, xi2, xi3, xi4, xi5, xi6, xi7, xi8, xi9, xi10, xc0, xc1, xc2, xc3, xc4, xc5, xc6, xc7, xv1, xv2, xv3, xv4, xv5, xv6, xv7, k77, e1]
    grind
theorem m_timeOf {m : Int → Int → Int} {kd : Int → Nat × Int} {w : Nat × Nat × Nat} {A : zA} (hK : KM kd) (hR : RM m) (hQ : QR A (m 79)) {b k : Int} (hb : zBl A b) (hn : A.2.1 b 5 - A.2.1 b 4 ≤ 512) (h1 : 0 ≤ k) (h2 : k < A.2.1 b 5 - A.2.1 b 4) : f_X12_timeOf [(1, 77), (0, b), (0, k)] (m, kd, w) = some (.inl (some (0, A.2.2.2 b (A.2.1 b 4 + k) 0)), (m, kd, w)) := by
  obtain ⟨k77, k78, k79, k80, k81, k82, k83, k84, k85, k86, k87, k88, k89, k90⟩ := id hK
  obtain ⟨r1, r2, r3, r4, r6, r7, r8, r12, r13, r15, r23, r25, r26⟩ := id hR
  obtain ⟨g0, g1, gC, gI, gB, gJ, gR, gD, gE⟩ := id hQ
  obtain ⟨b1, b2, b3⟩ := id hb
  have u := gE b k b1 b2 b3 h1 h2
  unfold f_X12_timeOf
  refine qa_fn_eq ?_ (by simp)
  simp (disch := omega) [ev_X12_timeOf_0, B_X12_timeOf_0, x_const, x_iadd, x_isub, x_imul, x_idiv, x_irem, x_ineg, x_dup, x_dup_x1, x_dup2, x_pop, x_goto, x_ifeq, x_ifne, x_iflt, x_ifge, x_ifgt, x_ifle, x_cmpeq, x_cmpne, x_cmplt, x_cmpge, x_cmpgt, x_cmple, x_null, x_nonnull, x_acmpeq, x_acmpne, x_get, x_put, x_putz, x_ald, x_ast, x_bast, x_zast, x_aast, x_alen, x_obj, x_ret, x_retz, x_vret, x_max, x_min, x_copy, x_i2l, qg_none, qg_inl, qg_inr, qg_ite, xr1, xr0, xrE, xri, xl0, xl1, xl2, xl3, xl4, xl5, xl6, xl7, xl8, xl9, xl10, xs0, xs1, xs2, xs3, xs4, xs5, xs6, xs7, xs8, xs9, xs10, xi0, xi1, xi2, xi3, xi4, xi5, xi6, xi7, xi8, xi9, xi10, xc0, xc1, xc2, xc3, xc4, xc5, xc6, xc7, xv1, xv2, xv3, xv4, xv5, xv6, xv7, dT_le, dF_le, dT_lt, dF_lt, k77, k79, r2, m_entryAt, u.1]
theorem m_keyOf {m : Int → Int → Int} {kd : Int → Nat × Int} {w : Nat × Nat × Nat} {A : zA} (hK : KM kd) (hR : RM m) (hQ : QR A (m 79)) {b k : Int} (hb : zBl A b) (hn : A.2.1 b 5 - A.2.1 b 4 ≤ 512) (h1 : 0 ≤ k) (h2 : k < A.2.1 b 5 - A.2.1 b 4) (he : zWe A b (A.2.1 b 4 + k)) : f_X12_keyOf [(1, 77), (0, b), (0, k)] (m, kd, w) = some (.inl (some (0, A.2.2.2 b (A.2.1 b 4 + k) 1)), (m, kd, w)) := by
  obtain ⟨k77, k78, k79, k80, k81, k82, k83, k84, k85, k86, k87, k88, k89, k90⟩ := id hK
  obtain ⟨r1, r2, r3, r4, r6, r7, r8, r12, r13, r15, r23, r25, r26⟩ := id hR
  obtain ⟨g0, g1, gC, gI, gB, gJ, gR, gD, gE⟩ := id hQ
  obtain ⟨b1, b2, b3⟩ := id hb
  have u := gE b k b1 b2 b3 h1 h2
  obtain ⟨q1, q2, q3, q4, q5, q6, q7, q8⟩ := id he
  unfold f_X12_keyOf
  refine qa_fn_eq ?_ (by simp)
  simp (disch := omega) [ev_X12_keyOf_0, B_X12_keyOf_0, x_const, x_iadd, x_isub, x_imul, x_idiv, x_irem, x_ineg, x_dup, x_dup_x1, x_dup2, x_pop, x_goto, x_ifeq, x_ifne, x_iflt, x_ifge, x_ifgt, x_ifle, x_cmpeq, x_cmpne, x_cmplt, x_cmpge, x_cmpgt, x_cmple, x_null, x_nonnull, x_acmpeq, x_acmpne, x_get, x_put, x_putz, x_ald, x_ast, x_bast, x_zast, x_aast, x_alen, x_obj, x_ret, x_retz, x_vret, x_max, x_min, x_copy, x_i2l, qg_none, qg_inl, qg_inr, qg_ite, xr1, xr0, xrE, xri, xl0, xl1, xl2, xl3, xl4, xl5, xl6, xl7, xl8, xl9, xl10, xs0, xs1, xs2, xs3, xs4, xs5, xs6, xs7, xs8, xs9, xs10, xi0, xi1, xi2, xi3, xi4, xi5, xi6, xi7, xi8, xi9, xi10, xc0, xc1, xc2, xc3, xc4, xc5, xc6, xc7, xv1, xv2, xv3, xv4, xv5, xv6, xv7, dT_le, dF_le, dT_lt, dF_lt, k77, k79, r2, m_entryAt, u.2]
  omega
theorem m_sizeOf {m : Int → Int → Int} {kd : Int → Nat × Int} {w : Nat × Nat × Nat} {A : zA} (hK : KM kd) (hR : RM m) (hQ : QR A (m 79)) {b k : Int} (hb : zBl A b) (hn : A.2.1 b 5 - A.2.1 b 4 ≤ 512) (h1 : 0 ≤ k) (h2 : k < A.2.1 b 5 - A.2.1 b 4) (he : zWe A b (A.2.1 b 4 + k)) : f_X12_sizeOf [(1, 77), (0, b), (0, k)] (m, kd, w) = some (.inl (some (0, A.2.2.2 b (A.2.1 b 4 + k) 2)), (m, kd, w)) := by
  obtain ⟨k77, k78, k79, k80, k81, k82, k83, k84, k85, k86, k87, k88, k89, k90⟩ := id hK
  obtain ⟨r1, r2, r3, r4, r6, r7, r8, r12, r13, r15, r23, r25, r26⟩ := id hR
  obtain ⟨g0, g1, gC, gI, gB, gJ, gR, gD, gE⟩ := id hQ
  obtain ⟨b1, b2, b3⟩ := id hb
  have u := gE b k b1 b2 b3 h1 h2
  obtain ⟨q1, q2, q3, q4, q5, q6, q7, q8⟩ := id he
  unfold f_X12_sizeOf
  refine qa_fn_eq ?_ (by simp)
  simp (disch := omega) [ev_X12_sizeOf_0, B_X12_sizeOf_0, x_const, x_iadd, x_isub, x_imul, x_idiv, x_irem, x_ineg, x_dup, x_dup_x1, x_dup2, x_pop, x_goto, x_ifeq, x_ifne, x_iflt, x_ifge, x_ifgt, x_ifle, x_cmpeq, x_cmpne, x_cmplt, x_cmpge, x_cmpgt, x_cmple, x_null, x_nonnull, x_acmpeq, x_acmpne, x_get, x_put, x_putz, x_ald, x_ast, x_bast, x_zast, x_aast, x_alen, x_obj, x_ret, x_retz, x_vret, x_max, x_min, x_copy, x_i2l, qg_none, qg_inl, qg_inr, qg_ite, xr1, xr0, xrE, xri, xl0, xl1, xl2, xl3, xl4, xl5, xl6, xl7, xl8, xl9, xl10, xs0, xs1, xs2, xs3, xs4, xs5, xs6, xs7, xs8, xs9, xs10, xi0, xi1, xi2, xi3, xi4, xi5, xi6, xi7, xi8, xi9, xi10, xc0, xc1, xc2, xc3, xc4, xc5, xc6, xc7, xv1, xv2, xv3, xv4, xv5, xv6, xv7, dT_le, dF_le, dT_lt, dF_lt, k77, k79, r2, m_entryAt, u.2]
  omega
theorem m_valueOf {m : Int → Int → Int} {kd : Int → Nat × Int} {w : Nat × Nat × Nat} {A : zA} (hK : KM kd) (hR : RM m) (hQ : QR A (m 79)) {b k : Int} (hb : zBl A b) (hn : A.2.1 b 5 - A.2.1 b 4 ≤ 512) (h1 : 0 ≤ k) (h2 : k < A.2.1 b 5 - A.2.1 b 4) (he : zWe A b (A.2.1 b 4 + k)) : f_X12_valueOf [(1, 77), (0, b), (0, k)] (m, kd, w) = some (.inl (some (0, A.2.2.2 b (A.2.1 b 4 + k) 3)), (m, kd, w)) := by
  obtain ⟨k77, k78, k79, k80, k81, k82, k83, k84, k85, k86, k87, k88, k89, k90⟩ := id hK
  obtain ⟨r1, r2, r3, r4, r6, r7, r8, r12, r13, r15, r23, r25, r26⟩ := id hR
  obtain ⟨g0, g1, gC, gI, gB, gJ, gR, gD, gE⟩ := id hQ
  obtain ⟨b1, b2, b3⟩ := id hb
  have u := gE b k b1 b2 b3 h1 h2
  obtain ⟨q1, q2, q3, q4, q5, q6, q7, q8⟩ := id he
  unfold f_X12_valueOf
  refine qa_fn_eq ?_ (by simp)
  simp (disch := omega) [ev_X12_valueOf_0, B_X12_valueOf_0, x_const, x_iadd, x_isub, x_imul, x_idiv, x_irem, x_ineg, x_dup, x_dup_x1, x_dup2, x_pop, x_goto, x_ifeq, x_ifne, x_iflt, x_ifge, x_ifgt, x_ifle, x_cmpeq, x_cmpne, x_cmplt, x_cmpge, x_cmpgt, x_cmple, x_null, x_nonnull, x_acmpeq, x_acmpne, x_get, x_put, x_putz, x_ald, x_ast, x_bast, x_zast, x_aast, x_alen, x_obj, x_ret, x_retz, x_vret, x_max, x_min, x_copy, x_i2l, qg_none, qg_inl, qg_inr, qg_ite, xr1, xr0, xrE, xri, xl0, xl1, xl2, xl3, xl4, xl5, xl6, xl7, xl8, xl9, xl10, xs0, xs1, xs2, xs3, xs4, xs5, xs6, xs7, xs8, xs9, xs10, xi0, xi1, xi2, xi3, xi4, xi5, xi6, xi7, xi8, xi9, xi10, xc0, xc1, xc2, xc3, xc4, xc5, xc6, xc7, xv1, xv2, xv3, xv4, xv5, xv6, xv7, dT_le, dF_le, dT_lt, dF_lt, k77, k79, r2, m_entryAt, u.2]
  omega
