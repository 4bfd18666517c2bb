/-! the reference's small methods -/
theorem m_in (a : qA) (v l h : Int) : f_X12_in [(0, v), (0, l), (0, h)] a = some (.inl (some (0, if l ≤ v ∧ v ≤ h then 1 else 0)), a) := by
  unfold f_X12_in
  refine qa_fn_eq ?_ (by simp)

  simp [ev_X12_in_0, ev_X12_in_1, ev_X12_in_2, B_X12_in_0, B_X12_in_1, B_X12_in_2, q_const, q_load, q_store, q_iinc, q_iadd, q_isub, q_imul, q_idiv, q_irem, q_ineg, q_dup, q_dup_x1, q_dup2, q_pop, q_goto, q_ifeq, q_ifne, q_iflt, q_ifge, q_ifgt, q_ifle, q_cmpeq, q_cmpne, q_cmplt, q_cmpge, q_cmpgt, q_cmple, q_null, q_nonnull, q_acmpeq, q_acmpne, q_get, q_put, q_putz, q_ald, q_ast, q_zast, q_bast, q_aast, q_alen, q_call, q_callv, q_obj, q_ret, q_retz, q_vret, q_throw, q_switch, qg_none, qg_inl, qg_inr, qg_ite, qa_free]
  grind
theorem m_branchAt (a : qA) (b : Int) (h : 0 ≤ b ∧ b < 4) : f_X12_branchAt [(0, b)] a = some (.inl (some (0, 6 + 7 * b)), a) := by
  unfold f_X12_branchAt
  refine qa_fn_eq ?_ (by simp)

  simp [ev_X12_branchAt_0, B_X12_branchAt_0, q_const, q_load, q_store, q_iinc, q_iadd, q_isub, q_imul, q_idiv, q_irem, q_ineg, q_dup, q_dup_x1, q_dup2, q_pop, q_goto, q_ifeq, q_ifne, q_iflt, q_ifge, q_ifgt, q_ifle, q_cmpeq, q_cmpne, q_cmplt, q_cmpge, q_cmpgt, q_cmple, q_null, q_nonnull, q_acmpeq, q_acmpne, q_get, q_put, q_putz, q_ald, q_ast, q_zast, q_bast, q_aast, q_alen, q_call, q_callv, q_obj, q_ret, q_retz, q_vret, q_throw, q_switch, qg_none, qg_inl, qg_inr, qg_ite, qa_free]
  grind
theorem m_readerAt (a : qA) (r : Int) (h : 0 ≤ r ∧ r < 6) : f_X12_readerAt [(0, r)] a = some (.inl (some (0, 34 + 26 * r)), a) := by
  unfold f_X12_readerAt
  refine qa_fn_eq ?_ (by simp)

  simp [ev_X12_readerAt_0, B_X12_readerAt_0, q_const, q_load, q_store, q_iinc, q_iadd, q_isub, q_imul, q_idiv, q_irem, q_ineg, q_dup, q_dup_x1, q_dup2, q_pop, q_goto, q_ifeq, q_ifne, q_iflt, q_ifge, q_ifgt, q_ifle, q_cmpeq, q_cmpne, q_cmplt, q_cmpge, q_cmpgt, q_cmple, q_null, q_nonnull, q_acmpeq, q_acmpne, q_get, q_put, q_putz, q_ald, q_ast, q_zast, q_bast, q_aast, q_alen, q_call, q_callv, q_obj, q_ret, q_retz, q_vret, q_throw, q_switch, qg_none, qg_inl, qg_inr, qg_ite, qa_free]
  grind
theorem m_entryAt (a : qA) (b k : Int) (h : 0 ≤ b ∧ b < 4) (hk : 0 ≤ k ∧ k < 1804) : f_X12_entryAt [(0, b), (0, k)] a = some (.inl (some (0, 1804 * b + k)), a) := by
  unfold f_X12_entryAt
  refine qa_fn_eq ?_ (by simp)

  simp [ev_X12_entryAt_0, B_X12_entryAt_0, q_const, q_load, q_store, q_iinc, q_iadd, q_isub, q_imul, q_idiv, q_irem, q_ineg, q_dup, q_dup_x1, q_dup2, q_pop, q_goto, q_ifeq, q_ifne, q_iflt, q_ifge, q_ifgt, q_ifle, q_cmpeq, q_cmpne, q_cmplt, q_cmpge, q_cmpgt, q_cmple, q_null, q_nonnull, q_acmpeq, q_acmpne, q_get, q_put, q_putz, q_ald, q_ast, q_zast, q_bast, q_aast, q_alen, q_call, q_callv, q_obj, q_ret, q_retz, q_vret, q_throw, q_switch, qg_none, qg_inl, qg_inr, qg_ite, qa_free]
  grind
theorem m_ofBranch {m : Int → Int → Int} {kd : Int → Nat × Int} {w : Nat × Nat × Nat} (hK : KM kd) (hR : RM m) (b f : Int) (h : 0 ≤ b ∧ b < 4) (hf : 0 ≤ f ∧ f < 7) : f_X12_ofBranch [(1, 77), (0, b), (0, f)] (m, kd, w) = some (.inl (some (0, m 79 (6 + 7 * b + f))), (m, kd, w)) := by
  obtain ⟨k77, k78, k79, k80, k81, k82, k83, k84, k85, k86, k87, k88, k89, k90⟩ := id hK
  obtain ⟨r1, r2, r3, r4, r6, r7, r8, r12, r13, r15, r23, r25, r26⟩ := id hR
  unfold f_X12_ofBranch
  refine qa_fn_eq ?_ (by simp)

  simp [ev_X12_ofBranch_0, B_X12_ofBranch_0, q_const, q_load, q_store, q_iinc, q_iadd, q_isub, q_imul, q_idiv, q_irem, q_ineg, q_dup, q_dup_x1, q_dup2, q_pop, q_goto, q_ifeq, q_ifne, q_iflt, q_ifge, q_ifgt, q_ifle, q_cmpeq, q_cmpne, q_cmplt, q_cmpge, q_cmpgt, q_cmple, q_null, q_nonnull, q_acmpeq, q_acmpne, q_get, q_put, q_putz, q_ald, q_ast, q_zast, q_bast, q_aast, q_alen, q_call, q_callv, q_obj, q_ret, q_retz, q_vret, q_throw, q_switch, qg_none, qg_inl, qg_inr, qg_ite, qa_free, k77, k78, k79, k80, k81, k82, k83, k84, k85, k86, k87, k88, k89, k90, r1, r2, r3, r4, r6, r7, r8, r12, r13, r15, r23, r25, r26, hK, hR, m_branchAt, h]
  grind
theorem m_ofReader {m : Int → Int → Int} {kd : Int → Nat × Int} {w : Nat × Nat × Nat} (hK : KM kd) (hR : RM m) (r f : Int) (h : 0 ≤ r ∧ r < 6) (hf : 0 ≤ f ∧ f < 26) : f_X12_ofReader [(1, 77), (0, r), (0, f)] (m, kd, w) = some (.inl (some (0, m 79 (34 + 26 * r + f))), (m, kd, w)) := by
  obtain ⟨k77, k78, k79, k80, k81, k82, k83, k84, k85, k86, k87, k88, k89, k90⟩ := id hK
  obtain ⟨r1, r2, r3, r4, r6, r7, r8, r12, r13, r15, r23, r25, r26⟩ := id hR
  unfold f_X12_ofReader
  refine qa_fn_eq ?_ (by simp)

  simp [ev_X12_ofReader_0, B_X12_ofReader_0, q_const, q_load, q_store, q_iinc, q_iadd, q_isub, q_imul, q_idiv, q_irem, q_ineg, q_dup, q_dup_x1, q_dup2, q_pop, q_goto, q_ifeq, q_ifne, q_iflt, q_ifge, q_ifgt, q_ifle, q_cmpeq, q_cmpne, q_cmplt, q_cmpge, q_cmpgt, q_cmple, q_null, q_nonnull, q_acmpeq, q_acmpne, q_get, q_put, q_putz, q_ald, q_ast, q_zast, q_bast, q_aast, q_alen, q_call, q_callv, q_obj, q_ret, q_retz, q_vret, q_throw, q_switch, qg_none, qg_inl, qg_inr, qg_ite, qa_free, k77, k78, k79, k80, k81, k82, k83, k84, k85, k86, k87, k88, k89, k90, r1, r2, r3, r4, r6, r7, r8, r12, r13, r15, r23, r25, r26, hK, hR, m_readerAt, h]
  grind
theorem m_isBranch {m : Int → Int → Int} {kd : Int → Nat × Int} {w : Nat × Nat × Nat} (hK : KM kd) (hR : RM m) (b : Int) : f_X12_isBranch [(1, 77), (0, b)] (m, kd, w) = some (.inl (some (0, if zB (m 79) b then 1 else 0)), (m, kd, w)) := by
  obtain ⟨k77, k78, k79, k80, k81, k82, k83, k84, k85, k86, k87, k88, k89, k90⟩ := id hK
  obtain ⟨r1, r2, r3, r4, r6, r7, r8, r12, r13, r15, r23, r25, r26⟩ := id hR
  have e := fun h => m_ofBranch (w := w) hK hR b 0 h (by decide)
  unfold f_X12_isBranch
  refine qa_fn_eq ?_ (by simp)

  by_cases h : 0 ≤ b ∧ b < 4
  · simp [ev_X12_isBranch_0, ev_X12_isBranch_1, ev_X12_isBranch_2, B_X12_isBranch_0, B_X12_isBranch_1, B_X12_isBranch_2, q_const, q_load, q_store, q_iinc, q_iadd, q_isub, q_imul, q_idiv, q_irem, q_ineg, q_dup, q_dup_x1, q_dup2, q_pop, q_goto, q_ifeq, q_ifne, q_iflt, q_ifge, q_ifgt, q_ifle, q_cmpeq, q_cmpne, q_cmplt, q_cmpge, q_cmpgt, q_cmple, q_null, q_nonnull, q_acmpeq, q_acmpne, q_get, q_put, q_putz, q_ald, q_ast, q_zast, q_bast, q_aast, q_alen, q_call, q_callv, q_obj, q_ret, q_retz, q_vret, q_throw, q_switch, qg_none, qg_inl, qg_inr, qg_ite, qa_free, k77, k78, k79, k80, k81, k82, k83, k84, k85, k86, k87, k88, k89, k90, r1, r2, r3, r4, r6, r7, r8, r12, r13, r15, r23, r25, r26, hK, hR, m_in, e h]
    grind
  · simp [ev_X12_isBranch_0, ev_X12_isBranch_1, ev_X12_isBranch_2, B_X12_isBranch_0, B_X12_isBranch_1, B_X12_isBranch_2, q_const, q_load, q_store, q_iinc, q_iadd, q_isub, q_imul, q_idiv, q_irem, q_ineg, q_dup, q_dup_x1, q_dup2, q_pop, q_goto, q_ifeq, q_ifne, q_iflt, q_ifge, q_ifgt, q_ifle, q_cmpeq, q_cmpne, q_cmplt, q_cmpge, q_cmpgt, q_cmple, q_null, q_nonnull, q_acmpeq, q_acmpne, q_get, q_put, q_putz, q_ald, q_ast, q_zast, q_bast, q_aast, q_alen, q_call, q_callv, q_obj, q_ret, q_retz, q_vret, q_throw, q_switch, qg_none, qg_inl, qg_inr, qg_ite, qa_free, k77, k78, k79, k80, k81, k82, k83, k84, k85, k86, k87, k88, k89, k90, r1, r2, r3, r4, r6, r7, r8, r12, r13, r15, r23, r25, r26, hK, hR, m_in]
    grind
theorem m_isReader {m : Int → Int → Int} {kd : Int → Nat × Int} {w : Nat × Nat × Nat} (hK : KM kd) (hR : RM m) (r : Int) : f_X12_isReader [(1, 77), (0, r)] (m, kd, w) = some (.inl (some (0, if zR (m 79) r then 1 else 0)), (m, kd, w)) := by
  obtain ⟨k77, k78, k79, k80, k81, k82, k83, k84, k85, k86, k87, k88, k89, k90⟩ := id hK
  obtain ⟨r1, r2, r3, r4, r6, r7, r8, r12, r13, r15, r23, r25, r26⟩ := id hR
  have e := fun h => m_ofReader (w := w) hK hR r 0 h (by decide)
  unfold f_X12_isReader
  refine qa_fn_eq ?_ (by simp)

  by_cases h : 0 ≤ r ∧ r < 6
  · simp [ev_X12_isReader_0, ev_X12_isReader_1, ev_X12_isReader_2, B_X12_isReader_0, B_X12_isReader_1, B_X12_isReader_2, q_const, q_load, q_store, q_iinc, q_iadd, q_isub, q_imul, q_idiv, q_irem, q_ineg, q_dup, q_dup_x1, q_dup2, q_pop, q_goto, q_ifeq, q_ifne, q_iflt, q_ifge, q_ifgt, q_ifle, q_cmpeq, q_cmpne, q_cmplt, q_cmpge, q_cmpgt, q_cmple, q_null, q_nonnull, q_acmpeq, q_acmpne, q_get, q_put, q_putz, q_ald, q_ast, q_zast, q_bast, q_aast, q_alen, q_call, q_callv, q_obj, q_ret, q_retz, q_vret, q_throw, q_switch, qg_none, qg_inl, qg_inr, qg_ite, qa_free, k77, k78, k79, k80, k81, k82, k83, k84, k85, k86, k87, k88, k89, k90, r1, r2, r3, r4, r6, r7, r8, r12, r13, r15, r23, r25, r26, hK, hR, m_in, e h]
    grind
  · simp [ev_X12_isReader_0, ev_X12_isReader_1, ev_X12_isReader_2, B_X12_isReader_0, B_X12_isReader_1, B_X12_isReader_2, q_const, q_load, q_store, q_iinc, q_iadd, q_isub, q_imul, q_idiv, q_irem, q_ineg, q_dup, q_dup_x1, q_dup2, q_pop, q_goto, q_ifeq, q_ifne, q_iflt, q_ifge, q_ifgt, q_ifle, q_cmpeq, q_cmpne, q_cmplt, q_cmpge, q_cmpgt, q_cmple, q_null, q_nonnull, q_acmpeq, q_acmpne, q_get, q_put, q_putz, q_ald, q_ast, q_zast, q_bast, q_aast, q_alen, q_call, q_callv, q_obj, q_ret, q_retz, q_vret, q_throw, q_switch, qg_none, qg_inl, qg_inr, qg_ite, qa_free, k77, k78, k79, k80, k81, k82, k83, k84, k85, k86, k87, k88, k89, k90, r1, r2, r3, r4, r6, r7, r8, r12, r13, r15, r23, r25, r26, hK, hR, m_in]
    grind
theorem m_endOf {m : Int → Int → Int} {kd : Int → Nat × Int} {w : Nat × Nat × Nat} (hK : KM kd) (hR : RM m) (hB : BD (m 79)) (b : Int) (h : 0 ≤ b ∧ b < 4) : f_X12_endOf [(1, 77), (0, b)] (m, kd, w) = some (.inl (some (0, zend (m 79) b)), (m, kd, w)) := by
  obtain ⟨k77, k78, k79, k80, k81, k82, k83, k84, k85, k86, k87, k88, k89, k90⟩ := id hK
  obtain ⟨r1, r2, r3, r4, r6, r7, r8, r12, r13, r15, r23, r25, r26⟩ := id hR
  unfold f_X12_endOf
  refine qa_fn_eq ?_ (by simp)

  have b1 := hB (6 + 7 * b + 1)
  have b2 := hB (6 + 7 * b + 2)
  simp [ev_X12_endOf_0, B_X12_endOf_0, q_const, q_load, q_store, q_iinc, q_iadd, q_isub, q_imul, q_idiv, q_irem, q_ineg, q_dup, q_dup_x1, q_dup2, q_pop, q_goto, q_ifeq, q_ifne, q_iflt, q_ifge, q_ifgt, q_ifle, q_cmpeq, q_cmpne, q_cmplt, q_cmpge, q_cmpgt, q_cmple, q_null, q_nonnull, q_acmpeq, q_acmpne, q_get, q_put, q_putz, q_ald, q_ast, q_zast, q_bast, q_aast, q_alen, q_call, q_callv, q_obj, q_ret, q_retz, q_vret, q_throw, q_switch, qg_none, qg_inl, qg_inr, qg_ite, qa_free, k77, k78, k79, k80, k81, k82, k83, k84, k85, k86, k87, k88, k89, k90, r1, r2, r3, r4, r6, r7, r8, r12, r13, r15, r23, r25, r26, hK, hR, m_ofBranch, h]
  grind
theorem m_isIn {m : Int → Int → Int} {kd : Int → Nat × Int} {w : Nat × Nat × Nat} (hK : KM kd) (hR : RM m) (r b : Int) : f_X12_isIn [(1, 77), (0, r), (0, b)] (m, kd, w) = some (.inl (some (0, if zin (m 79) r b then 1 else 0)), (m, kd, w)) := by
  obtain ⟨k77, k78, k79, k80, k81, k82, k83, k84, k85, k86, k87, k88, k89, k90⟩ := id hK
  obtain ⟨r1, r2, r3, r4, r6, r7, r8, r12, r13, r15, r23, r25, r26⟩ := id hR
  have e := fun h => m_ofReader (w := w) hK hR r 1 h (by decide)
  unfold f_X12_isIn
  refine qa_fn_eq ?_ (by simp)

  by_cases h : 0 ≤ r ∧ r < 6
  · simp [ev_X12_isIn_0, ev_X12_isIn_1, ev_X12_isIn_2, B_X12_isIn_0, B_X12_isIn_1, B_X12_isIn_2, q_const, q_load, q_store, q_iinc, q_iadd, q_isub, q_imul, q_idiv, q_irem, q_ineg, q_dup, q_dup_x1, q_dup2, q_pop, q_goto, q_ifeq, q_ifne, q_iflt, q_ifge, q_ifgt, q_ifle, q_cmpeq, q_cmpne, q_cmplt, q_cmpge, q_cmpgt, q_cmple, q_null, q_nonnull, q_acmpeq, q_acmpne, q_get, q_put, q_putz, q_ald, q_ast, q_zast, q_bast, q_aast, q_alen, q_call, q_callv, q_obj, q_ret, q_retz, q_vret, q_throw, q_switch, qg_none, qg_inl, qg_inr, qg_ite, qa_free, k77, k78, k79, k80, k81, k82, k83, k84, k85, k86, k87, k88, k89, k90, r1, r2, r3, r4, r6, r7, r8, r12, r13, r15, r23, r25, r26, hK, hR, m_isReader, e h]
    grind
  · simp [ev_X12_isIn_0, ev_X12_isIn_1, ev_X12_isIn_2, B_X12_isIn_0, B_X12_isIn_1, B_X12_isIn_2, q_const, q_load, q_store, q_iinc, q_iadd, q_isub, q_imul, q_idiv, q_irem, q_ineg, q_dup, q_dup_x1, q_dup2, q_pop, q_goto, q_ifeq, q_ifne, q_iflt, q_ifge, q_ifgt, q_ifle, q_cmpeq, q_cmpne, q_cmplt, q_cmpge, q_cmpgt, q_cmple, q_null, q_nonnull, q_acmpeq, q_acmpne, q_get, q_put, q_putz, q_ald, q_ast, q_zast, q_bast, q_aast, q_alen, q_call, q_callv, q_obj, q_ret, q_retz, q_vret, q_throw, q_switch, qg_none, qg_inl, qg_inr, qg_ite, qa_free, k77, k78, k79, k80, k81, k82, k83, k84, k85, k86, k87, k88, k89, k90, r1, r2, r3, r4, r6, r7, r8, r12, r13, r15, r23, r25, r26, hK, hR, m_isReader]
    grind
theorem m_timeOf {m : Int → Int → Int} {kd : Int → Nat × Int} {w : Nat × Nat × Nat} (hK : KM kd) (hR : RM m) (b k : Int) (h : 0 ≤ b ∧ b < 4) (hk : 0 ≤ k ∧ k < 1804) : f_X12_timeOf [(1, 77), (0, b), (0, k)] (m, kd, w) = some (.inl (some (0, m 79 (190 + 1804 * b + k))), (m, kd, w)) := by
  obtain ⟨k77, k78, k79, k80, k81, k82, k83, k84, k85, k86, k87, k88, k89, k90⟩ := id hK
  obtain ⟨r1, r2, r3, r4, r6, r7, r8, r12, r13, r15, r23, r25, r26⟩ := id hR
  unfold f_X12_timeOf
  refine qa_fn_eq ?_ (by simp)

  simp [ev_X12_timeOf_0, B_X12_timeOf_0, q_const, q_load, q_store, q_iinc, q_iadd, q_isub, q_imul, q_idiv, q_irem, q_ineg, q_dup, q_dup_x1, q_dup2, q_pop, q_goto, q_ifeq, q_ifne, q_iflt, q_ifge, q_ifgt, q_ifle, q_cmpeq, q_cmpne, q_cmplt, q_cmpge, q_cmpgt, q_cmple, q_null, q_nonnull, q_acmpeq, q_acmpne, q_get, q_put, q_putz, q_ald, q_ast, q_zast, q_bast, q_aast, q_alen, q_call, q_callv, q_obj, q_ret, q_retz, q_vret, q_throw, q_switch, qg_none, qg_inl, qg_inr, qg_ite, qa_free, k77, k78, k79, k80, k81, k82, k83, k84, k85, k86, k87, k88, k89, k90, r1, r2, r3, r4, r6, r7, r8, r12, r13, r15, r23, r25, r26, hK, hR, m_entryAt, h, hk]
  grind
theorem m_keyOf {m : Int → Int → Int} {kd : Int → Nat × Int} {w : Nat × Nat × Nat} (hK : KM kd) (hR : RM m) (b k : Int) (h : 0 ≤ b ∧ b < 4) (hk : 0 ≤ k ∧ k < 1804) (hp : 0 ≤ m 79 (7406 + 1804 * b + k)) : f_X12_keyOf [(1, 77), (0, b), (0, k)] (m, kd, w) = some (.inl (some (0, zkey (m 79) b k)), (m, kd, w)) := by
  obtain ⟨k77, k78, k79, k80, k81, k82, k83, k84, k85, k86, k87, k88, k89, k90⟩ := id hK
  obtain ⟨r1, r2, r3, r4, r6, r7, r8, r12, r13, r15, r23, r25, r26⟩ := id hR
  unfold f_X12_keyOf
  refine qa_fn_eq ?_ (by simp)

  simp [ev_X12_keyOf_0, B_X12_keyOf_0, q_const, q_load, q_store, q_iinc, q_iadd, q_isub, q_imul, q_idiv, q_irem, q_ineg, q_dup, q_dup_x1, q_dup2, q_pop, q_goto, q_ifeq, q_ifne, q_iflt, q_ifge, q_ifgt, q_ifle, q_cmpeq, q_cmpne, q_cmplt, q_cmpge, q_cmpgt, q_cmple, q_null, q_nonnull, q_acmpeq, q_acmpne, q_get, q_put, q_putz, q_ald, q_ast, q_zast, q_bast, q_aast, q_alen, q_call, q_callv, q_obj, q_ret, q_retz, q_vret, q_throw, q_switch, qg_none, qg_inl, qg_inr, qg_ite, qa_free, k77, k78, k79, k80, k81, k82, k83, k84, k85, k86, k87, k88, k89, k90, r1, r2, r3, r4, r6, r7, r8, r12, r13, r15, r23, r25, r26, hK, hR, m_entryAt, h, hk]
  grind
theorem m_sizeOf {m : Int → Int → Int} {kd : Int → Nat × Int} {w : Nat × Nat × Nat} (hK : KM kd) (hR : RM m) (b k : Int) (h : 0 ≤ b ∧ b < 4) (hk : 0 ≤ k ∧ k < 1804) (hp : 0 ≤ m 79 (7406 + 1804 * b + k)) : f_X12_sizeOf [(1, 77), (0, b), (0, k)] (m, kd, w) = some (.inl (some (0, zsize (m 79) b k)), (m, kd, w)) := by
  obtain ⟨k77, k78, k79, k80, k81, k82, k83, k84, k85, k86, k87, k88, k89, k90⟩ := id hK
  obtain ⟨r1, r2, r3, r4, r6, r7, r8, r12, r13, r15, r23, r25, r26⟩ := id hR
  unfold f_X12_sizeOf
  refine qa_fn_eq ?_ (by simp)

  simp [ev_X12_sizeOf_0, B_X12_sizeOf_0, q_const, q_load, q_store, q_iinc, q_iadd, q_isub, q_imul, q_idiv, q_irem, q_ineg, q_dup, q_dup_x1, q_dup2, q_pop, q_goto, q_ifeq, q_ifne, q_iflt, q_ifge, q_ifgt, q_ifle, q_cmpeq, q_cmpne, q_cmplt, q_cmpge, q_cmpgt, q_cmple, q_null, q_nonnull, q_acmpeq, q_acmpne, q_get, q_put, q_putz, q_ald, q_ast, q_zast, q_bast, q_aast, q_alen, q_call, q_callv, q_obj, q_ret, q_retz, q_vret, q_throw, q_switch, qg_none, qg_inl, qg_inr, qg_ite, qa_free, k77, k78, k79, k80, k81, k82, k83, k84, k85, k86, k87, k88, k89, k90, r1, r2, r3, r4, r6, r7, r8, r12, r13, r15, r23, r25, r26, hK, hR, m_entryAt, h, hk]
  grind
theorem m_valueOf {m : Int → Int → Int} {kd : Int → Nat × Int} {w : Nat × Nat × Nat} (hK : KM kd) (hR : RM m) (b k : Int) (h : 0 ≤ b ∧ b < 4) (hk : 0 ≤ k ∧ k < 1804) (hp : 0 ≤ m 79 (7406 + 1804 * b + k)) : f_X12_valueOf [(1, 77), (0, b), (0, k)] (m, kd, w) = some (.inl (some (0, zval (m 79) b k)), (m, kd, w)) := by
  obtain ⟨k77, k78, k79, k80, k81, k82, k83, k84, k85, k86, k87, k88, k89, k90⟩ := id hK
  obtain ⟨r1, r2, r3, r4, r6, r7, r8, r12, r13, r15, r23, r25, r26⟩ := id hR
  unfold f_X12_valueOf
  refine qa_fn_eq ?_ (by simp)

  simp [ev_X12_valueOf_0, B_X12_valueOf_0, q_const, q_load, q_store, q_iinc, q_iadd, q_isub, q_imul, q_idiv, q_irem, q_ineg, q_dup, q_dup_x1, q_dup2, q_pop, q_goto, q_ifeq, q_ifne, q_iflt, q_ifge, q_ifgt, q_ifle, q_cmpeq, q_cmpne, q_cmplt, q_cmpge, q_cmpgt, q_cmple, q_null, q_nonnull, q_acmpeq, q_acmpne, q_get, q_put, q_putz, q_ald, q_ast, q_zast, q_bast, q_aast, q_alen, q_call, q_callv, q_obj, q_ret, q_retz, q_vret, q_throw, q_switch, qg_none, qg_inl, qg_inr, qg_ite, qa_free, k77, k78, k79, k80, k81, k82, k83, k84, k85, k86, k87, k88, k89, k90, r1, r2, r3, r4, r6, r7, r8, r12, r13, r15, r23, r25, r26, hK, hR, m_entryAt, h, hk]
  grind
theorem m_isCovered {m : Int → Int → Int} {kd : Int → Nat × Int} {w : Nat × Nat × Nat} (hK : KM kd) (hR : RM m) (hB : BD (m 79)) (r : Int) (h : 0 ≤ r ∧ r < 6) : f_X12_isCovered [(1, 77), (0, r)] (m, kd, w) = some (.inl (some (0, if zcov (m 79) (m 78) r then 1 else 0)), (m, kd, w)) := by
  obtain ⟨k77, k78, k79, k80, k81, k82, k83, k84, k85, k86, k87, k88, k89, k90⟩ := id hK
  obtain ⟨r1, r2, r3, r4, r6, r7, r8, r12, r13, r15, r23, r25, r26⟩ := id hR
  unfold f_X12_isCovered
  refine qa_fn_eq ?_ (by simp)

  have b1 := hB 0
  have b2 := hB (34 + 26 * r + 3)
  simp [ev_X12_isCovered_0, ev_X12_isCovered_1, ev_X12_isCovered_2, ev_X12_isCovered_3, B_X12_isCovered_0, B_X12_isCovered_1, B_X12_isCovered_2, B_X12_isCovered_3, q_const, q_load, q_store, q_iinc, q_iadd, q_isub, q_imul, q_idiv, q_irem, q_ineg, q_dup, q_dup_x1, q_dup2, q_pop, q_goto, q_ifeq, q_ifne, q_iflt, q_ifge, q_ifgt, q_ifle, q_cmpeq, q_cmpne, q_cmplt, q_cmpge, q_cmpgt, q_cmple, q_null, q_nonnull, q_acmpeq, q_acmpne, q_get, q_put, q_putz, q_ald, q_ast, q_zast, q_bast, q_aast, q_alen, q_call, q_callv, q_obj, q_ret, q_retz, q_vret, q_throw, q_switch, qg_none, qg_inl, qg_inr, qg_ite, qa_free, k77, k78, k79, k80, k81, k82, k83, k84, k85, k86, k87, k88, k89, k90, r1, r2, r3, r4, r6, r7, r8, r12, r13, r15, r23, r25, r26, hK, hR, m_ofReader, h]
  grind
theorem m_holds {m : Int → Int → Int} {kd : Int → Nat × Int} {w : Nat × Nat × Nat} (hK : KM kd) (hR : RM m) (hB : BD (m 79)) (r b : Int) (hb : 0 ≤ b ∧ b < 4) : f_X12_holds [(1, 77), (0, r), (0, b)] (m, kd, w) = some (.inl (some (0, if zhold (m 79) (m 78) r b then 1 else 0)), (m, kd, w)) := by
  obtain ⟨k77, k78, k79, k80, k81, k82, k83, k84, k85, k86, k87, k88, k89, k90⟩ := id hK
  obtain ⟨r1, r2, r3, r4, r6, r7, r8, r12, r13, r15, r23, r25, r26⟩ := id hR
  have e := fun h => m_ofReader (w := w) hK hR r 2 h (by decide)
  have e2 := fun h => m_isCovered (w := w) hK hR hB r h
  unfold f_X12_holds
  refine qa_fn_eq ?_ (by simp)

  by_cases h : 0 ≤ r ∧ r < 6
  · simp [ev_X12_holds_0, ev_X12_holds_1, ev_X12_holds_2, B_X12_holds_0, B_X12_holds_1, B_X12_holds_2, q_const, q_load, q_store, q_iinc, q_iadd, q_isub, q_imul, q_idiv, q_irem, q_ineg, q_dup, q_dup_x1, q_dup2, q_pop, q_goto, q_ifeq, q_ifne, q_iflt, q_ifge, q_ifgt, q_ifle, q_cmpeq, q_cmpne, q_cmplt, q_cmpge, q_cmpgt, q_cmple, q_null, q_nonnull, q_acmpeq, q_acmpne, q_get, q_put, q_putz, q_ald, q_ast, q_zast, q_bast, q_aast, q_alen, q_call, q_callv, q_obj, q_ret, q_retz, q_vret, q_throw, q_switch, qg_none, qg_inl, qg_inr, qg_ite, qa_free, k77, k78, k79, k80, k81, k82, k83, k84, k85, k86, k87, k88, k89, k90, r1, r2, r3, r4, r6, r7, r8, r12, r13, r15, r23, r25, r26, hK, hR, m_isIn, m_ofBranch, hb, e h, e2 h]
    grind
  · simp [ev_X12_holds_0, ev_X12_holds_1, ev_X12_holds_2, B_X12_holds_0, B_X12_holds_1, B_X12_holds_2, q_const, q_load, q_store, q_iinc, q_iadd, q_isub, q_imul, q_idiv, q_irem, q_ineg, q_dup, q_dup_x1, q_dup2, q_pop, q_goto, q_ifeq, q_ifne, q_iflt, q_ifge, q_ifgt, q_ifle, q_cmpeq, q_cmpne, q_cmplt, q_cmpge, q_cmpgt, q_cmple, q_null, q_nonnull, q_acmpeq, q_acmpne, q_get, q_put, q_putz, q_ald, q_ast, q_zast, q_bast, q_aast, q_alen, q_call, q_callv, q_obj, q_ret, q_retz, q_vret, q_throw, q_switch, qg_none, qg_inl, qg_inr, qg_ite, qa_free, k77, k78, k79, k80, k81, k82, k83, k84, k85, k86, k87, k88, k89, k90, r1, r2, r3, r4, r6, r7, r8, r12, r13, r15, r23, r25, r26, hK, hR, m_isIn]
    grind
