theorem m_holderOf {m : Int → Int → Int} {kd : Int → Nat × Int} {w : Nat × Nat × Nat} (hK : KM kd) (hR : RM m) (hB : BD (m 79)) (b : Int) (hb : 0 ≤ b ∧ b < 4) : f_X12_holderOf [(1, 77), (0, b)] (m, kd, w) = some (.inl (some (0, zholder (m 79) (m 78) b)), (m, kd, w)) := by
  obtain ⟨k77, k78, k79, k80, k81, k82, k83, k84, k85, k86, k87, k88, k89, k90⟩ := id hK
  obtain ⟨r1, r2, r3, r4, r6, r7, r8, r12, r13, r15, r23, r25, r26⟩ := id hR
  unfold f_X12_holderOf
  refine qa_fn_eq ?_ (by simp)

  have hF := qa_find (fun k : Nat => qa_ev P_X12_holderOf 1 [(1, 77), (0, b), (0, (k : Int))] [] (m, kd, w)) (fun x => some (.inl (some (0, x)), (m, kd, w))) (fun r => 0 < m 79 (6 + 7 * b + 2) ∧ zhold (m 79) (m 78) r b) 6 (fun k hk => by
    simp [ev_X12_holderOf_0, ev_X12_holderOf_1, ev_X12_holderOf_2, ev_X12_holderOf_3, B_X12_holderOf_0, B_X12_holderOf_1, B_X12_holderOf_2, B_X12_holderOf_3, q_const, q_load, q_store, q_iinc, q_iadd, q_isub, q_imul, q_idiv, q_irem, q_ineg, q_dup, q_dup_x1, q_dup2, q_pop, q_goto, q_ifeq, q_ifne, q_iflt, q_ifge, q_ifgt, q_ifle, q_cmpeq, q_cmpne, q_cmplt, q_cmpge, q_cmpgt, q_cmple, q_null, q_nonnull, q_acmpeq, q_acmpne, q_get, q_put, q_putz, q_ald, q_ast, q_zast, q_bast, q_aast, q_alen, q_call, q_callv, q_obj, q_ret, q_retz, q_vret, q_throw, q_switch, qg_none, qg_inl, qg_inr, qg_ite, qa_free, k77, k78, k79, k80, k81, k82, k83, k84, k85, k86, k87, k88, k89, k90, r1, r2, r3, r4, r6, r7, r8, r12, r13, r15, r23, r25, r26, hK, hR, m_ofBranch, m_holds, hB, hb]
    grind)
  simp [ev_X12_holderOf_0, ev_X12_holderOf_1, ev_X12_holderOf_2, ev_X12_holderOf_3, B_X12_holderOf_0, B_X12_holderOf_1, B_X12_holderOf_2, B_X12_holderOf_3, q_const, q_load, q_store, q_iinc, q_iadd, q_isub, q_imul, q_idiv, q_irem, q_ineg, q_dup, q_dup_x1, q_dup2, q_pop, q_goto, q_ifeq, q_ifne, q_iflt, q_ifge, q_ifgt, q_ifle, q_cmpeq, q_cmpne, q_cmplt, q_cmpge, q_cmpgt, q_cmple, q_null, q_nonnull, q_acmpeq, q_acmpne, q_get, q_put, q_putz, q_ald, q_ast, q_zast, q_bast, q_aast, q_alen, q_call, q_callv, q_obj, q_ret, q_retz, q_vret, q_throw, q_switch, qg_none, qg_inl, qg_inr, qg_ite, qa_free, k77, k78, k79, k80, k81, k82, k83, k84, k85, k86, k87, k88, k89, k90, r1, r2, r3, r4, r6, r7, r8, r12, r13, r15, r23, r25, r26, hK, hR, m_ofBranch, hb] at hF ⊢
  rw [hF]
  sorry
theorem m_readersIn {m : Int → Int → Int} {kd : Int → Nat × Int} {w : Nat × Nat × Nat} (hK : KM kd) (hR : RM m) (b : Int) (hb : 0 ≤ b ∧ b < 4) : f_X12_readersIn [(1, 77), (0, b)] (m, kd, w) = some (.inl (some (0, zreadersIn (m 79) b)), (m, kd, w)) := by
  obtain ⟨k77, k78, k79, k80, k81, k82, k83, k84, k85, k86, k87, k88, k89, k90⟩ := id hK
  obtain ⟨r1, r2, r3, r4, r6, r7, r8, r12, r13, r15, r23, r25, r26⟩ := id hR
  unfold f_X12_readersIn
  refine qa_fn_eq ?_ (by simp)

  have hF := qa_iter (fun k : Nat => qa_ev P_X12_readersIn 1 [(1, 77), (0, b), (0, zsum (fun r => if zin (m 79) r b then 1 else 0) k), (0, (k : Int))] [] (m, kd, w)) 6 (fun k hk => by
    have hs := zsum_le (g := fun r => if zin (m 79) r b then 1 else 0) (fun i => by split <;> decide) k
    simp [ev_X12_readersIn_0, ev_X12_readersIn_1, ev_X12_readersIn_2, ev_X12_readersIn_3, ev_X12_readersIn_4, B_X12_readersIn_0, B_X12_readersIn_1, B_X12_readersIn_2, B_X12_readersIn_3, B_X12_readersIn_4, q_const, q_load, q_store, q_iinc, q_iadd, q_isub, q_imul, q_idiv, q_irem, q_ineg, q_dup, q_dup_x1, q_dup2, q_pop, q_goto, q_ifeq, q_ifne, q_iflt, q_ifge, q_ifgt, q_ifle, q_cmpeq, q_cmpne, q_cmplt, q_cmpge, q_cmpgt, q_cmple, q_null, q_nonnull, q_acmpeq, q_acmpne, q_get, q_put, q_putz, q_ald, q_ast, q_zast, q_bast, q_aast, q_alen, q_call, q_callv, q_obj, q_ret, q_retz, q_vret, q_throw, q_switch, qg_none, qg_inl, qg_inr, qg_ite, qa_free, k77, k78, k79, k80, k81, k82, k83, k84, k85, k86, k87, k88, k89, k90, r1, r2, r3, r4, r6, r7, r8, r12, r13, r15, r23, r25, r26, hK, hR, m_isIn, zsum]
    grind)
  sorry
