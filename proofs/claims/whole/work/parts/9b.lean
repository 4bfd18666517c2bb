def trf (T : Int → Int) : Nat → Int → Int → Int
  | 0, _, v => v
  | q + 1, p, v => trf T q (p + 1) (if 10000 < v then v else 10 * v + T p - 48)
def tRm (T : Int → Int) (n a : Int) : Int := if tKi T n a = 2 then trf T (tBe T n a - tSt T n a).toNat (tSt T n a) 0 else 0
def MLx (T : Int → Int) (n a : Int) (m : Int → Int → Int) : Prop := m 77 17 = tBe T n a ∧ m 77 18 = tSt T n a ∧ m 77 19 = trk (tKi T n a) ∧ m 77 20 = tRm T n a
theorem tBe_run {T : Int → Int} {n a : Int} (ha : 0 ≤ a ∧ a ≤ n) (h : tKi T n a = 1 ∨ tKi T n a = 2) : tBe T n a = tRn T n (tKi T n a) (tSt T n a) ∧ tSt T n a < n := by
  have hs := tSt_b T ha.2
  have hlt : tSt T n a < n := by
    apply Classical.byContradiction
    intro hh
    have e : tKi T n a = 0 := by
      unfold tKi tbt
      rw [if_neg (by omega)]
      rfl
    omega
  refine ⟨?_, hlt⟩
  unfold tBe
  rw [if_pos hlt, if_pos h, tRn_up (a := tSt T n a) hlt, if_pos (show tkd (tbt T n (tSt T n a)) = tKi T n a from rfl)]
theorem m_goesOn {m : Int → Int → Int} {kd : Int → Nat × Int} {w : Nat × Nat × Nat} (hK : KM kd) (hR : RM m) {T : Int → Int} {n a : Int} (hT : MTx T n m) (h17 : m 77 17 = a) (ha : 0 ≤ a ∧ a ≤ n) : f_X12_goesOn [(1, 77)] (m, kd, w) = some (.inl none, (tGx m (tBe T n a) (tSt T n a) (trk (tKi T n a)) (tRm T n a), kd, w)) := by
  have k77 := hK.1
  have hn7 : n ≤ 700 := hT.2.1.2
  have hR1 : ∀ k, RM (qa_up m 77 17 k) := fun k => RM_17 hR (fun i hi => qa_up_no _ (by omega))
  have hT1 : ∀ k, MTx T n (qa_up m 77 17 k) := fun k => MTx_77 hT (qa_up_no _ (by omega)) (by funext i; exact qa_up_no _ (by omega))
  have skip : ∀ (q : Nat) (k : Int), 0 ≤ k → k ≤ n → (n - k).toNat = q → qa_ev P_X12_goesOn 0 [(1, 77)] [] (qa_up m 77 17 k, kd, w) = qa_ev P_X12_goesOn 2 [(1, 77)] [] (qa_up m 77 17 (tSt T n k), kd, w) := by
    intro q
    induction q with
    | zero =>
      intro k h1 h2 h3
      have e : k = n := by omega
      have se := m_see (w := w) hK (hR1 k) (hT1 k) (p := k) (qa_up_hit _ _ _ _) h1
      have e2 : tbt T n k = -1 := if_neg (by omega)
      rw [e2] at se
      rw [tSt_end (by omega), ev_X12_goesOn_0]
      simp (disch := omega) [ev_X12_goesOn_1, ev_X12_goesOn_3, ev_X12_goesOn_4, ev_X12_goesOn_5, ev_X12_goesOn_6, ev_X12_goesOn_7, ev_X12_goesOn_8, ev_X12_goesOn_11, ev_X12_goesOn_12, ev_X12_goesOn_13, B_X12_goesOn_0, B_X12_goesOn_1, B_X12_goesOn_2, B_X12_goesOn_3, B_X12_goesOn_4, B_X12_goesOn_5, B_X12_goesOn_6, B_X12_goesOn_7, B_X12_goesOn_8, B_X12_goesOn_9, B_X12_goesOn_10, B_X12_goesOn_11, B_X12_goesOn_12, B_X12_goesOn_13, x_const, x_iadd, x_isub, x_imul, x_idiv, x_irem, x_ineg, x_dup, x_dup_x1, x_dup2, x_pop, x_goto, x_ifeq, x_ifne, x_iflt, x_ifge, x_ifgt, x_ifle, x_cmpeq, x_cmpne, x_cmplt, x_cmpge, x_cmpgt, x_cmple, x_null, x_nonnull, x_acmpeq, x_acmpne, x_get, x_put, x_putz, x_ald, x_ast, x_bast, x_zast, x_aast, x_alen, x_obj, x_ret, x_retz, x_vret, x_max, x_min, x_copy, x_i2l, qg_none, qg_inl, qg_inr, qg_ite, xr1, xr0, xrE, xri, xl0, xl1, xl2, xl3, xl4, xl5, xl6, xl7, xl8, xl9, xl10, xs0, xs1, xs2, xs3, xs4, xs5, xs6, xs7, xs8, xs9, xs10, xi0, xi1, xi2, xi3, xi4, xi5, xi6, xi7, xi8, xi9, xi10, xc0, xc1, xc2, xc3, xc4, xc5, xc6, xc7, xv1, xv2, xv3, xv4, xv5, xv6, xv7, dT_le, dF_le, dT_lt, dF_lt, k77, se]
    | succ q ih =>
      intro k h1 h2 h3
      have se := m_see (w := w) hK (hR1 k) (hT1 k) (p := k) (qa_up_hit _ _ _ _) h1
      have ih' := ih (k + 1) (by omega) (by omega) (by omega)
      have up : qa_up (qa_up m 77 17 k) 77 17 (k + 1) = qa_up m 77 17 (k + 1) := qa_up2
      have e17 : qa_up m 77 17 k 77 17 = k := qa_up_hit _ _ _ _
      rw [tSt_up (by omega), ev_X12_goesOn_0]
      by_cases c1 : tbt T n k = 32
      · rw [if_pos (Or.inl c1)]
        rw [c1] at se
        simp (disch := omega) [ev_X12_goesOn_1, ev_X12_goesOn_3, ev_X12_goesOn_4, ev_X12_goesOn_5, ev_X12_goesOn_6, ev_X12_goesOn_7, ev_X12_goesOn_8, ev_X12_goesOn_11, ev_X12_goesOn_12, ev_X12_goesOn_13, B_X12_goesOn_0, B_X12_goesOn_1, B_X12_goesOn_2, B_X12_goesOn_3, B_X12_goesOn_4, B_X12_goesOn_5, B_X12_goesOn_6, B_X12_goesOn_7, B_X12_goesOn_8, B_X12_goesOn_9, B_X12_goesOn_10, B_X12_goesOn_11, B_X12_goesOn_12, B_X12_goesOn_13, x_const, x_iadd, x_isub, x_imul, x_idiv, x_irem, x_ineg, x_dup, x_dup_x1, x_dup2, x_pop, x_goto, x_ifeq, x_ifne, x_iflt, x_ifge, x_ifgt, x_ifle, x_cmpeq, x_cmpne, x_cmplt, x_cmpge, x_cmpgt, x_cmple, x_null, x_nonnull, x_acmpeq, x_acmpne, x_get, x_put, x_putz, x_ald, x_ast, x_bast, x_zast, x_aast, x_alen, x_obj, x_ret, x_retz, x_vret, x_max, x_min, x_copy, x_i2l, qg_none, qg_inl, qg_inr, qg_ite, xr1, xr0, xrE, xri, xl0, xl1, xl2, xl3, xl4, xl5, xl6, xl7, xl8, xl9, xl10, xs0, xs1, xs2, xs3, xs4, xs5, xs6, xs7, xs8, xs9, xs10, xi0, xi1, xi2, xi3, xi4, xi5, xi6, xi7, xi8, xi9, xi10, xc0, xc1, xc2, xc3, xc4, xc5, xc6, xc7, xv1, xv2, xv3, xv4, xv5, xv6, xv7, dT_le, dF_le, dT_lt, dF_lt, k77, se, e17, up, ih']
      · by_cases c2 : tbt T n k = 10
        · rw [if_pos (Or.inr c2)]
          rw [c2] at se
          simp (disch := omega) [ev_X12_goesOn_1, ev_X12_goesOn_3, ev_X12_goesOn_4, ev_X12_goesOn_5, ev_X12_goesOn_6, ev_X12_goesOn_7, ev_X12_goesOn_8, ev_X12_goesOn_11, ev_X12_goesOn_12, ev_X12_goesOn_13, B_X12_goesOn_0, B_X12_goesOn_1, B_X12_goesOn_2, B_X12_goesOn_3, B_X12_goesOn_4, B_X12_goesOn_5, B_X12_goesOn_6, B_X12_goesOn_7, B_X12_goesOn_8, B_X12_goesOn_9, B_X12_goesOn_10, B_X12_goesOn_11, B_X12_goesOn_12, B_X12_goesOn_13, x_const, x_iadd, x_isub, x_imul, x_idiv, x_irem, x_ineg, x_dup, x_dup_x1, x_dup2, x_pop, x_goto, x_ifeq, x_ifne, x_iflt, x_ifge, x_ifgt, x_ifle, x_cmpeq, x_cmpne, x_cmplt, x_cmpge, x_cmpgt, x_cmple, x_null, x_nonnull, x_acmpeq, x_acmpne, x_get, x_put, x_putz, x_ald, x_ast, x_bast, x_zast, x_aast, x_alen, x_obj, x_ret, x_retz, x_vret, x_max, x_min, x_copy, x_i2l, qg_none, qg_inl, qg_inr, qg_ite, xr1, xr0, xrE, xri, xl0, xl1, xl2, xl3, xl4, xl5, xl6, xl7, xl8, xl9, xl10, xs0, xs1, xs2, xs3, xs4, xs5, xs6, xs7, xs8, xs9, xs10, xi0, xi1, xi2, xi3, xi4, xi5, xi6, xi7, xi8, xi9, xi10, xc0, xc1, xc2, xc3, xc4, xc5, xc6, xc7, xv1, xv2, xv3, xv4, xv5, xv6, xv7, dT_le, dF_le, dT_lt, dF_lt, k77, se, e17, up, ih']
        · rw [if_neg (by omega)]
          simp (disch := omega) [ev_X12_goesOn_1, ev_X12_goesOn_3, ev_X12_goesOn_4, ev_X12_goesOn_5, ev_X12_goesOn_6, ev_X12_goesOn_7, ev_X12_goesOn_8, ev_X12_goesOn_11, ev_X12_goesOn_12, ev_X12_goesOn_13, B_X12_goesOn_0, B_X12_goesOn_1, B_X12_goesOn_2, B_X12_goesOn_3, B_X12_goesOn_4, B_X12_goesOn_5, B_X12_goesOn_6, B_X12_goesOn_7, B_X12_goesOn_8, B_X12_goesOn_9, B_X12_goesOn_10, B_X12_goesOn_11, B_X12_goesOn_12, B_X12_goesOn_13, x_const, x_iadd, x_isub, x_imul, x_idiv, x_irem, x_ineg, x_dup, x_dup_x1, x_dup2, x_pop, x_goto, x_ifeq, x_ifne, x_iflt, x_ifge, x_ifgt, x_ifle, x_cmpeq, x_cmpne, x_cmplt, x_cmpge, x_cmpgt, x_cmple, x_null, x_nonnull, x_acmpeq, x_acmpne, x_get, x_put, x_putz, x_ald, x_ast, x_bast, x_zast, x_aast, x_alen, x_obj, x_ret, x_retz, x_vret, x_max, x_min, x_copy, x_i2l, qg_none, qg_inl, qg_inr, qg_ite, xr1, xr0, xrE, xri, xl0, xl1, xl2, xl3, xl4, xl5, xl6, xl7, xl8, xl9, xl10, xs0, xs1, xs2, xs3, xs4, xs5, xs6, xs7, xs8, xs9, xs10, xi0, xi1, xi2, xi3, xi4, xi5, xi6, xi7, xi8, xi9, xi10, xc0, xc1, xc2, xc3, xc4, xc5, xc6, xc7, xv1, xv2, xv3, xv4, xv5, xv6, xv7, dT_le, dF_le, dT_lt, dF_lt, dF_eq, k77, se, c1, c2]
  have hsb := tSt_b T ha.2
  have hbe := tBe_b T ha.2
  have sk := skip (n - a).toNat a ha.1 ha.2 rfl
  rw [qa_up_id h17] at sk
  have hRg : ∀ b s t v, RM (tGx m b s t v) := fun b s t v => RM_17 hR (fun i hi => tGx_no (by omega))
  have hTg : ∀ b s t v, MTx T n (tGx m b s t v) := fun b s t v => MTx_77 hT (tGx_no (by omega)) (by funext i; exact tGx_no (by omega))
  have fin : ∀ b t v, t ≠ 1 → t ≠ 2 → qa_ev P_X12_goesOn 9 [(1, 77)] [] (tGx m b (tSt T n a) t v, kd, w) = some (.inl none, (tGx m b (tSt T n a) t v, kd, w)) := fun b t v t1 t2 => by
    have x19 := tGx_19 m b (tSt T n a) t v
    rw [ev_X12_goesOn_9]
    simp (disch := omega) [ev_X12_goesOn_1, ev_X12_goesOn_2, ev_X12_goesOn_3, ev_X12_goesOn_4, ev_X12_goesOn_5, ev_X12_goesOn_6, ev_X12_goesOn_7, ev_X12_goesOn_8, ev_X12_goesOn_11, ev_X12_goesOn_12, ev_X12_goesOn_13, B_X12_goesOn_0, B_X12_goesOn_1, B_X12_goesOn_2, B_X12_goesOn_3, B_X12_goesOn_4, B_X12_goesOn_5, B_X12_goesOn_6, B_X12_goesOn_7, B_X12_goesOn_8, B_X12_goesOn_9, B_X12_goesOn_10, B_X12_goesOn_11, B_X12_goesOn_12, B_X12_goesOn_13, x_const, x_iadd, x_isub, x_imul, x_idiv, x_irem, x_ineg, x_dup, x_dup_x1, x_dup2, x_pop, x_goto, x_ifeq, x_ifne, x_iflt, x_ifge, x_ifgt, x_ifle, x_cmpeq, x_cmpne, x_cmplt, x_cmpge, x_cmpgt, x_cmple, x_null, x_nonnull, x_acmpeq, x_acmpne, x_get, x_put, x_putz, x_ald, x_ast, x_bast, x_zast, x_aast, x_alen, x_obj, x_ret, x_retz, x_vret, x_max, x_min, x_copy, x_i2l, qg_none, qg_inl, qg_inr, qg_ite, xr1, xr0, xrE, xri, xl0, xl1, xl2, xl3, xl4, xl5, xl6, xl7, xl8, xl9, xl10, xs0, xs1, xs2, xs3, xs4, xs5, xs6, xs7, xs8, xs9, xs10, xi0, xi1, xi2, xi3, xi4, xi5, xi6, xi7, xi8, xi9, xi10, xc0, xc1, xc2, xc3, xc4, xc5, xc6, xc7, xv1, xv2, xv3, xv4, xv5, xv6, xv7, dT_le, dF_le, dT_lt, dF_lt, dF_eq, k77, x19, t1, t2]
    rw [ev_X12_goesOn_10]
    simp (disch := omega) [ev_X12_goesOn_1, ev_X12_goesOn_2, ev_X12_goesOn_3, ev_X12_goesOn_4, ev_X12_goesOn_5, ev_X12_goesOn_6, ev_X12_goesOn_7, ev_X12_goesOn_8, ev_X12_goesOn_11, ev_X12_goesOn_12, ev_X12_goesOn_13, B_X12_goesOn_0, B_X12_goesOn_1, B_X12_goesOn_2, B_X12_goesOn_3, B_X12_goesOn_4, B_X12_goesOn_5, B_X12_goesOn_6, B_X12_goesOn_7, B_X12_goesOn_8, B_X12_goesOn_9, B_X12_goesOn_10, B_X12_goesOn_11, B_X12_goesOn_12, B_X12_goesOn_13, x_const, x_iadd, x_isub, x_imul, x_idiv, x_irem, x_ineg, x_dup, x_dup_x1, x_dup2, x_pop, x_goto, x_ifeq, x_ifne, x_iflt, x_ifge, x_ifgt, x_ifle, x_cmpeq, x_cmpne, x_cmplt, x_cmpge, x_cmpgt, x_cmple, x_null, x_nonnull, x_acmpeq, x_acmpne, x_get, x_put, x_putz, x_ald, x_ast, x_bast, x_zast, x_aast, x_alen, x_obj, x_ret, x_retz, x_vret, x_max, x_min, x_copy, x_i2l, qg_none, qg_inl, qg_inr, qg_ite, xr1, xr0, xrE, xri, xl0, xl1, xl2, xl3, xl4, xl5, xl6, xl7, xl8, xl9, xl10, xs0, xs1, xs2, xs3, xs4, xs5, xs6, xs7, xs8, xs9, xs10, xi0, xi1, xi2, xi3, xi4, xi5, xi6, xi7, xi8, xi9, xi10, xc0, xc1, xc2, xc3, xc4, xc5, xc6, xc7, xv1, xv2, xv3, xv4, xv5, xv6, xv7, dT_le, dF_le, dT_lt, dF_lt, dF_eq, k77, x19, t1, t2]
  have words : ∀ (q : Nat) (b : Int), 0 ≤ b → b ≤ n → (n - b).toNat = q → qa_ev P_X12_goesOn 9 [(1, 77)] [] (tGx m b (tSt T n a) 1 0, kd, w) = some (.inl none, (tGx m (tRn T n 1 b) (tSt T n a) 1 0, kd, w)) := by
    intro q
    induction q with
    | zero =>
      intro b h1 h2 h3
      have sm := m_isSmall (w := w) hK (hRg b (tSt T n a) 1 0) (hTg b (tSt T n a) 1 0) (tGx_17 _ _ _ _ _) h1
      have e2 : tbt T n b = -1 := if_neg (by omega)
      rw [e2, if_neg (by decide)] at sm
      have x19 := tGx_19 m b (tSt T n a) 1 0
      rw [tRn_end (by omega), ev_X12_goesOn_9]
      simp (disch := omega) [ev_X12_goesOn_1, ev_X12_goesOn_2, ev_X12_goesOn_3, ev_X12_goesOn_4, ev_X12_goesOn_5, ev_X12_goesOn_6, ev_X12_goesOn_7, ev_X12_goesOn_8, ev_X12_goesOn_11, ev_X12_goesOn_12, ev_X12_goesOn_13, B_X12_goesOn_0, B_X12_goesOn_1, B_X12_goesOn_2, B_X12_goesOn_3, B_X12_goesOn_4, B_X12_goesOn_5, B_X12_goesOn_6, B_X12_goesOn_7, B_X12_goesOn_8, B_X12_goesOn_9, B_X12_goesOn_10, B_X12_goesOn_11, B_X12_goesOn_12, B_X12_goesOn_13, x_const, x_iadd, x_isub, x_imul, x_idiv, x_irem, x_ineg, x_dup, x_dup_x1, x_dup2, x_pop, x_goto, x_ifeq, x_ifne, x_iflt, x_ifge, x_ifgt, x_ifle, x_cmpeq, x_cmpne, x_cmplt, x_cmpge, x_cmpgt, x_cmple, x_null, x_nonnull, x_acmpeq, x_acmpne, x_get, x_put, x_putz, x_ald, x_ast, x_bast, x_zast, x_aast, x_alen, x_obj, x_ret, x_retz, x_vret, x_max, x_min, x_copy, x_i2l, qg_none, qg_inl, qg_inr, qg_ite, xr1, xr0, xrE, xri, xl0, xl1, xl2, xl3, xl4, xl5, xl6, xl7, xl8, xl9, xl10, xs0, xs1, xs2, xs3, xs4, xs5, xs6, xs7, xs8, xs9, xs10, xi0, xi1, xi2, xi3, xi4, xi5, xi6, xi7, xi8, xi9, xi10, xc0, xc1, xc2, xc3, xc4, xc5, xc6, xc7, xv1, xv2, xv3, xv4, xv5, xv6, xv7, dT_le, dF_le, dT_lt, dF_lt, k77, x19, sm]
      rw [ev_X12_goesOn_10]
      simp (disch := omega) [ev_X12_goesOn_1, ev_X12_goesOn_2, ev_X12_goesOn_3, ev_X12_goesOn_4, ev_X12_goesOn_5, ev_X12_goesOn_6, ev_X12_goesOn_7, ev_X12_goesOn_8, ev_X12_goesOn_11, ev_X12_goesOn_12, ev_X12_goesOn_13, B_X12_goesOn_0, B_X12_goesOn_1, B_X12_goesOn_2, B_X12_goesOn_3, B_X12_goesOn_4, B_X12_goesOn_5, B_X12_goesOn_6, B_X12_goesOn_7, B_X12_goesOn_8, B_X12_goesOn_9, B_X12_goesOn_10, B_X12_goesOn_11, B_X12_goesOn_12, B_X12_goesOn_13, x_const, x_iadd, x_isub, x_imul, x_idiv, x_irem, x_ineg, x_dup, x_dup_x1, x_dup2, x_pop, x_goto, x_ifeq, x_ifne, x_iflt, x_ifge, x_ifgt, x_ifle, x_cmpeq, x_cmpne, x_cmplt, x_cmpge, x_cmpgt, x_cmple, x_null, x_nonnull, x_acmpeq, x_acmpne, x_get, x_put, x_putz, x_ald, x_ast, x_bast, x_zast, x_aast, x_alen, x_obj, x_ret, x_retz, x_vret, x_max, x_min, x_copy, x_i2l, qg_none, qg_inl, qg_inr, qg_ite, xr1, xr0, xrE, xri, xl0, xl1, xl2, xl3, xl4, xl5, xl6, xl7, xl8, xl9, xl10, xs0, xs1, xs2, xs3, xs4, xs5, xs6, xs7, xs8, xs9, xs10, xi0, xi1, xi2, xi3, xi4, xi5, xi6, xi7, xi8, xi9, xi10, xc0, xc1, xc2, xc3, xc4, xc5, xc6, xc7, xv1, xv2, xv3, xv4, xv5, xv6, xv7, dT_le, dF_le, dT_lt, dF_lt, k77, x19]
    | succ q ih =>
      intro b h1 h2 h3
      have sm := m_isSmall (w := w) hK (hRg b (tSt T n a) 1 0) (hTg b (tSt T n a) 1 0) (tGx_17 _ _ _ _ _) h1
      have x19 := tGx_19 m b (tSt T n a) 1 0
      have x17 := tGx_17 m b (tSt T n a) 1 0
      have up := tGx_u17 (m := m) (b := b) (s := tSt T n a) (t := 1) (v := 0) (b' := b + 1)
      have ih' := ih (b + 1) (by omega) (by omega) (by omega)
      rw [tRn_up (by omega), ev_X12_goesOn_9]
      by_cases hc : tkd (tbt T n b) = 1
      · rw [if_pos hc] at sm ⊢
        simp (disch := omega) [ev_X12_goesOn_1, ev_X12_goesOn_2, ev_X12_goesOn_3, ev_X12_goesOn_4, ev_X12_goesOn_5, ev_X12_goesOn_6, ev_X12_goesOn_7, ev_X12_goesOn_8, ev_X12_goesOn_11, ev_X12_goesOn_12, ev_X12_goesOn_13, B_X12_goesOn_0, B_X12_goesOn_1, B_X12_goesOn_2, B_X12_goesOn_3, B_X12_goesOn_4, B_X12_goesOn_5, B_X12_goesOn_6, B_X12_goesOn_7, B_X12_goesOn_8, B_X12_goesOn_9, B_X12_goesOn_10, B_X12_goesOn_11, B_X12_goesOn_12, B_X12_goesOn_13, x_const, x_iadd, x_isub, x_imul, x_idiv, x_irem, x_ineg, x_dup, x_dup_x1, x_dup2, x_pop, x_goto, x_ifeq, x_ifne, x_iflt, x_ifge, x_ifgt, x_ifle, x_cmpeq, x_cmpne, x_cmplt, x_cmpge, x_cmpgt, x_cmple, x_null, x_nonnull, x_acmpeq, x_acmpne, x_get, x_put, x_putz, x_ald, x_ast, x_bast, x_zast, x_aast, x_alen, x_obj, x_ret, x_retz, x_vret, x_max, x_min, x_copy, x_i2l, qg_none, qg_inl, qg_inr, qg_ite, xr1, xr0, xrE, xri, xl0, xl1, xl2, xl3, xl4, xl5, xl6, xl7, xl8, xl9, xl10, xs0, xs1, xs2, xs3, xs4, xs5, xs6, xs7, xs8, xs9, xs10, xi0, xi1, xi2, xi3, xi4, xi5, xi6, xi7, xi8, xi9, xi10, xc0, xc1, xc2, xc3, xc4, xc5, xc6, xc7, xv1, xv2, xv3, xv4, xv5, xv6, xv7, dT_le, dF_le, dT_lt, dF_lt, k77, x19, x17, sm, up, ih']
      · rw [if_neg hc] at sm ⊢
        simp (disch := omega) [ev_X12_goesOn_1, ev_X12_goesOn_2, ev_X12_goesOn_3, ev_X12_goesOn_4, ev_X12_goesOn_5, ev_X12_goesOn_6, ev_X12_goesOn_7, ev_X12_goesOn_8, ev_X12_goesOn_11, ev_X12_goesOn_12, ev_X12_goesOn_13, B_X12_goesOn_0, B_X12_goesOn_1, B_X12_goesOn_2, B_X12_goesOn_3, B_X12_goesOn_4, B_X12_goesOn_5, B_X12_goesOn_6, B_X12_goesOn_7, B_X12_goesOn_8, B_X12_goesOn_9, B_X12_goesOn_10, B_X12_goesOn_11, B_X12_goesOn_12, B_X12_goesOn_13, x_const, x_iadd, x_isub, x_imul, x_idiv, x_irem, x_ineg, x_dup, x_dup_x1, x_dup2, x_pop, x_goto, x_ifeq, x_ifne, x_iflt, x_ifge, x_ifgt, x_ifle, x_cmpeq, x_cmpne, x_cmplt, x_cmpge, x_cmpgt, x_cmple, x_null, x_nonnull, x_acmpeq, x_acmpne, x_get, x_put, x_putz, x_ald, x_ast, x_bast, x_zast, x_aast, x_alen, x_obj, x_ret, x_retz, x_vret, x_max, x_min, x_copy, x_i2l, qg_none, qg_inl, qg_inr, qg_ite, xr1, xr0, xrE, xri, xl0, xl1, xl2, xl3, xl4, xl5, xl6, xl7, xl8, xl9, xl10, xs0, xs1, xs2, xs3, xs4, xs5, xs6, xs7, xs8, xs9, xs10, xi0, xi1, xi2, xi3, xi4, xi5, xi6, xi7, xi8, xi9, xi10, xc0, xc1, xc2, xc3, xc4, xc5, xc6, xc7, xv1, xv2, xv3, xv4, xv5, xv6, xv7, dT_le, dF_le, dT_lt, dF_lt, k77, x19, sm]
        rw [ev_X12_goesOn_10]
        simp (disch := omega) [ev_X12_goesOn_1, ev_X12_goesOn_2, ev_X12_goesOn_3, ev_X12_goesOn_4, ev_X12_goesOn_5, ev_X12_goesOn_6, ev_X12_goesOn_7, ev_X12_goesOn_8, ev_X12_goesOn_11, ev_X12_goesOn_12, ev_X12_goesOn_13, B_X12_goesOn_0, B_X12_goesOn_1, B_X12_goesOn_2, B_X12_goesOn_3, B_X12_goesOn_4, B_X12_goesOn_5, B_X12_goesOn_6, B_X12_goesOn_7, B_X12_goesOn_8, B_X12_goesOn_9, B_X12_goesOn_10, B_X12_goesOn_11, B_X12_goesOn_12, B_X12_goesOn_13, x_const, x_iadd, x_isub, x_imul, x_idiv, x_irem, x_ineg, x_dup, x_dup_x1, x_dup2, x_pop, x_goto, x_ifeq, x_ifne, x_iflt, x_ifge, x_ifgt, x_ifle, x_cmpeq, x_cmpne, x_cmplt, x_cmpge, x_cmpgt, x_cmple, x_null, x_nonnull, x_acmpeq, x_acmpne, x_get, x_put, x_putz, x_ald, x_ast, x_bast, x_zast, x_aast, x_alen, x_obj, x_ret, x_retz, x_vret, x_max, x_min, x_copy, x_i2l, qg_none, qg_inl, qg_inr, qg_ite, xr1, xr0, xrE, xri, xl0, xl1, xl2, xl3, xl4, xl5, xl6, xl7, xl8, xl9, xl10, xs0, xs1, xs2, xs3, xs4, xs5, xs6, xs7, xs8, xs9, xs10, xi0, xi1, xi2, xi3, xi4, xi5, xi6, xi7, xi8, xi9, xi10, xc0, xc1, xc2, xc3, xc4, xc5, xc6, xc7, xv1, xv2, xv3, xv4, xv5, xv6, xv7, dT_le, dF_le, dT_lt, dF_lt, k77, x19]
  have nums : tKi T n a = 2 → ∀ (q : Nat) (b v : Int), tSt T n a ≤ b → b + q = tBe T n a → 0 ≤ v → v ≤ 100009 → qa_ev P_X12_goesOn 10 [(1, 77)] [] (tGx m b (tSt T n a) 2 v, kd, w) = some (.inl none, (tGx m (tBe T n a) (tSt T n a) 2 (trf T q b v), kd, w)) := by
    intro hk2 q
    induction q with
    | zero =>
      intro b v h1 h2 h3 h4
      have eb : b = tBe T n a := by omega
      have sm := m_isDigit (w := w) hK (hRg b (tSt T n a) 2 v) (hTg b (tSt T n a) 2 v) (tGx_17 _ _ _ _ _) (by omega)
      have hrun := (tBe_run ha (Or.inr hk2)).1
      have hnd : ¬ tkd (tbt T n b) = 2 := by
        intro z
        rw [hk2] at hrun
        by_cases hbn : b < n
        · have : tRn T n 2 (tSt T n a) ≠ b := by
            intro hh
            have key : ∀ (q : Nat) (p : Int), (n - p).toNat = q → tRn T n 2 p = b → False := by
              intro q
              induction q with
              | zero =>
                intro p g1 g2
                rw [tRn_end (by omega)] at g2
                omega
              | succ q ih =>
                intro p g1 g2
                rw [tRn_up (by omega)] at g2
                split at g2
                · exact ih (p + 1) (by omega) g2
                · rename_i hne
                  rw [g2] at hne
                  exact hne z
            exact key _ _ rfl hh
          exact this (by rw [← hrun, eb])
        · have e2 : tbt T n b = -1 := if_neg (by omega)
          rw [e2] at z
          exact absurd z (by decide)
      rw [if_neg hnd] at sm
      have x19 := tGx_19 m b (tSt T n a) 2 v
      rw [ev_X12_goesOn_10]
      simp only [trf]
      rw [← eb]
      simp (disch := omega) [ev_X12_goesOn_1, ev_X12_goesOn_2, ev_X12_goesOn_3, ev_X12_goesOn_4, ev_X12_goesOn_5, ev_X12_goesOn_6, ev_X12_goesOn_7, ev_X12_goesOn_8, ev_X12_goesOn_11, ev_X12_goesOn_12, ev_X12_goesOn_13, B_X12_goesOn_0, B_X12_goesOn_1, B_X12_goesOn_2, B_X12_goesOn_3, B_X12_goesOn_4, B_X12_goesOn_5, B_X12_goesOn_6, B_X12_goesOn_7, B_X12_goesOn_8, B_X12_goesOn_9, B_X12_goesOn_10, B_X12_goesOn_11, B_X12_goesOn_12, B_X12_goesOn_13, x_const, x_iadd, x_isub, x_imul, x_idiv, x_irem, x_ineg, x_dup, x_dup_x1, x_dup2, x_pop, x_goto, x_ifeq, x_ifne, x_iflt, x_ifge, x_ifgt, x_ifle, x_cmpeq, x_cmpne, x_cmplt, x_cmpge, x_cmpgt, x_cmple, x_null, x_nonnull, x_acmpeq, x_acmpne, x_get, x_put, x_putz, x_ald, x_ast, x_bast, x_zast, x_aast, x_alen, x_obj, x_ret, x_retz, x_vret, x_max, x_min, x_copy, x_i2l, qg_none, qg_inl, qg_inr, qg_ite, xr1, xr0, xrE, xri, xl0, xl1, xl2, xl3, xl4, xl5, xl6, xl7, xl8, xl9, xl10, xs0, xs1, xs2, xs3, xs4, xs5, xs6, xs7, xs8, xs9, xs10, xi0, xi1, xi2, xi3, xi4, xi5, xi6, xi7, xi8, xi9, xi10, xc0, xc1, xc2, xc3, xc4, xc5, xc6, xc7, xv1, xv2, xv3, xv4, xv5, xv6, xv7, dT_le, dF_le, dT_lt, dF_lt, k77, x19, sm]
    | succ q ih =>
      intro b v h1 h2 h3 h4
      obtain ⟨d1, d2, d3⟩ := tDig ha hk2 h1 (by omega)
      have sm := m_isDigit (w := w) hK (hRg b (tSt T n a) 2 v) (hTg b (tSt T n a) 2 v) (tGx_17 _ _ _ _ _) (by omega)
      have se := m_see (w := w) hK (hRg b (tSt T n a) 2 v) (hTg b (tSt T n a) 2 v) (tGx_17 _ _ _ _ _) (by omega)
      rw [d3, if_pos (tkd_digit.mpr ⟨d1, d2⟩)] at sm
      rw [d3] at se
      have hbn := (tTok_k ha (Or.inr hk2) h1 (by omega)).2
      have x19 := tGx_19 m b (tSt T n a) 2 v
      have x20 := tGx_20 m b (tSt T n a) 2 v
      have u20 := fun v' => tGx_u20 (m := m) (b := b) (s := tSt T n a) (t := 2) (v := v) (v' := v')
      have x17 := fun v' => tGx_17 m b (tSt T n a) 2 v'
      have u17 := fun v' => tGx_u17 (m := m) (b := b) (s := tSt T n a) (t := 2) (v := v') (b' := b + 1)
      rw [ev_X12_goesOn_10]
      simp only [trf]
      by_cases hc : 10000 < v
      · rw [if_pos hc]
        have ih' := ih (b + 1) v (by omega) (by omega) (by omega) (by omega)
        simp (disch := omega) [ev_X12_goesOn_1, ev_X12_goesOn_2, ev_X12_goesOn_3, ev_X12_goesOn_4, ev_X12_goesOn_5, ev_X12_goesOn_6, ev_X12_goesOn_7, ev_X12_goesOn_8, ev_X12_goesOn_11, ev_X12_goesOn_12, ev_X12_goesOn_13, B_X12_goesOn_0, B_X12_goesOn_1, B_X12_goesOn_2, B_X12_goesOn_3, B_X12_goesOn_4, B_X12_goesOn_5, B_X12_goesOn_6, B_X12_goesOn_7, B_X12_goesOn_8, B_X12_goesOn_9, B_X12_goesOn_10, B_X12_goesOn_11, B_X12_goesOn_12, B_X12_goesOn_13, x_const, x_iadd, x_isub, x_imul, x_idiv, x_irem, x_ineg, x_dup, x_dup_x1, x_dup2, x_pop, x_goto, x_ifeq, x_ifne, x_iflt, x_ifge, x_ifgt, x_ifle, x_cmpeq, x_cmpne, x_cmplt, x_cmpge, x_cmpgt, x_cmple, x_null, x_nonnull, x_acmpeq, x_acmpne, x_get, x_put, x_putz, x_ald, x_ast, x_bast, x_zast, x_aast, x_alen, x_obj, x_ret, x_retz, x_vret, x_max, x_min, x_copy, x_i2l, qg_none, qg_inl, qg_inr, qg_ite, xr1, xr0, xrE, xri, xl0, xl1, xl2, xl3, xl4, xl5, xl6, xl7, xl8, xl9, xl10, xs0, xs1, xs2, xs3, xs4, xs5, xs6, xs7, xs8, xs9, xs10, xi0, xi1, xi2, xi3, xi4, xi5, xi6, xi7, xi8, xi9, xi10, xc0, xc1, xc2, xc3, xc4, xc5, xc6, xc7, xv1, xv2, xv3, xv4, xv5, xv6, xv7, dT_le, dF_le, dT_lt, dF_lt, k77, x19, x20, sm, se, u20, x17, u17, ih']
      · rw [if_neg hc]
        have ih' := ih (b + 1) (10 * v + T b - 48) (by omega) (by omega) (by omega) (by omega)
        simp (disch := omega) [ev_X12_goesOn_1, ev_X12_goesOn_2, ev_X12_goesOn_3, ev_X12_goesOn_4, ev_X12_goesOn_5, ev_X12_goesOn_6, ev_X12_goesOn_7, ev_X12_goesOn_8, ev_X12_goesOn_11, ev_X12_goesOn_12, ev_X12_goesOn_13, B_X12_goesOn_0, B_X12_goesOn_1, B_X12_goesOn_2, B_X12_goesOn_3, B_X12_goesOn_4, B_X12_goesOn_5, B_X12_goesOn_6, B_X12_goesOn_7, B_X12_goesOn_8, B_X12_goesOn_9, B_X12_goesOn_10, B_X12_goesOn_11, B_X12_goesOn_12, B_X12_goesOn_13, x_const, x_iadd, x_isub, x_imul, x_idiv, x_irem, x_ineg, x_dup, x_dup_x1, x_dup2, x_pop, x_goto, x_ifeq, x_ifne, x_iflt, x_ifge, x_ifgt, x_ifle, x_cmpeq, x_cmpne, x_cmplt, x_cmpge, x_cmpgt, x_cmple, x_null, x_nonnull, x_acmpeq, x_acmpne, x_get, x_put, x_putz, x_ald, x_ast, x_bast, x_zast, x_aast, x_alen, x_obj, x_ret, x_retz, x_vret, x_max, x_min, x_copy, x_i2l, qg_none, qg_inl, qg_inr, qg_ite, xr1, xr0, xrE, xri, xl0, xl1, xl2, xl3, xl4, xl5, xl6, xl7, xl8, xl9, xl10, xs0, xs1, xs2, xs3, xs4, xs5, xs6, xs7, xs8, xs9, xs10, xi0, xi1, xi2, xi3, xi4, xi5, xi6, xi7, xi8, xi9, xi10, xc0, xc1, xc2, xc3, xc4, xc5, xc6, xc7, xv1, xv2, xv3, xv4, xv5, xv6, xv7, dT_le, dF_le, dT_lt, dF_lt, k77, x19, x20, sm, se, u20, x17, u17, ih']
  have hRf : RM (qa_up (qa_up m 77 17 (tSt T n a)) 77 18 (tSt T n a)) := RM_17 hR (fun i hi => by rw [qa_up_no _ (by omega), qa_up_no _ (by omega)])
  have hTf : MTx T n (qa_up (qa_up m 77 17 (tSt T n a)) 77 18 (tSt T n a)) := MTx_77 hT (by rw [qa_up_no _ (by omega), qa_up_no _ (by omega)]) (by funext i; rw [qa_up_no _ (by omega), qa_up_no _ (by omega)])
  have f17 : qa_up (qa_up m 77 17 (tSt T n a)) 77 18 (tSt T n a) 77 17 = tSt T n a := by rw [qa_up_no _ (by omega), qa_up_hit]
  have se := m_see (w := w) hK hRf hTf f17 (by omega)
  have sm := m_isSmall (w := w) hK hRf hTf f17 (by omega)
  have sd := m_isDigit (w := w) hK hRf hTf f17 (by omega)
  have ek : tkd (tbt T n (tSt T n a)) = tKi T n a := rfl
  rw [ek] at sm sd
  have e17 : qa_up m 77 17 (tSt T n a) 77 17 = tSt T n a := qa_up_hit _ _ _ _
  have eq_ := fun b t v => tGx_eq (m := m) (b := b) (s := tSt T n a) (t := t) (v := v) (b' := tSt T n a)
  have x17 := fun t v => (show qa_up (qa_up (qa_up (qa_up m 77 17 (tSt T n a)) 77 18 (tSt T n a)) 77 19 t) 77 20 v 77 17 = tSt T n a by rw [qa_up_no _ (by omega), qa_up_no _ (by omega), qa_up_no _ (by omega), qa_up_hit])
  have x19 := fun t v => (show qa_up (qa_up (qa_up (qa_up m 77 17 (tSt T n a)) 77 18 (tSt T n a)) 77 19 t) 77 20 v 77 19 = t by rw [qa_up_no _ (by omega), qa_up_hit])
  generalize hmf : qa_up (qa_up m 77 17 (tSt T n a)) 77 18 (tSt T n a) = mf at se sm sd eq_ x17 x19
  by_cases c0 : tbt T n (tSt T n a) = -1
  · have k0 : tKi T n a = 0 := by rw [← ek, c0]; rfl
    have hse : tSt T n a = n := (tKi_0 hT.2.2.1 ha).mp k0
    have hb : tBe T n a = tSt T n a := by
      unfold tBe
      rw [if_neg (by omega)]
    have hr : tRm T n a = 0 := by
      unfold tRm
      rw [k0]
      rfl
    have et : trk (tKi T n a) = 0 := by rw [k0]; rfl
    rw [c0] at se
    rw [hb, hr, et]
    have fn := fin (tSt T n a) 0 0 (by decide) (by decide)
    unfold f_X12_goesOn
    refine qa_fn_eq ?_ (by simp)
    change qa_ev P_X12_goesOn 0 [(1, 77)] [] (m, kd, w) = _
    rw [sk, ev_X12_goesOn_2]
    simp (disch := omega) [ev_X12_goesOn_1, ev_X12_goesOn_3, ev_X12_goesOn_4, ev_X12_goesOn_5, ev_X12_goesOn_6, ev_X12_goesOn_7, ev_X12_goesOn_8, ev_X12_goesOn_11, ev_X12_goesOn_12, ev_X12_goesOn_13, B_X12_goesOn_0, B_X12_goesOn_1, B_X12_goesOn_2, B_X12_goesOn_3, B_X12_goesOn_4, B_X12_goesOn_5, B_X12_goesOn_6, B_X12_goesOn_7, B_X12_goesOn_8, B_X12_goesOn_9, B_X12_goesOn_10, B_X12_goesOn_11, B_X12_goesOn_12, B_X12_goesOn_13, x_const, x_iadd, x_isub, x_imul, x_idiv, x_irem, x_ineg, x_dup, x_dup_x1, x_dup2, x_pop, x_goto, x_ifeq, x_ifne, x_iflt, x_ifge, x_ifgt, x_ifle, x_cmpeq, x_cmpne, x_cmplt, x_cmpge, x_cmpgt, x_cmple, x_null, x_nonnull, x_acmpeq, x_acmpne, x_get, x_put, x_putz, x_ald, x_ast, x_bast, x_zast, x_aast, x_alen, x_obj, x_ret, x_retz, x_vret, x_max, x_min, x_copy, x_i2l, qg_none, qg_inl, qg_inr, qg_ite, xr1, xr0, xrE, xri, xl0, xl1, xl2, xl3, xl4, xl5, xl6, xl7, xl8, xl9, xl10, xs0, xs1, xs2, xs3, xs4, xs5, xs6, xs7, xs8, xs9, xs10, xi0, xi1, xi2, xi3, xi4, xi5, xi6, xi7, xi8, xi9, xi10, xc0, xc1, xc2, xc3, xc4, xc5, xc6, xc7, xv1, xv2, xv3, xv4, xv5, xv6, xv7, dT_le, dF_le, dT_lt, dF_lt, k77, e17, hmf, se, x17, x19, eq_, fn]
  · have hlt : tSt T n a < n := by
      apply Classical.byContradiction
      intro hh
      exact c0 (if_neg (by omega))
    by_cases c1 : tKi T n a = 1
    · have hrun := (tBe_run ha (Or.inl c1)).1
      rw [c1] at hrun
      have hr : tRm T n a = 0 := by
        unfold tRm
        rw [c1]
        rfl
      have et : trk (tKi T n a) = 1 := by rw [c1]; rfl
      rw [if_pos c1] at sm
      rw [hr, et, hrun]
      have fn := words (n - tSt T n a).toNat (tSt T n a) (by omega) (by omega) rfl
      unfold f_X12_goesOn
      refine qa_fn_eq ?_ (by simp)
      change qa_ev P_X12_goesOn 0 [(1, 77)] [] (m, kd, w) = _
      rw [sk, ev_X12_goesOn_2]
      simp (disch := omega) [ev_X12_goesOn_1, ev_X12_goesOn_3, ev_X12_goesOn_4, ev_X12_goesOn_5, ev_X12_goesOn_6, ev_X12_goesOn_7, ev_X12_goesOn_8, ev_X12_goesOn_11, ev_X12_goesOn_12, ev_X12_goesOn_13, B_X12_goesOn_0, B_X12_goesOn_1, B_X12_goesOn_2, B_X12_goesOn_3, B_X12_goesOn_4, B_X12_goesOn_5, B_X12_goesOn_6, B_X12_goesOn_7, B_X12_goesOn_8, B_X12_goesOn_9, B_X12_goesOn_10, B_X12_goesOn_11, B_X12_goesOn_12, B_X12_goesOn_13, x_const, x_iadd, x_isub, x_imul, x_idiv, x_irem, x_ineg, x_dup, x_dup_x1, x_dup2, x_pop, x_goto, x_ifeq, x_ifne, x_iflt, x_ifge, x_ifgt, x_ifle, x_cmpeq, x_cmpne, x_cmplt, x_cmpge, x_cmpgt, x_cmple, x_null, x_nonnull, x_acmpeq, x_acmpne, x_get, x_put, x_putz, x_ald, x_ast, x_bast, x_zast, x_aast, x_alen, x_obj, x_ret, x_retz, x_vret, x_max, x_min, x_copy, x_i2l, qg_none, qg_inl, qg_inr, qg_ite, xr1, xr0, xrE, xri, xl0, xl1, xl2, xl3, xl4, xl5, xl6, xl7, xl8, xl9, xl10, xs0, xs1, xs2, xs3, xs4, xs5, xs6, xs7, xs8, xs9, xs10, xi0, xi1, xi2, xi3, xi4, xi5, xi6, xi7, xi8, xi9, xi10, xc0, xc1, xc2, xc3, xc4, xc5, xc6, xc7, xv1, xv2, xv3, xv4, xv5, xv6, xv7, dT_le, dF_le, dT_lt, dF_lt, dF_eq, k77, e17, hmf, se, c0, sm, x17, x19, eq_, fn]
    · rw [if_neg c1] at sm
      by_cases c2 : tKi T n a = 2
      · have hr : tRm T n a = trf T (tBe T n a - tSt T n a).toNat (tSt T n a) 0 := by
          unfold tRm
          rw [if_pos c2]
        have et : trk (tKi T n a) = 2 := by rw [c2]; rfl
        rw [if_pos c2] at sd
        rw [hr, et]
        have fn := nums c2 (tBe T n a - tSt T n a).toNat (tSt T n a) 0 (by omega) (by omega) (by decide) (by decide)
        have y19 := tGx_19 m (tSt T n a) (tSt T n a) 2 0
        unfold f_X12_goesOn
        refine qa_fn_eq ?_ (by simp)
        change qa_ev P_X12_goesOn 0 [(1, 77)] [] (m, kd, w) = _
        rw [sk, ev_X12_goesOn_2]
        simp (disch := omega) [ev_X12_goesOn_1, ev_X12_goesOn_3, ev_X12_goesOn_4, ev_X12_goesOn_5, ev_X12_goesOn_6, ev_X12_goesOn_7, ev_X12_goesOn_8, ev_X12_goesOn_11, ev_X12_goesOn_12, ev_X12_goesOn_13, B_X12_goesOn_0, B_X12_goesOn_1, B_X12_goesOn_2, B_X12_goesOn_3, B_X12_goesOn_4, B_X12_goesOn_5, B_X12_goesOn_6, B_X12_goesOn_7, B_X12_goesOn_8, B_X12_goesOn_9, B_X12_goesOn_10, B_X12_goesOn_11, B_X12_goesOn_12, B_X12_goesOn_13, x_const, x_iadd, x_isub, x_imul, x_idiv, x_irem, x_ineg, x_dup, x_dup_x1, x_dup2, x_pop, x_goto, x_ifeq, x_ifne, x_iflt, x_ifge, x_ifgt, x_ifle, x_cmpeq, x_cmpne, x_cmplt, x_cmpge, x_cmpgt, x_cmple, x_null, x_nonnull, x_acmpeq, x_acmpne, x_get, x_put, x_putz, x_ald, x_ast, x_bast, x_zast, x_aast, x_alen, x_obj, x_ret, x_retz, x_vret, x_max, x_min, x_copy, x_i2l, qg_none, qg_inl, qg_inr, qg_ite, xr1, xr0, xrE, xri, xl0, xl1, xl2, xl3, xl4, xl5, xl6, xl7, xl8, xl9, xl10, xs0, xs1, xs2, xs3, xs4, xs5, xs6, xs7, xs8, xs9, xs10, xi0, xi1, xi2, xi3, xi4, xi5, xi6, xi7, xi8, xi9, xi10, xc0, xc1, xc2, xc3, xc4, xc5, xc6, xc7, xv1, xv2, xv3, xv4, xv5, xv6, xv7, dT_le, dF_le, dT_lt, dF_lt, dF_eq, k77, e17, hmf, se, c0, sm, sd, x17, x19, eq_]
        rw [ev_X12_goesOn_9]
        simp (disch := omega) [ev_X12_goesOn_1, ev_X12_goesOn_3, ev_X12_goesOn_4, ev_X12_goesOn_5, ev_X12_goesOn_6, ev_X12_goesOn_7, ev_X12_goesOn_8, ev_X12_goesOn_11, ev_X12_goesOn_12, ev_X12_goesOn_13, B_X12_goesOn_0, B_X12_goesOn_1, B_X12_goesOn_2, B_X12_goesOn_3, B_X12_goesOn_4, B_X12_goesOn_5, B_X12_goesOn_6, B_X12_goesOn_7, B_X12_goesOn_8, B_X12_goesOn_9, B_X12_goesOn_10, B_X12_goesOn_11, B_X12_goesOn_12, B_X12_goesOn_13, x_const, x_iadd, x_isub, x_imul, x_idiv, x_irem, x_ineg, x_dup, x_dup_x1, x_dup2, x_pop, x_goto, x_ifeq, x_ifne, x_iflt, x_ifge, x_ifgt, x_ifle, x_cmpeq, x_cmpne, x_cmplt, x_cmpge, x_cmpgt, x_cmple, x_null, x_nonnull, x_acmpeq, x_acmpne, x_get, x_put, x_putz, x_ald, x_ast, x_bast, x_zast, x_aast, x_alen, x_obj, x_ret, x_retz, x_vret, x_max, x_min, x_copy, x_i2l, qg_none, qg_inl, qg_inr, qg_ite, xr1, xr0, xrE, xri, xl0, xl1, xl2, xl3, xl4, xl5, xl6, xl7, xl8, xl9, xl10, xs0, xs1, xs2, xs3, xs4, xs5, xs6, xs7, xs8, xs9, xs10, xi0, xi1, xi2, xi3, xi4, xi5, xi6, xi7, xi8, xi9, xi10, xc0, xc1, xc2, xc3, xc4, xc5, xc6, xc7, xv1, xv2, xv3, xv4, xv5, xv6, xv7, dT_le, dF_le, dT_lt, dF_lt, k77, y19, fn]
      · rw [if_neg c2] at sd
        obtain ⟨mo, mo3⟩ := m_markOf (m := mf) (kd := kd) (w := w) (x := tbt T n (tSt T n a)) c0 (by rw [ek]; exact c1) (by rw [ek]; exact c2)
        rw [ek] at mo mo3
        have hb : tBe T n a = tSt T n a + 1 := by
          unfold tBe
          rw [if_pos hlt, if_neg (by omega)]
        have hr : tRm T n a = 0 := by
          unfold tRm
          rw [if_neg c2]
        rw [hb, hr]
        have fn := fin (tSt T n a + 1) (trk (tKi T n a)) 0 (by omega) (by omega)
        unfold f_X12_goesOn
        refine qa_fn_eq ?_ (by simp)
        change qa_ev P_X12_goesOn 0 [(1, 77)] [] (m, kd, w) = _
        rw [sk, ev_X12_goesOn_2]
        simp (disch := omega) [ev_X12_goesOn_1, ev_X12_goesOn_3, ev_X12_goesOn_4, ev_X12_goesOn_5, ev_X12_goesOn_6, ev_X12_goesOn_7, ev_X12_goesOn_8, ev_X12_goesOn_11, ev_X12_goesOn_12, ev_X12_goesOn_13, B_X12_goesOn_0, B_X12_goesOn_1, B_X12_goesOn_2, B_X12_goesOn_3, B_X12_goesOn_4, B_X12_goesOn_5, B_X12_goesOn_6, B_X12_goesOn_7, B_X12_goesOn_8, B_X12_goesOn_9, B_X12_goesOn_10, B_X12_goesOn_11, B_X12_goesOn_12, B_X12_goesOn_13, x_const, x_iadd, x_isub, x_imul, x_idiv, x_irem, x_ineg, x_dup, x_dup_x1, x_dup2, x_pop, x_goto, x_ifeq, x_ifne, x_iflt, x_ifge, x_ifgt, x_ifle, x_cmpeq, x_cmpne, x_cmplt, x_cmpge, x_cmpgt, x_cmple, x_null, x_nonnull, x_acmpeq, x_acmpne, x_get, x_put, x_putz, x_ald, x_ast, x_bast, x_zast, x_aast, x_alen, x_obj, x_ret, x_retz, x_vret, x_max, x_min, x_copy, x_i2l, qg_none, qg_inl, qg_inr, qg_ite, xr1, xr0, xrE, xri, xl0, xl1, xl2, xl3, xl4, xl5, xl6, xl7, xl8, xl9, xl10, xs0, xs1, xs2, xs3, xs4, xs5, xs6, xs7, xs8, xs9, xs10, xi0, xi1, xi2, xi3, xi4, xi5, xi6, xi7, xi8, xi9, xi10, xc0, xc1, xc2, xc3, xc4, xc5, xc6, xc7, xv1, xv2, xv3, xv4, xv5, xv6, xv7, dT_le, dF_le, dT_lt, dF_lt, dF_eq, k77, e17, hmf, se, c0, sm, sd, mo, x17, x19, eq_, fn]
