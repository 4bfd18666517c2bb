def MTx (T : Int → Int) (n : Int) (m : Int → Int → Int) : Prop := m 77 16 = n ∧ (0 ≤ n ∧ n ≤ 700) ∧ tT8 T ∧ ∀ i, 0 ≤ i → i < n → m 87 i % 256 = T i ∧ -128 ≤ m 87 i ∧ m 87 i < 128
def tGx (m : Int → Int → Int) (b s t v : Int) : Int → Int → Int := fun c i => if c = 77 ∧ i = 17 then b else if c = 77 ∧ i = 18 then s else if c = 77 ∧ i = 19 then t else if c = 77 ∧ i = 20 then v else m c i
theorem tGx_no {m : Int → Int → Int} {b s t v c i : Int} (h : c ≠ 77 ∨ i < 17 ∨ 20 < i) : tGx m b s t v c i = m c i := by
  unfold tGx
  rw [if_neg (by omega), if_neg (by omega), if_neg (by omega), if_neg (by omega)]
theorem tGx_17 (m : Int → Int → Int) (b s t v : Int) : tGx m b s t v 77 17 = b := if_pos ⟨rfl, rfl⟩
theorem tGx_18 (m : Int → Int → Int) (b s t v : Int) : tGx m b s t v 77 18 = s := by
  unfold tGx
  rw [if_neg (by omega), if_pos ⟨rfl, rfl⟩]
theorem tGx_19 (m : Int → Int → Int) (b s t v : Int) : tGx m b s t v 77 19 = t := by
  unfold tGx
  rw [if_neg (by omega), if_neg (by omega), if_pos ⟨rfl, rfl⟩]
theorem tGx_20 (m : Int → Int → Int) (b s t v : Int) : tGx m b s t v 77 20 = v := by
  unfold tGx
  rw [if_neg (by omega), if_neg (by omega), if_neg (by omega), if_pos ⟨rfl, rfl⟩]
theorem tGx_u17 {m : Int → Int → Int} {b s t v b' : Int} : qa_up (tGx m b s t v) 77 17 b' = tGx m b' s t v := by
  funext c i
  unfold qa_up tGx
  by_cases hc : c = 77
  · by_cases h9 : i = 17
    · subst h9; simp [hc]
    · simp [hc, h9]
  · simp [hc]
theorem tGx_u20 {m : Int → Int → Int} {b s t v v' : Int} : qa_up (tGx m b s t v) 77 20 v' = tGx m b s t v' := by
  funext c i
  unfold qa_up tGx
  by_cases hc : c = 77
  · by_cases h9 : i = 20
    · subst h9; simp [hc]
    · simp [hc, h9]
  · simp [hc]
theorem tGx_eq {m : Int → Int → Int} {b s t v b' : Int} : qa_up (qa_up (qa_up (qa_up (qa_up m 77 17 b') 77 18 s) 77 19 t) 77 20 v) 77 17 b = tGx m b s t v := by
  funext c i
  unfold qa_up tGx
  by_cases hc : c = 77
  · by_cases h7 : i = 17
    · subst h7; simp [hc]
    · by_cases h8 : i = 18
      · subst h8; simp [hc]
      · by_cases h9 : i = 19
        · subst h9; simp [hc]
        · by_cases h0 : i = 20
          · subst h0; simp [hc]
          · simp [hc, h7, h8, h9, h0]
  · simp [hc]
theorem qa_up_id {m : Int → Int → Int} {c i v : Int} (h : m c i = v) : qa_up m c i v = m := by
  funext c' i'
  unfold qa_up
  split
  · rename_i hh; rw [hh.1, hh.2]; exact h.symm
  · rfl
theorem qa_up2 {m : Int → Int → Int} {c i v v' : Int} : qa_up (qa_up m c i v) c i v' = qa_up m c i v' := by
  funext c' i'
  unfold qa_up
  split <;> rfl
theorem MTx_77 {T : Int → Int} {n : Int} {m m' : Int → Int → Int} (h : MTx T n m) (h16 : m' 77 16 = m 77 16) (h87 : m' 87 = m 87) : MTx T n m' := by
  unfold MTx at h ⊢
  rw [h16, h87]
  exact h
theorem RM_17 {m m' : Int → Int → Int} (hR : RM m) (h : ∀ i, (i < 17 ∨ i = 23 ∨ i = 25 ∨ i = 26) → m' 77 i = m 77 i) : RM m' := by
  unfold RM at hR ⊢
  rw [h 1 (by decide), h 2 (by decide), h 3 (by decide), h 4 (by decide), h 6 (by decide), h 7 (by decide), h 8 (by decide), h 12 (by decide), h 13 (by decide), h 15 (by decide), h 23 (by decide), h 25 (by decide), h 26 (by decide)]
  exact hR
theorem m_see {m : Int → Int → Int} {kd : Int → Nat × Int} {w : Nat × Nat × Nat} (hK : KM kd) (hR : RM m) {T : Int → Int} {n p : Int} (hT : MTx T n m) (h17 : m 77 17 = p) (hp : 0 ≤ p) : f_X12_see [(1, 77)] (m, kd, w) = some (.inl (some (0, tbt T n p)), (m, kd, w)) := by
  obtain ⟨h16, hn, h8, ht⟩ := hT
  have k77 := hK.1
  have k87 := hK.2.2.2.2.2.2.2.2.2.2.1
  have r15 : m 77 15 = 87 := hR.2.2.2.2.2.2.2.2.2.1
  unfold tbt
  by_cases h : p < n
  · rw [if_pos ⟨hp, h⟩]
    have e := (ht p hp h).1
    unfold f_X12_see
    refine qa_fn_eq ?_ (by simp)
    simp (disch := omega) [ev_X12_see_0, ev_X12_see_1, ev_X12_see_2, B_X12_see_0, B_X12_see_1, B_X12_see_2, x_const, x_iadd, x_isub, x_imul, x_idiv, x_irem, x_ineg, x_dup, x_dup_x1, x_dup2, x_pop, x_goto, x_ifeq, x_ifne, x_iflt, x_ifge, x_ifgt, x_ifle, x_cmpeq, x_cmpne, x_cmplt, x_cmpge, x_cmpgt, x_cmple, x_null, x_nonnull, x_acmpeq, x_acmpne, x_get, x_put, x_putz, x_ald, x_ast, x_bast, x_zast, x_aast, x_alen, x_obj, x_ret, x_retz, x_vret, x_max, x_min, x_copy, x_i2l, qg_none, qg_inl, qg_inr, qg_ite, xr1, xr0, xrE, xri, xl0, xl1, xl2, xl3, xl4, xl5, xl6, xl7, xl8, xl9, xl10, xs0, xs1, xs2, xs3, xs4, xs5, xs6, xs7, xs8, xs9, xs10, xi0, xi1, xi2, xi3, xi4, xi5, xi6, xi7, xi8, xi9, xi10, xc0, xc1, xc2, xc3, xc4, xc5, xc6, xc7, xv1, xv2, xv3, xv4, xv5, xv6, xv7, dT_le, dF_le, dT_lt, dF_lt, x_iand, k77, k87, r15, h16, h17, e]
  · rw [if_neg (by omega)]
    unfold f_X12_see
    refine qa_fn_eq ?_ (by simp)
    simp (disch := omega) [ev_X12_see_0, ev_X12_see_1, ev_X12_see_2, B_X12_see_0, B_X12_see_1, B_X12_see_2, x_const, x_iadd, x_isub, x_imul, x_idiv, x_irem, x_ineg, x_dup, x_dup_x1, x_dup2, x_pop, x_goto, x_ifeq, x_ifne, x_iflt, x_ifge, x_ifgt, x_ifle, x_cmpeq, x_cmpne, x_cmplt, x_cmpge, x_cmpgt, x_cmple, x_null, x_nonnull, x_acmpeq, x_acmpne, x_get, x_put, x_putz, x_ald, x_ast, x_bast, x_zast, x_aast, x_alen, x_obj, x_ret, x_retz, x_vret, x_max, x_min, x_copy, x_i2l, qg_none, qg_inl, qg_inr, qg_ite, xr1, xr0, xrE, xri, xl0, xl1, xl2, xl3, xl4, xl5, xl6, xl7, xl8, xl9, xl10, xs0, xs1, xs2, xs3, xs4, xs5, xs6, xs7, xs8, xs9, xs10, xi0, xi1, xi2, xi3, xi4, xi5, xi6, xi7, xi8, xi9, xi10, xc0, xc1, xc2, xc3, xc4, xc5, xc6, xc7, xv1, xv2, xv3, xv4, xv5, xv6, xv7, dT_le, dF_le, dT_lt, dF_lt, k77, h16, h17]
theorem tkd_small {x : Int} : (tkd x = 1) ↔ (97 ≤ x ∧ x ≤ 122) := by
  constructor
  · exact tkd_1
  · intro h
    unfold tkd
    rw [if_neg (by omega), if_pos h]
theorem tkd_digit {x : Int} : (tkd x = 2) ↔ (48 ≤ x ∧ x ≤ 57) := by
  constructor
  · exact tkd_2
  · intro h
    unfold tkd
    rw [if_neg (by omega), if_neg (by omega), if_pos h]
theorem m_isSmall {m : Int → Int → Int} {kd : Int → Nat × Int} {w : Nat × Nat × Nat} (hK : KM kd) (hR : RM m) {T : Int → Int} {n p : Int} (hT : MTx T n m) (h17 : m 77 17 = p) (hp : 0 ≤ p) : f_X12_isSmall [(1, 77)] (m, kd, w) = some (.inl (some (0, if tkd (tbt T n p) = 1 then 1 else 0)), (m, kd, w)) := by
  have k77 := hK.1
  have se := m_see (w := w) hK hR hT h17 hp
  have hi := m_in (m := m) (kd := kd) (w := w) (tbt T n p) 97 122
  by_cases h : tkd (tbt T n p) = 1
  · rw [if_pos (tkd_small.mp h)] at hi
    rw [if_pos h]
    unfold f_X12_isSmall
    refine qa_fn_eq ?_ (by simp)
    simp (disch := omega) [ev_X12_isSmall_0, B_X12_isSmall_0, x_const, x_iadd, x_isub, x_imul, x_idiv, x_irem, x_ineg, x_dup, x_dup_x1, x_dup2, x_pop, x_goto, x_ifeq, x_ifne, x_iflt, x_ifge, x_ifgt, x_ifle, x_cmpeq, x_cmpne, x_cmplt, x_cmpge, x_cmpgt, x_cmple, x_null, x_nonnull, x_acmpeq, x_acmpne, x_get, x_put, x_putz, x_ald, x_ast, x_bast, x_zast, x_aast, x_alen, x_obj, x_ret, x_retz, x_vret, x_max, x_min, x_copy, x_i2l, qg_none, qg_inl, qg_inr, qg_ite, xr1, xr0, xrE, xri, xl0, xl1, xl2, xl3, xl4, xl5, xl6, xl7, xl8, xl9, xl10, xs0, xs1, xs2, xs3, xs4, xs5, xs6, xs7, xs8, xs9, xs10, xi0, xi1, xi2, xi3, xi4, xi5, xi6, xi7, xi8, xi9, xi10, xc0, xc1, xc2, xc3, xc4, xc5, xc6, xc7, xv1, xv2, xv3, xv4, xv5, xv6, xv7, dT_le, dF_le, dT_lt, dF_lt, k77, se, hi]
  · rw [if_neg (fun z => h (tkd_small.mpr z))] at hi
    rw [if_neg h]
    unfold f_X12_isSmall
    refine qa_fn_eq ?_ (by simp)
    simp (disch := omega) [ev_X12_isSmall_0, B_X12_isSmall_0, x_const, x_iadd, x_isub, x_imul, x_idiv, x_irem, x_ineg, x_dup, x_dup_x1, x_dup2, x_pop, x_goto, x_ifeq, x_ifne, x_iflt, x_ifge, x_ifgt, x_ifle, x_cmpeq, x_cmpne, x_cmplt, x_cmpge, x_cmpgt, x_cmple, x_null, x_nonnull, x_acmpeq, x_acmpne, x_get, x_put, x_putz, x_ald, x_ast, x_bast, x_zast, x_aast, x_alen, x_obj, x_ret, x_retz, x_vret, x_max, x_min, x_copy, x_i2l, qg_none, qg_inl, qg_inr, qg_ite, xr1, xr0, xrE, xri, xl0, xl1, xl2, xl3, xl4, xl5, xl6, xl7, xl8, xl9, xl10, xs0, xs1, xs2, xs3, xs4, xs5, xs6, xs7, xs8, xs9, xs10, xi0, xi1, xi2, xi3, xi4, xi5, xi6, xi7, xi8, xi9, xi10, xc0, xc1, xc2, xc3, xc4, xc5, xc6, xc7, xv1, xv2, xv3, xv4, xv5, xv6, xv7, dT_le, dF_le, dT_lt, dF_lt, k77, se, hi]
theorem m_isDigit {m : Int → Int → Int} {kd : Int → Nat × Int} {w : Nat × Nat × Nat} (hK : KM kd) (hR : RM m) {T : Int → Int} {n p : Int} (hT : MTx T n m) (h17 : m 77 17 = p) (hp : 0 ≤ p) : f_X12_isDigit [(1, 77)] (m, kd, w) = some (.inl (some (0, if tkd (tbt T n p) = 2 then 1 else 0)), (m, kd, w)) := by
  have k77 := hK.1
  have se := m_see (w := w) hK hR hT h17 hp
  have hi := m_in (m := m) (kd := kd) (w := w) (tbt T n p) 48 57
  by_cases h : tkd (tbt T n p) = 2
  · rw [if_pos (tkd_digit.mp h)] at hi
    rw [if_pos h]
    unfold f_X12_isDigit
    refine qa_fn_eq ?_ (by simp)
    simp (disch := omega) [ev_X12_isDigit_0, B_X12_isDigit_0, x_const, x_iadd, x_isub, x_imul, x_idiv, x_irem, x_ineg, x_dup, x_dup_x1, x_dup2, x_pop, x_goto, x_ifeq, x_ifne, x_iflt, x_ifge, x_ifgt, x_ifle, x_cmpeq, x_cmpne, x_cmplt, x_cmpge, x_cmpgt, x_cmple, x_null, x_nonnull, x_acmpeq, x_acmpne, x_get, x_put, x_putz, x_ald, x_ast, x_bast, x_zast, x_aast, x_alen, x_obj, x_ret, x_retz, x_vret, x_max, x_min, x_copy, x_i2l, qg_none, qg_inl, qg_inr, qg_ite, xr1, xr0, xrE, xri, xl0, xl1, xl2, xl3, xl4, xl5, xl6, xl7, xl8, xl9, xl10, xs0, xs1, xs2, xs3, xs4, xs5, xs6, xs7, xs8, xs9, xs10, xi0, xi1, xi2, xi3, xi4, xi5, xi6, xi7, xi8, xi9, xi10, xc0, xc1, xc2, xc3, xc4, xc5, xc6, xc7, xv1, xv2, xv3, xv4, xv5, xv6, xv7, dT_le, dF_le, dT_lt, dF_lt, k77, se, hi]
  · rw [if_neg (fun z => h (tkd_digit.mpr z))] at hi
    rw [if_neg h]
    unfold f_X12_isDigit
    refine qa_fn_eq ?_ (by simp)
    simp (disch := omega) [ev_X12_isDigit_0, B_X12_isDigit_0, x_const, x_iadd, x_isub, x_imul, x_idiv, x_irem, x_ineg, x_dup, x_dup_x1, x_dup2, x_pop, x_goto, x_ifeq, x_ifne, x_iflt, x_ifge, x_ifgt, x_ifle, x_cmpeq, x_cmpne, x_cmplt, x_cmpge, x_cmpgt, x_cmple, x_null, x_nonnull, x_acmpeq, x_acmpne, x_get, x_put, x_putz, x_ald, x_ast, x_bast, x_zast, x_aast, x_alen, x_obj, x_ret, x_retz, x_vret, x_max, x_min, x_copy, x_i2l, qg_none, qg_inl, qg_inr, qg_ite, xr1, xr0, xrE, xri, xl0, xl1, xl2, xl3, xl4, xl5, xl6, xl7, xl8, xl9, xl10, xs0, xs1, xs2, xs3, xs4, xs5, xs6, xs7, xs8, xs9, xs10, xi0, xi1, xi2, xi3, xi4, xi5, xi6, xi7, xi8, xi9, xi10, xc0, xc1, xc2, xc3, xc4, xc5, xc6, xc7, xv1, xv2, xv3, xv4, xv5, xv6, xv7, dT_le, dF_le, dT_lt, dF_lt, k77, se, hi]
def trk (k : Int) : Int := if k = 3 then 4 else if k = 4 then 3 else k
theorem m_markOf {m : Int → Int → Int} {kd : Int → Nat × Int} {w : Nat × Nat × Nat} {x : Int} (h0 : x ≠ -1) (h1 : tkd x ≠ 1) (h2 : tkd x ≠ 2) : f_X12_markOf [(0, x)] (m, kd, w) = some (.inl (some (0, trk (tkd x))), (m, kd, w)) ∧ 3 ≤ trk (tkd x) := by
  have n1 : ¬ (97 ≤ x ∧ x ≤ 122) := fun z => h1 (tkd_small.mpr z)
  have n2 : ¬ (48 ≤ x ∧ x ≤ 57) := fun z => h2 (tkd_digit.mpr z)
  unfold tkd
  rw [if_neg h0, if_neg n1, if_neg n2]
  by_cases h3 : x = 59
  · subst h3
    refine ⟨?_, by decide⟩
    unfold f_X12_markOf
    refine qa_fn_eq ?_ (by simp)
    simp (disch := omega) [ev_X12_markOf_0, ev_X12_markOf_1, ev_X12_markOf_2, ev_X12_markOf_3, B_X12_markOf_0, B_X12_markOf_1, B_X12_markOf_2, B_X12_markOf_3, x_const, x_iadd, x_isub, x_imul, x_idiv, x_irem, x_ineg, x_dup, x_dup_x1, x_dup2, x_pop, x_goto, x_ifeq, x_ifne, x_iflt, x_ifge, x_ifgt, x_ifle, x_cmpeq, x_cmpne, x_cmplt, x_cmpge, x_cmpgt, x_cmple, x_null, x_nonnull, x_acmpeq, x_acmpne, x_get, x_put, x_putz, x_ald, x_ast, x_bast, x_zast, x_aast, x_alen, x_obj, x_ret, x_retz, x_vret, x_max, x_min, x_copy, x_i2l, qg_none, qg_inl, qg_inr, qg_ite, xr1, xr0, xrE, xri, xl0, xl1, xl2, xl3, xl4, xl5, xl6, xl7, xl8, xl9, xl10, xs0, xs1, xs2, xs3, xs4, xs5, xs6, xs7, xs8, xs9, xs10, xi0, xi1, xi2, xi3, xi4, xi5, xi6, xi7, xi8, xi9, xi10, xc0, xc1, xc2, xc3, xc4, xc5, xc6, xc7, xv1, xv2, xv3, xv4, xv5, xv6, xv7, dT_le, dF_le, dT_lt, dF_lt, trk]
  · by_cases h4 : x = 45
    · subst h4
      refine ⟨?_, by decide⟩
      unfold f_X12_markOf
      refine qa_fn_eq ?_ (by simp)
      simp (disch := omega) [ev_X12_markOf_0, ev_X12_markOf_1, ev_X12_markOf_2, ev_X12_markOf_3, B_X12_markOf_0, B_X12_markOf_1, B_X12_markOf_2, B_X12_markOf_3, x_const, x_iadd, x_isub, x_imul, x_idiv, x_irem, x_ineg, x_dup, x_dup_x1, x_dup2, x_pop, x_goto, x_ifeq, x_ifne, x_iflt, x_ifge, x_ifgt, x_ifle, x_cmpeq, x_cmpne, x_cmplt, x_cmpge, x_cmpgt, x_cmple, x_null, x_nonnull, x_acmpeq, x_acmpne, x_get, x_put, x_putz, x_ald, x_ast, x_bast, x_zast, x_aast, x_alen, x_obj, x_ret, x_retz, x_vret, x_max, x_min, x_copy, x_i2l, qg_none, qg_inl, qg_inr, qg_ite, xr1, xr0, xrE, xri, xl0, xl1, xl2, xl3, xl4, xl5, xl6, xl7, xl8, xl9, xl10, xs0, xs1, xs2, xs3, xs4, xs5, xs6, xs7, xs8, xs9, xs10, xi0, xi1, xi2, xi3, xi4, xi5, xi6, xi7, xi8, xi9, xi10, xc0, xc1, xc2, xc3, xc4, xc5, xc6, xc7, xv1, xv2, xv3, xv4, xv5, xv6, xv7, dT_le, dF_le, dT_lt, dF_lt, trk]
    · rw [if_neg h4, if_neg h3]
      refine ⟨?_, by decide⟩
      unfold f_X12_markOf
      refine qa_fn_eq ?_ (by simp)
      simp (disch := omega) [ev_X12_markOf_0, ev_X12_markOf_1, ev_X12_markOf_2, ev_X12_markOf_3, B_X12_markOf_0, B_X12_markOf_1, B_X12_markOf_2, B_X12_markOf_3, x_const, x_iadd, x_isub, x_imul, x_idiv, x_irem, x_ineg, x_dup, x_dup_x1, x_dup2, x_pop, x_goto, x_ifeq, x_ifne, x_iflt, x_ifge, x_ifgt, x_ifle, x_cmpeq, x_cmpne, x_cmplt, x_cmpge, x_cmpgt, x_cmple, x_null, x_nonnull, x_acmpeq, x_acmpne, x_get, x_put, x_putz, x_ald, x_ast, x_bast, x_zast, x_aast, x_alen, x_obj, x_ret, x_retz, x_vret, x_max, x_min, x_copy, x_i2l, qg_none, qg_inl, qg_inr, qg_ite, xr1, xr0, xrE, xri, xl0, xl1, xl2, xl3, xl4, xl5, xl6, xl7, xl8, xl9, xl10, xs0, xs1, xs2, xs3, xs4, xs5, xs6, xs7, xs8, xs9, xs10, xi0, xi1, xi2, xi3, xi4, xi5, xi6, xi7, xi8, xi9, xi10, xc0, xc1, xc2, xc3, xc4, xc5, xc6, xc7, xv1, xv2, xv3, xv4, xv5, xv6, xv7, dT_le, dF_le, dT_lt, dF_lt, dF_eq, trk, h3, h4]
