def tNr (v r : Int) : Prop := (v = r ∧ 0 ≤ v ∧ v ≤ 999) ∨ (v = 1000 ∧ 1000 ≤ r)
theorem tNr_f (T : Int → Int) : ∀ (q : Nat) (p v r : Int), tNr v r → (∀ i, p ≤ i → i < p + q → 48 ≤ T i ∧ T i ≤ 57) → tNr (tnf T q p v) (trf T q p r) := by
  intro q
  induction q with
  | zero => intro p v r h _; exact h
  | succ q ih =>
    intro p v r h hd
    have d := hd p (by omega) (by omega)
    simp only [tnf, trf]
    refine ih (p + 1) _ _ ?_ (fun i a b => hd i (by omega) (by omega))
    unfold tNr at h ⊢
    rcases h with ⟨h1, h2, h3⟩ | ⟨h1, h2⟩
    · subst h1
      rw [if_neg (show ¬ (10000 : Int) < v by omega)]
      split
      · left; omega
      · right; omega
    · subst h1
      rw [if_neg (by omega)]
      right
      refine ⟨rfl, ?_⟩
      split <;> omega
theorem tNr_a {T : Int → Int} {n a : Int} (ha : 0 ≤ a ∧ a ≤ n) (h : tKi T n a = 2) : tNr (tNm T n a) (tRm T n a) := by
  have hb := tBe_b T ha.2
  unfold tNm tRm
  rw [if_pos h]
  exact tNr_f T _ _ 0 0 (Or.inl ⟨rfl, by decide, by decide⟩) (fun i h1 h2 => by
    obtain ⟨d1, d2, -⟩ := tDig ha h (p := i) h1 (by omega)
    exact ⟨d1, d2⟩)
theorem tNr_le {v r : Int} (h : tNr v r) {lo hi : Int} (hh : hi ≤ 99) : ((lo ≤ r ∧ r ≤ hi) ↔ ¬ (v < lo ∨ hi < v)) ∧ (v ≤ 99 → r = v) ∧ 0 ≤ v ∧ 0 ≤ r := by
  unfold tNr at h
  omega
def tWbs : List Int := [97, 112, 112, 101, 110, 100, 32, 106, 111, 105, 110, 32, 114, 101, 97, 100, 32, 112, 114, 111, 109, 105, 115, 101, 32, 109, 111, 118, 101, 32, 108, 101, 97, 118, 101, 32, 102, 111, 114, 107, 32, 109, 101, 114, 103, 101, 32, 100, 114, 111, 112, 32, 116, 105, 99, 107, 115, 32, 101, 110, 100, 32]
def tOf (k : Int) : Int := if k = 0 then 0 else if k = 1 then 7 else if k = 2 then 12 else if k = 3 then 17 else if k = 4 then 25 else if k = 5 then 30 else if k = 6 then 36 else if k = 7 then 41 else if k = 8 then 47 else if k = 9 then 52 else if k = 10 then 58 else 62
def MWo (m : Int → Int → Int) : Prop := ∀ i, 0 ≤ i → i < 62 → m 88 i = tWbs.getD i.toNat 0
theorem tWl_b {k : Int} (h : 0 ≤ k ∧ k ≤ 10) : 0 ≤ tOf k ∧ tOf k + (tWl k).length + 1 = tOf (k + 1) ∧ tOf (k + 1) ≤ 62 ∧ 3 ≤ (tWl k).length ∧ (tWl k).length ≤ 7 ∧ (k ≤ 9 → 4 ≤ (tWl k).length) ∧ tWbs.getD (tOf k + ((tWl k).length : Int)).toNat 0 = 32 ∧ ∀ j : Nat, j < (tWl k).length → tWbs.getD (tOf k + (j : Int)).toNat 0 = (tWl k).getD j 0 ∧ 97 ≤ (tWl k).getD j 0 ∧ (tWl k).getD j 0 ≤ 122 := by
  have : k = 0 ∨ k = 1 ∨ k = 2 ∨ k = 3 ∨ k = 4 ∨ k = 5 ∨ k = 6 ∨ k = 7 ∨ k = 8 ∨ k = 9 ∨ k = 10 := by omega
  rcases this with rfl | rfl | rfl | rfl | rfl | rfl | rfl | rfl | rfl | rfl | rfl <;> decide +kernel
theorem m_wordS {kd : Int → Nat × Int} {w : Nat × Nat × Nat} {m : Int → Int → Int} {o k j is x y s be : Int} (k77 : kd 77 = (15, 0)) (k87 : kd 87 = (102, 700)) (k88 : kd 88 = (102, 62)) (r15 : m 77 15 = 87) (r23 : m 77 23 = 88) (l17 : m 77 17 = be) (l18 : m 77 18 = s) (hx : m 88 (o + j) = x) (hxn : x ≠ 32) (ho : 0 ≤ o + j ∧ o + j < 62) (hoo : 0 ≤ o ∧ o ≤ 62 ∧ 0 ≤ j ∧ j ≤ 62) (hs : 0 ≤ s ∧ s ≤ be ∧ be ≤ 700) (hy : s + j < be → m 87 (s + j) = y) (his : is = 0 ∨ is = 1) : qa_ev P_X12_wordHere 2 [(1, 77), (0, o), (0, k), (0, j), (0, is)] [] (m, kd, w) = qa_ev P_X12_wordHere 2 [(1, 77), (0, o), (0, k), (0, j + 1), (0, if is = 1 ∧ s + j < be ∧ y = x then 1 else 0)] [] (m, kd, w) := by
  rw [ev_X12_wordHere_2]
  rcases his with rfl | rfl
  · simp (disch := omega) [ev_X12_wordHere_0, ev_X12_wordHere_3, ev_X12_wordHere_4, ev_X12_wordHere_5, ev_X12_wordHere_6, ev_X12_wordHere_7, ev_X12_wordHere_8, B_X12_wordHere_0, B_X12_wordHere_1, B_X12_wordHere_2, B_X12_wordHere_3, B_X12_wordHere_4, B_X12_wordHere_5, B_X12_wordHere_6, B_X12_wordHere_7, B_X12_wordHere_8, x_const, x_iadd, x_isub, x_imul, x_idiv, x_irem, x_ineg, x_dup, x_dup_x1, x_dup2, x_pop, x_goto, x_ifeq, x_ifne, x_iflt, x_ifge, x_ifgt, x_ifle, x_cmpeq, x_cmpne, x_cmplt, x_cmpge, x_cmpgt, x_cmple, x_null, x_nonnull, x_acmpeq, x_acmpne, x_get, x_put, x_putz, x_ald, x_ast, x_bast, x_zast, x_aast, x_alen, x_obj, x_ret, x_retz, x_vret, x_max, x_min, x_copy, x_i2l, qg_none, qg_inl, qg_inr, qg_ite, xr1, xr0, xrE, xri, xl0, xl1, xl2, xl3, xl4, xl5, xl6, xl7, xl8, xl9, xl10, xs0, xs1, xs2, xs3, xs4, xs5, xs6, xs7, xs8, xs9, xs10, xi0, xi1, xi2, xi3, xi4, xi5, xi6, xi7, xi8, xi9, xi10, xc0, xc1, xc2, xc3, xc4, xc5, xc6, xc7, xv1, xv2, xv3, xv4, xv5, xv6, xv7, dT_le, dF_le, dT_lt, dF_lt, dF_eq, k77, k88, r23, hx, hxn]
  · by_cases c1 : s + j < be
    · have hy' := hy c1
      by_cases c2 : y = x
      · rw [if_pos ⟨rfl, c1, c2⟩]
        simp (disch := omega) [ev_X12_wordHere_0, ev_X12_wordHere_3, ev_X12_wordHere_4, ev_X12_wordHere_5, ev_X12_wordHere_6, ev_X12_wordHere_7, ev_X12_wordHere_8, B_X12_wordHere_0, B_X12_wordHere_1, B_X12_wordHere_2, B_X12_wordHere_3, B_X12_wordHere_4, B_X12_wordHere_5, B_X12_wordHere_6, B_X12_wordHere_7, B_X12_wordHere_8, x_const, x_iadd, x_isub, x_imul, x_idiv, x_irem, x_ineg, x_dup, x_dup_x1, x_dup2, x_pop, x_goto, x_ifeq, x_ifne, x_iflt, x_ifge, x_ifgt, x_ifle, x_cmpeq, x_cmpne, x_cmplt, x_cmpge, x_cmpgt, x_cmple, x_null, x_nonnull, x_acmpeq, x_acmpne, x_get, x_put, x_putz, x_ald, x_ast, x_bast, x_zast, x_aast, x_alen, x_obj, x_ret, x_retz, x_vret, x_max, x_min, x_copy, x_i2l, qg_none, qg_inl, qg_inr, qg_ite, xr1, xr0, xrE, xri, xl0, xl1, xl2, xl3, xl4, xl5, xl6, xl7, xl8, xl9, xl10, xs0, xs1, xs2, xs3, xs4, xs5, xs6, xs7, xs8, xs9, xs10, xi0, xi1, xi2, xi3, xi4, xi5, xi6, xi7, xi8, xi9, xi10, xc0, xc1, xc2, xc3, xc4, xc5, xc6, xc7, xv1, xv2, xv3, xv4, xv5, xv6, xv7, dT_le, dF_le, dT_lt, dF_lt, dF_eq, k77, k87, k88, r23, r15, l17, l18, hx, hxn, hy', c2]
      · rw [if_neg (fun z => c2 z.2.2)]
        simp (disch := omega) [ev_X12_wordHere_0, ev_X12_wordHere_3, ev_X12_wordHere_4, ev_X12_wordHere_5, ev_X12_wordHere_6, ev_X12_wordHere_7, ev_X12_wordHere_8, B_X12_wordHere_0, B_X12_wordHere_1, B_X12_wordHere_2, B_X12_wordHere_3, B_X12_wordHere_4, B_X12_wordHere_5, B_X12_wordHere_6, B_X12_wordHere_7, B_X12_wordHere_8, x_const, x_iadd, x_isub, x_imul, x_idiv, x_irem, x_ineg, x_dup, x_dup_x1, x_dup2, x_pop, x_goto, x_ifeq, x_ifne, x_iflt, x_ifge, x_ifgt, x_ifle, x_cmpeq, x_cmpne, x_cmplt, x_cmpge, x_cmpgt, x_cmple, x_null, x_nonnull, x_acmpeq, x_acmpne, x_get, x_put, x_putz, x_ald, x_ast, x_bast, x_zast, x_aast, x_alen, x_obj, x_ret, x_retz, x_vret, x_max, x_min, x_copy, x_i2l, qg_none, qg_inl, qg_inr, qg_ite, xr1, xr0, xrE, xri, xl0, xl1, xl2, xl3, xl4, xl5, xl6, xl7, xl8, xl9, xl10, xs0, xs1, xs2, xs3, xs4, xs5, xs6, xs7, xs8, xs9, xs10, xi0, xi1, xi2, xi3, xi4, xi5, xi6, xi7, xi8, xi9, xi10, xc0, xc1, xc2, xc3, xc4, xc5, xc6, xc7, xv1, xv2, xv3, xv4, xv5, xv6, xv7, dT_le, dF_le, dT_lt, dF_lt, dF_eq, k77, k87, k88, r23, r15, l17, l18, hx, hxn, hy', c2]
    · rw [if_neg (fun z => c1 z.2.1)]
      simp (disch := omega) [ev_X12_wordHere_0, ev_X12_wordHere_3, ev_X12_wordHere_4, ev_X12_wordHere_5, ev_X12_wordHere_6, ev_X12_wordHere_7, ev_X12_wordHere_8, B_X12_wordHere_0, B_X12_wordHere_1, B_X12_wordHere_2, B_X12_wordHere_3, B_X12_wordHere_4, B_X12_wordHere_5, B_X12_wordHere_6, B_X12_wordHere_7, B_X12_wordHere_8, x_const, x_iadd, x_isub, x_imul, x_idiv, x_irem, x_ineg, x_dup, x_dup_x1, x_dup2, x_pop, x_goto, x_ifeq, x_ifne, x_iflt, x_ifge, x_ifgt, x_ifle, x_cmpeq, x_cmpne, x_cmplt, x_cmpge, x_cmpgt, x_cmple, x_null, x_nonnull, x_acmpeq, x_acmpne, x_get, x_put, x_putz, x_ald, x_ast, x_bast, x_zast, x_aast, x_alen, x_obj, x_ret, x_retz, x_vret, x_max, x_min, x_copy, x_i2l, qg_none, qg_inl, qg_inr, qg_ite, xr1, xr0, xrE, xri, xl0, xl1, xl2, xl3, xl4, xl5, xl6, xl7, xl8, xl9, xl10, xs0, xs1, xs2, xs3, xs4, xs5, xs6, xs7, xs8, xs9, xs10, xi0, xi1, xi2, xi3, xi4, xi5, xi6, xi7, xi8, xi9, xi10, xc0, xc1, xc2, xc3, xc4, xc5, xc6, xc7, xv1, xv2, xv3, xv4, xv5, xv6, xv7, dT_le, dF_le, dT_lt, dF_lt, dF_eq, k77, k88, r23, l17, l18, hx, hxn]
theorem m_wordE {kd : Int → Nat × Int} {w : Nat × Nat × Nat} {m : Int → Int → Int} {o k L is s be : Int} (k77 : kd 77 = (15, 0)) (k88 : kd 88 = (102, 62)) (r23 : m 77 23 = 88) (l17 : m 77 17 = be) (l18 : m 77 18 = s) (hx : m 88 (o + L) = 32) (ho : 0 ≤ o + L ∧ o + L < 62) (hoo : 0 ≤ o ∧ o ≤ 62 ∧ 0 ≤ L ∧ L ≤ 62) (hk : 0 ≤ k ∧ k ≤ 11) (hs : 0 ≤ s ∧ s ≤ be ∧ be ≤ 700) (his : is = 0 ∨ is = 1) : qa_ev P_X12_wordHere 2 [(1, 77), (0, o), (0, k), (0, L), (0, is)] [] (m, kd, w) = if is = 1 ∧ be - s = L then some (.inl (some (0, k)), (m, kd, w)) else qa_ev P_X12_wordHere 1 [(1, 77), (0, o + (L + 1)), (0, k + 1), (0, L), (0, is)] [] (m, kd, w) := by
  rw [ev_X12_wordHere_2]
  rcases his with rfl | rfl
  · rw [if_neg (by omega)]
    simp (disch := omega) [ev_X12_wordHere_0, ev_X12_wordHere_3, ev_X12_wordHere_4, ev_X12_wordHere_5, ev_X12_wordHere_6, ev_X12_wordHere_7, ev_X12_wordHere_8, B_X12_wordHere_0, B_X12_wordHere_1, B_X12_wordHere_2, B_X12_wordHere_3, B_X12_wordHere_4, B_X12_wordHere_5, B_X12_wordHere_6, B_X12_wordHere_7, B_X12_wordHere_8, x_const, x_iadd, x_isub, x_imul, x_idiv, x_irem, x_ineg, x_dup, x_dup_x1, x_dup2, x_pop, x_goto, x_ifeq, x_ifne, x_iflt, x_ifge, x_ifgt, x_ifle, x_cmpeq, x_cmpne, x_cmplt, x_cmpge, x_cmpgt, x_cmple, x_null, x_nonnull, x_acmpeq, x_acmpne, x_get, x_put, x_putz, x_ald, x_ast, x_bast, x_zast, x_aast, x_alen, x_obj, x_ret, x_retz, x_vret, x_max, x_min, x_copy, x_i2l, qg_none, qg_inl, qg_inr, qg_ite, xr1, xr0, xrE, xri, xl0, xl1, xl2, xl3, xl4, xl5, xl6, xl7, xl8, xl9, xl10, xs0, xs1, xs2, xs3, xs4, xs5, xs6, xs7, xs8, xs9, xs10, xi0, xi1, xi2, xi3, xi4, xi5, xi6, xi7, xi8, xi9, xi10, xc0, xc1, xc2, xc3, xc4, xc5, xc6, xc7, xv1, xv2, xv3, xv4, xv5, xv6, xv7, dT_le, dF_le, dT_lt, dF_lt, k77, k88, r23, hx]
  · by_cases c2 : be - s = L
    · rw [if_pos ⟨rfl, c2⟩]
      simp (disch := omega) [ev_X12_wordHere_0, ev_X12_wordHere_3, ev_X12_wordHere_4, ev_X12_wordHere_5, ev_X12_wordHere_6, ev_X12_wordHere_7, ev_X12_wordHere_8, B_X12_wordHere_0, B_X12_wordHere_1, B_X12_wordHere_2, B_X12_wordHere_3, B_X12_wordHere_4, B_X12_wordHere_5, B_X12_wordHere_6, B_X12_wordHere_7, B_X12_wordHere_8, x_const, x_iadd, x_isub, x_imul, x_idiv, x_irem, x_ineg, x_dup, x_dup_x1, x_dup2, x_pop, x_goto, x_ifeq, x_ifne, x_iflt, x_ifge, x_ifgt, x_ifle, x_cmpeq, x_cmpne, x_cmplt, x_cmpge, x_cmpgt, x_cmple, x_null, x_nonnull, x_acmpeq, x_acmpne, x_get, x_put, x_putz, x_ald, x_ast, x_bast, x_zast, x_aast, x_alen, x_obj, x_ret, x_retz, x_vret, x_max, x_min, x_copy, x_i2l, qg_none, qg_inl, qg_inr, qg_ite, xr1, xr0, xrE, xri, xl0, xl1, xl2, xl3, xl4, xl5, xl6, xl7, xl8, xl9, xl10, xs0, xs1, xs2, xs3, xs4, xs5, xs6, xs7, xs8, xs9, xs10, xi0, xi1, xi2, xi3, xi4, xi5, xi6, xi7, xi8, xi9, xi10, xc0, xc1, xc2, xc3, xc4, xc5, xc6, xc7, xv1, xv2, xv3, xv4, xv5, xv6, xv7, dT_le, dF_le, dT_lt, dF_lt, k77, k88, r23, hx, l17, l18, c2]
    · rw [if_neg (fun z => c2 z.2)]
      simp (disch := omega) [ev_X12_wordHere_0, ev_X12_wordHere_3, ev_X12_wordHere_4, ev_X12_wordHere_5, ev_X12_wordHere_6, ev_X12_wordHere_7, ev_X12_wordHere_8, B_X12_wordHere_0, B_X12_wordHere_1, B_X12_wordHere_2, B_X12_wordHere_3, B_X12_wordHere_4, B_X12_wordHere_5, B_X12_wordHere_6, B_X12_wordHere_7, B_X12_wordHere_8, x_const, x_iadd, x_isub, x_imul, x_idiv, x_irem, x_ineg, x_dup, x_dup_x1, x_dup2, x_pop, x_goto, x_ifeq, x_ifne, x_iflt, x_ifge, x_ifgt, x_ifle, x_cmpeq, x_cmpne, x_cmplt, x_cmpge, x_cmpgt, x_cmple, x_null, x_nonnull, x_acmpeq, x_acmpne, x_get, x_put, x_putz, x_ald, x_ast, x_bast, x_zast, x_aast, x_alen, x_obj, x_ret, x_retz, x_vret, x_max, x_min, x_copy, x_i2l, qg_none, qg_inl, qg_inr, qg_ite, xr1, xr0, xrE, xri, xl0, xl1, xl2, xl3, xl4, xl5, xl6, xl7, xl8, xl9, xl10, xs0, xs1, xs2, xs3, xs4, xs5, xs6, xs7, xs8, xs9, xs10, xi0, xi1, xi2, xi3, xi4, xi5, xi6, xi7, xi8, xi9, xi10, xc0, xc1, xc2, xc3, xc4, xc5, xc6, xc7, xv1, xv2, xv3, xv4, xv5, xv6, xv7, dT_le, dF_le, dT_lt, dF_lt, dF_eq, k77, k88, r23, hx, l17, l18, c2]
theorem m_word1 {kd : Int → Nat × Int} {w : Nat × Nat × Nat} {m : Int → Int → Int} {o k : Int} (k77 : kd 77 = (15, 0)) (e19 : m 77 19 = 1) (hk : k < 11) (l3 l4 : qV) : qa_ev P_X12_wordHere 1 [(1, 77), (0, o), (0, k), l3, l4] [] (m, kd, w) = qa_ev P_X12_wordHere 2 [(1, 77), (0, o), (0, k), (0, 0), (0, 1)] [] (m, kd, w) := by
  rw [ev_X12_wordHere_1]
  simp (disch := omega) [ev_X12_wordHere_0, ev_X12_wordHere_3, ev_X12_wordHere_4, ev_X12_wordHere_5, ev_X12_wordHere_6, ev_X12_wordHere_7, ev_X12_wordHere_8, B_X12_wordHere_0, B_X12_wordHere_1, B_X12_wordHere_2, B_X12_wordHere_3, B_X12_wordHere_4, B_X12_wordHere_5, B_X12_wordHere_6, B_X12_wordHere_7, B_X12_wordHere_8, x_const, x_iadd, x_isub, x_imul, x_idiv, x_irem, x_ineg, x_dup, x_dup_x1, x_dup2, x_pop, x_goto, x_ifeq, x_ifne, x_iflt, x_ifge, x_ifgt, x_ifle, x_cmpeq, x_cmpne, x_cmplt, x_cmpge, x_cmpgt, x_cmple, x_null, x_nonnull, x_acmpeq, x_acmpne, x_get, x_put, x_putz, x_ald, x_ast, x_bast, x_zast, x_aast, x_alen, x_obj, x_ret, x_retz, x_vret, x_max, x_min, x_copy, x_i2l, qg_none, qg_inl, qg_inr, qg_ite, xr1, xr0, xrE, xri, xl0, xl1, xl2, xl3, xl4, xl5, xl6, xl7, xl8, xl9, xl10, xs0, xs1, xs2, xs3, xs4, xs5, xs6, xs7, xs8, xs9, xs10, xi0, xi1, xi2, xi3, xi4, xi5, xi6, xi7, xi8, xi9, xi10, xc0, xc1, xc2, xc3, xc4, xc5, xc6, xc7, xv1, xv2, xv3, xv4, xv5, xv6, xv7, dT_le, dF_le, dT_lt, dF_lt, k77, e19]
theorem m_word0 {kd : Int → Nat × Int} {w : Nat × Nat × Nat} {m : Int → Int → Int} {o k t : Int} (k77 : kd 77 = (15, 0)) (e19 : m 77 19 = t) (hk : t ≠ 1 ∨ 11 ≤ k) (l3 l4 : qV) : qa_ev P_X12_wordHere 1 [(1, 77), (0, o), (0, k), l3, l4] [] (m, kd, w) = some (.inl (some (0, -1)), (m, kd, w)) := by
  rw [ev_X12_wordHere_1]
  by_cases c : t = 1
  · subst c
    simp (disch := omega) [ev_X12_wordHere_0, ev_X12_wordHere_3, ev_X12_wordHere_4, ev_X12_wordHere_5, ev_X12_wordHere_6, ev_X12_wordHere_7, ev_X12_wordHere_8, B_X12_wordHere_0, B_X12_wordHere_1, B_X12_wordHere_2, B_X12_wordHere_3, B_X12_wordHere_4, B_X12_wordHere_5, B_X12_wordHere_6, B_X12_wordHere_7, B_X12_wordHere_8, x_const, x_iadd, x_isub, x_imul, x_idiv, x_irem, x_ineg, x_dup, x_dup_x1, x_dup2, x_pop, x_goto, x_ifeq, x_ifne, x_iflt, x_ifge, x_ifgt, x_ifle, x_cmpeq, x_cmpne, x_cmplt, x_cmpge, x_cmpgt, x_cmple, x_null, x_nonnull, x_acmpeq, x_acmpne, x_get, x_put, x_putz, x_ald, x_ast, x_bast, x_zast, x_aast, x_alen, x_obj, x_ret, x_retz, x_vret, x_max, x_min, x_copy, x_i2l, qg_none, qg_inl, qg_inr, qg_ite, xr1, xr0, xrE, xri, xl0, xl1, xl2, xl3, xl4, xl5, xl6, xl7, xl8, xl9, xl10, xs0, xs1, xs2, xs3, xs4, xs5, xs6, xs7, xs8, xs9, xs10, xi0, xi1, xi2, xi3, xi4, xi5, xi6, xi7, xi8, xi9, xi10, xc0, xc1, xc2, xc3, xc4, xc5, xc6, xc7, xv1, xv2, xv3, xv4, xv5, xv6, xv7, dT_le, dF_le, dT_lt, dF_lt, k77, e19]
  · simp (disch := omega) [ev_X12_wordHere_0, ev_X12_wordHere_3, ev_X12_wordHere_4, ev_X12_wordHere_5, ev_X12_wordHere_6, ev_X12_wordHere_7, ev_X12_wordHere_8, B_X12_wordHere_0, B_X12_wordHere_1, B_X12_wordHere_2, B_X12_wordHere_3, B_X12_wordHere_4, B_X12_wordHere_5, B_X12_wordHere_6, B_X12_wordHere_7, B_X12_wordHere_8, x_const, x_iadd, x_isub, x_imul, x_idiv, x_irem, x_ineg, x_dup, x_dup_x1, x_dup2, x_pop, x_goto, x_ifeq, x_ifne, x_iflt, x_ifge, x_ifgt, x_ifle, x_cmpeq, x_cmpne, x_cmplt, x_cmpge, x_cmpgt, x_cmple, x_null, x_nonnull, x_acmpeq, x_acmpne, x_get, x_put, x_putz, x_ald, x_ast, x_bast, x_zast, x_aast, x_alen, x_obj, x_ret, x_retz, x_vret, x_max, x_min, x_copy, x_i2l, qg_none, qg_inl, qg_inr, qg_ite, xr1, xr0, xrE, xri, xl0, xl1, xl2, xl3, xl4, xl5, xl6, xl7, xl8, xl9, xl10, xs0, xs1, xs2, xs3, xs4, xs5, xs6, xs7, xs8, xs9, xs10, xi0, xi1, xi2, xi3, xi4, xi5, xi6, xi7, xi8, xi9, xi10, xc0, xc1, xc2, xc3, xc4, xc5, xc6, xc7, xv1, xv2, xv3, xv4, xv5, xv6, xv7, dT_le, dF_le, dT_lt, dF_lt, dF_eq, k77, e19, c]
theorem m_wordHere {m : Int → Int → Int} {kd : Int → Nat × Int} {w : Nat × Nat × Nat} (hK : KM kd) (hR : RM m) {T : Int → Int} {n a : Int} (hT : MTx T n m) (hW : MWo m) (hL : MLx T n a m) (ha : 0 ≤ a ∧ a ≤ n) : f_X12_wordHere [(1, 77)] (m, kd, w) = some (.inl (some (0, tvf T n a 11 0)), (m, kd, w)) := by
  obtain ⟨l17, l18, l19, l20⟩ := hL
  have k77 := hK.1
  have k87 := hK.2.2.2.2.2.2.2.2.2.2.1
  have k88 := hK.2.2.2.2.2.2.2.2.2.2.2.1
  have r15 : m 77 15 = 87 := hR.2.2.2.2.2.2.2.2.2.1
  have r23 : m 77 23 = 88 := hR.2.2.2.2.2.2.2.2.2.2.1
  have hbe := tBe_b T ha.2
  have hsb := tSt_b T ha.2
  obtain ⟨h16, hn, h8, ht⟩ := hT
  have inner : ∀ (k : Int), 0 ≤ k → k ≤ 10 → ∀ (q : Nat) (j is : Int), 0 ≤ j → j + q = ((tWl k).length : Int) → (is = 0 ∨ is = 1) → ∃ is', qa_ev P_X12_wordHere 2 [(1, 77), (0, tOf k), (0, k), (0, j), (0, is)] [] (m, kd, w) = qa_ev P_X12_wordHere 2 [(1, 77), (0, tOf k), (0, k), (0, ((tWl k).length : Int)), (0, is')] [] (m, kd, w) ∧ (is' = 0 ∨ is' = 1) ∧ (tBe T n a - tSt T n a = ((tWl k).length : Int) → is' = if is = 1 then tmf T n (tSt T n a) (tWl k) q j else 0) := by
    intro k hk0 hk10 q
    obtain ⟨b1, b2, b3, b4, b5, b6, b7, b8⟩ := tWl_b ⟨hk0, hk10⟩
    induction q with
    | zero =>
      intro j is h1 h2 h3
      have ej : j = ((tWl k).length : Int) := by omega
      rw [ej]
      refine ⟨is, rfl, h3, fun _ => ?_⟩
      rcases h3 with rfl | rfl <;> simp [tmf]
    | succ q ih =>
      intro j is h1 h2 h3
      obtain ⟨c1, c2, c3⟩ := b8 j.toNat (by omega)
      have ej : ((j.toNat : Nat) : Int) = j := by omega
      rw [ej] at c1
      have hx := hW (tOf k + j) (by omega) (by omega)
      rw [c1] at hx
      have st := m_wordS (k := k) (is := is) (y := m 87 (tSt T n a + j)) (w := w) k77 k87 k88 r15 r23 l17 l18 hx (by omega) ⟨by omega, by omega⟩ ⟨by omega, by omega, h1, by omega⟩ ⟨by omega, by omega, by omega⟩ (fun _ => rfl) h3
      obtain ⟨is', g1, g2, g3⟩ := ih (j + 1) (if is = 1 ∧ tSt T n a + j < tBe T n a ∧ m 87 (tSt T n a + j) = (tWl k).getD j.toNat 0 then 1 else 0) (by omega) (by omega) (by split <;> simp)
      refine ⟨is', st.trans g1, g2, fun hl => ?_⟩
      rw [g3 hl]
      have hin : tSt T n a + j < tBe T n a := by omega
      obtain ⟨t1, t2, t3⟩ := ht (tSt T n a + j) (by omega) (by omega)
      have hbt : tbt T n (tSt T n a + j) = T (tSt T n a + j) := if_pos ⟨by omega, by omega⟩
      have hiff : (m 87 (tSt T n a + j) = (tWl k).getD j.toNat 0) ↔ (tbt T n (tSt T n a + j) = (tWl k).getD j.toNat 0) := by
        rw [hbt, ← t1]
        omega
      rcases h3 with rfl | rfl
      · simp
      · have e : tmf T n (tSt T n a) (tWl k) (q + 1) j = if tbt T n (tSt T n a + j) = (tWl k).getD j.toNat 0 then tmf T n (tSt T n a) (tWl k) q (j + 1) else 0 := rfl
        rw [e]
        by_cases hc : tbt T n (tSt T n a + j) = (tWl k).getD j.toNat 0
        · rw [if_pos hc, if_pos (show (1 : Int) = 1 ∧ _ ∧ _ from ⟨rfl, hin, hiff.mpr hc⟩)]
        · rw [if_neg hc, if_neg (show ¬ ((1 : Int) = 1 ∧ _ ∧ _) from fun z => hc (hiff.mp z.2.2))]
          simp
  by_cases hk1 : tKi T n a = 1
  · have e19 : m 77 19 = 1 := by rw [l19, hk1]; rfl
    have outer : ∀ (q : Nat) (k : Int) (l3 l4 : qV), 0 ≤ k → k + q = 11 → qa_ev P_X12_wordHere 1 [(1, 77), (0, tOf k), (0, k), l3, l4] [] (m, kd, w) = some (.inl (some (0, tvf T n a q k)), (m, kd, w)) := by
      intro q
      induction q with
      | zero =>
        intro k l3 l4 h1 h2
        exact m_word0 k77 e19 (Or.inr (by omega)) l3 l4
      | succ q ih =>
        intro k l3 l4 h1 h2
        obtain ⟨b1, b2, b3, b4, b5, b6, b7, b8⟩ := tWl_b (k := k) ⟨h1, by omega⟩
        obtain ⟨is', g1, g2, g3⟩ := inner k h1 (by omega) (tWl k).length 0 1 (by decide) (by omega) (Or.inr rfl)
        have hx := hW (tOf k + ((tWl k).length : Int)) (by omega) (by omega)
        rw [b7] at hx
        have ih' := fun l3 l4 => ih (k + 1) l3 l4 (by omega) (by omega)
        rw [← b2, Int.add_assoc] at ih'
        generalize hL : ((tWl k).length : Int) = L at g1 g3 hx ih' b2 b4 b5
        have E6 := m_wordE (w := w) (is := is') k77 k88 r23 l17 l18 hx ⟨by omega, by omega⟩ ⟨by omega, by omega, by omega, by omega⟩ ⟨h1, by omega⟩ ⟨by omega, by omega, by omega⟩ g2
        rw [ih'] at E6
        have key : tvf T n a (q + 1) k = if is' = 1 ∧ tBe T n a - tSt T n a = L then k else tvf T n a q (k + 1) := by
          show (if tIs T n a (tWl k) = 1 then k else tvf T n a q (k + 1)) = _
          by_cases c2 : tBe T n a - tSt T n a = L
          · have e := g3 c2
            rw [if_pos rfl] at e
            have e2 : tIs T n a (tWl k) = is' := by
              unfold tIs
              rw [if_pos ⟨hk1, by rw [hL]; exact c2⟩, e]
            rw [e2]
            by_cases c3 : is' = 1
            · rw [if_pos c3, if_pos ⟨c3, c2⟩]
            · rw [if_neg c3, if_neg (fun z => c3 z.1)]
          · have e2 : tIs T n a (tWl k) = 0 := by
              unfold tIs
              rw [if_neg (fun z => c2 (by rw [← hL]; exact z.2))]
            rw [e2, if_neg (by decide), if_neg (fun z => c2 z.2)]
        rw [key]
        rw [E6] at g1
        have g1' := m_word1 (w := w) (o := tOf k) k77 e19 (show k < 11 by omega) l3 l4
        rw [g1', g1]
        split <;> rfl
    have o0 := fun l3 l4 => outer 11 0 l3 l4 (by decide) (by decide)
    have eo : tOf 0 = 0 := rfl
    rw [eo] at o0
    unfold f_X12_wordHere
    refine qa_fn_eq ?_ (by simp)
    simp (disch := omega) [ev_X12_wordHere_0, ev_X12_wordHere_3, ev_X12_wordHere_4, ev_X12_wordHere_5, ev_X12_wordHere_6, ev_X12_wordHere_7, ev_X12_wordHere_8, B_X12_wordHere_0, B_X12_wordHere_1, B_X12_wordHere_2, B_X12_wordHere_3, B_X12_wordHere_4, B_X12_wordHere_5, B_X12_wordHere_6, B_X12_wordHere_7, B_X12_wordHere_8, x_const, x_iadd, x_isub, x_imul, x_idiv, x_irem, x_ineg, x_dup, x_dup_x1, x_dup2, x_pop, x_goto, x_ifeq, x_ifne, x_iflt, x_ifge, x_ifgt, x_ifle, x_cmpeq, x_cmpne, x_cmplt, x_cmpge, x_cmpgt, x_cmple, x_null, x_nonnull, x_acmpeq, x_acmpne, x_get, x_put, x_putz, x_ald, x_ast, x_bast, x_zast, x_aast, x_alen, x_obj, x_ret, x_retz, x_vret, x_max, x_min, x_copy, x_i2l, qg_none, qg_inl, qg_inr, qg_ite, xr1, xr0, xrE, xri, xl0, xl1, xl2, xl3, xl4, xl5, xl6, xl7, xl8, xl9, xl10, xs0, xs1, xs2, xs3, xs4, xs5, xs6, xs7, xs8, xs9, xs10, xi0, xi1, xi2, xi3, xi4, xi5, xi6, xi7, xi8, xi9, xi10, xc0, xc1, xc2, xc3, xc4, xc5, xc6, xc7, xv1, xv2, xv3, xv4, xv5, xv6, xv7, dT_le, dF_le, dT_lt, dF_lt, o0]
  · have e0 : ∀ (q : Nat) (k : Int), tvf T n a q k = -1 := by
      intro q
      induction q with
      | zero => intro k; rfl
      | succ q ih =>
        intro k
        show (if tIs T n a (tWl k) = 1 then k else tvf T n a q (k + 1)) = -1
        have e2 : tIs T n a (tWl k) = 0 := by
          unfold tIs
          rw [if_neg (fun z => hk1 z.1)]
        rw [e2, if_neg (by decide)]
        exact ih _
    have hkb : ¬ trk (tKi T n a) = 1 := by
      unfold trk
      split
      · decide
      · split
        · decide
        · exact hk1
    rw [e0]
    unfold f_X12_wordHere
    refine qa_fn_eq ?_ (by simp)
    simp (disch := omega) [ev_X12_wordHere_0, ev_X12_wordHere_3, ev_X12_wordHere_4, ev_X12_wordHere_5, ev_X12_wordHere_6, ev_X12_wordHere_7, ev_X12_wordHere_8, B_X12_wordHere_0, B_X12_wordHere_1, B_X12_wordHere_2, B_X12_wordHere_3, B_X12_wordHere_4, B_X12_wordHere_5, B_X12_wordHere_6, B_X12_wordHere_7, B_X12_wordHere_8, x_const, x_iadd, x_isub, x_imul, x_idiv, x_irem, x_ineg, x_dup, x_dup_x1, x_dup2, x_pop, x_goto, x_ifeq, x_ifne, x_iflt, x_ifge, x_ifgt, x_ifle, x_cmpeq, x_cmpne, x_cmplt, x_cmpge, x_cmpgt, x_cmple, x_null, x_nonnull, x_acmpeq, x_acmpne, x_get, x_put, x_putz, x_ald, x_ast, x_bast, x_zast, x_aast, x_alen, x_obj, x_ret, x_retz, x_vret, x_max, x_min, x_copy, x_i2l, qg_none, qg_inl, qg_inr, qg_ite, xr1, xr0, xrE, xri, xl0, xl1, xl2, xl3, xl4, xl5, xl6, xl7, xl8, xl9, xl10, xs0, xs1, xs2, xs3, xs4, xs5, xs6, xs7, xs8, xs9, xs10, xi0, xi1, xi2, xi3, xi4, xi5, xi6, xi7, xi8, xi9, xi10, xc0, xc1, xc2, xc3, xc4, xc5, xc6, xc7, xv1, xv2, xv3, xv4, xv5, xv6, xv7, dT_le, dF_le, dT_lt, dF_lt, m_word0 k77 l19 (Or.inl hkb)]
theorem tIs_len {T : Int → Int} {n a : Int} {l : List Int} (h : tIs T n a l = 1) : tBe T n a - tSt T n a = (l.length : Int) := by
  unfold tIs at h
  split at h
  · rename_i hh; exact hh.2
  · omega
theorem tvf_11 (T : Int → Int) (n a : Int) : (tvf T n a 11 0 = 10 ↔ tIs T n a (tWl 10) = 1) ∧ (tVb T n a ≠ -1 → tvf T n a 11 0 = tVb T n a) ∧ (tVb T n a = -1 → tvf T n a 11 0 = -1 ∨ tvf T n a 11 0 = 10) := by
  have key : ∀ (q : Nat) (k : Int), (tvf T n a (q + 1) k = (if tvf T n a q k = -1 then (if tIs T n a (tWl (k + q)) = 1 then k + q else -1) else tvf T n a q k)) ∨ k < 0 := by
    intro q
    induction q with
    | zero =>
      intro k
      left
      have e1 : tvf T n a (0 + 1) k = if tIs T n a (tWl k) = 1 then k else -1 := rfl
      have e2 : tvf T n a 0 k = -1 := rfl
      rw [e1, e2, if_pos rfl, show k + ((0 : Nat) : Int) = k by omega]
    | succ q ih =>
      intro k
      by_cases hk : k < 0
      · exact Or.inr hk
      · left
        have i1 := (ih (k + 1)).resolve_right (by omega)
        have e1 : tvf T n a (q + 1 + 1) k = if tIs T n a (tWl k) = 1 then k else tvf T n a (q + 1) (k + 1) := rfl
        have e2 : tvf T n a (q + 1) k = if tIs T n a (tWl k) = 1 then k else tvf T n a q (k + 1) := rfl
        have ek : k + 1 + (q : Int) = k + ((q + 1 : Nat) : Int) := by omega
        rw [ek] at i1
        rw [e1, e2]
        by_cases c : tIs T n a (tWl k) = 1
        · rw [if_pos c, if_pos c, if_neg (by omega)]
        · rw [if_neg c, if_neg c]
          exact i1
  have k10 := (key 10 0).resolve_right (by decide)
  have e10 : (0 : Int) + ((10 : Nat) : Int) = 10 := by decide
  rw [e10] at k10
  have hv : tvf T n a 10 0 = tVb T n a := rfl
  rw [hv] at k10
  have hb := tvf_b T n a 10 0 (by decide)
  rw [hv] at hb
  refine ⟨?_, fun h => by rw [k10, if_neg h], fun h => ?_⟩
  · rw [k10]
    constructor
    · intro z
      split at z
      · split at z
        · assumption
        · omega
      · rename_i hne
        rcases hb with hb | ⟨h1, h2, h3⟩
        · exact absurd hb hne
        · omega
    · intro z
      have hl := tIs_len z
      have he : tVb T n a = -1 := by
        rcases hb with hb | ⟨h1, h2, h3⟩
        · exact hb
        · exfalso
          have hl2 := tIs_len h3
          have h4 := (tWl_b (k := tVb T n a) ⟨h1, by omega⟩).2.2.2.2.2.1 (by omega)
          have h5 : ((tWl 10).length : Int) = 3 := by decide
          omega
      rw [if_pos he, if_pos z]
  · rw [k10, if_pos h]
    split
    · exact Or.inr rfl
    · exact Or.inl rfl
