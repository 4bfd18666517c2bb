def QD (h p cn : Int) (sm : Int → Int) (en : Int → Int → Int) (m : Int → Int → Int) : Prop := m 77 14 = h + cn ∧ (h = 1 → m 86 0 = 1 ∧ ∀ j, 0 ≤ j → j ≤ 6 → m 86 (1 + j) = sm j) ∧ ∀ i, 0 ≤ i → i < cn → m 86 (8 * (h + i)) = 0 ∧ m 86 (8 * (h + i) + 1) = p + i ∧ m 86 (8 * (h + i) + 2) = en i 1 ∧ m 86 (8 * (h + i) + 3) = en i 2 ∧ m 86 (8 * (h + i) + 4) = en i 3 ∧ ∀ j, 5 ≤ j → j < 8 → m 86 (8 * (h + i) + j) = -1
def zdl (m : Int → Int → Int) (s k : Int) : Int → Int → Int := fun c i => if c = 86 ∧ 1 ≤ i ∧ i < 1 + k then m 79 (s + (i - 1)) else m c i
theorem zdl_no {m : Int → Int → Int} {s k c i : Int} (h : c ≠ 86 ∨ i < 1 ∨ 1 + k ≤ i) : zdl m s k c i = m c i := if_neg (by omega)
theorem zdl_y {m : Int → Int → Int} {s k j : Int} (h : 0 ≤ j ∧ j < k) : zdl m s k 86 (1 + j) = m 79 (s + j) := by
  unfold zdl
  rw [if_pos ⟨rfl, by omega, by omega⟩]
  congr 1
  omega
theorem zdl_0 {m : Int → Int → Int} {s : Int} : zdl m s 0 = m := by
  funext c i
  exact zdl_no (by omega)
theorem zdl_up {m : Int → Int → Int} {s k : Int} (hk : 0 ≤ k) : qa_up (zdl m s k) 86 (1 + k) (m 79 (s + k)) = zdl m s (k + 1) := by
  funext c i
  unfold qa_up zdl
  by_cases hc : c = 86
  · by_cases hi : i = 1 + k
    · rw [if_pos ⟨hc, hi⟩, if_pos ⟨hc, by omega, by omega⟩, hi, show 1 + k - 1 = k by omega]
    · rw [if_neg (fun z => hi z.2)]
      by_cases hh : 1 ≤ i ∧ i < 1 + k
      · rw [if_pos ⟨hc, hh⟩, if_pos ⟨hc, by omega, by omega⟩]
      · rw [if_neg (fun z => hh z.2), if_neg (by omega)]
  · rw [if_neg (fun z => hc z.1), if_neg (fun z => hc z.1), if_neg (fun z => hc z.1)]
theorem RM_7 {m m' : Int → Int → Int} (h : ∀ i, i ≠ 14 → m' 77 i = m 77 i) (hR : RM m) : RM m' := by
  unfold RM at hR ⊢
  rw [h 1 (by decide), h 2 (by decide), h 3 (by decide), h 4 (by decide), h 6 (by decide), h 7 (by decide), h 8 (by decide), h 12 (by decide), h 13 (by decide), h 15 (by decide), h 23 (by decide), h 25 (by decide), h 26 (by decide)]
  exact hR
theorem m_deliversDebt {m : Int → Int → Int} {kd : Int → Nat × Int} {w : Nat × Nat × Nat} (hK : KM kd) (hR : RM m) {r : Int} (hr : 0 ≤ r ∧ r < 6) (h0 : m 77 14 = 0) : f_X12_deliversDebt [(1, 77), (0, r)] (m, kd, w) = some (.inl none, (qa_up (zdl (qa_up m 86 0 1) (34 + 26 * r + 9) 7) 77 14 1, kd, w)) := by
  obtain ⟨r1, r2⟩ := hr
  have k77 := hK.1
  have k86 := hK.2.2.2.2.2.2.2.2.2.1
  have r13 : m 77 13 = 86 := hR.2.2.2.2.2.2.2.2.1
  generalize hm1 : qa_up m 86 0 1 = m1
  have q77 : ∀ i, m1 77 i = m 77 i := fun i => by rw [← hm1, qa_up_no _ (by omega)]
  have hRk : ∀ k, RM (zdl m1 (34 + 26 * r + 9) k) := fun k => RM_7 (fun i _ => by rw [zdl_no (by omega), q77]) hR
  have loop : ∀ (n : Nat) (k : Int), 0 ≤ k → k + n = 7 → qa_ev P_X12_deliversDebt 1 [(1, 77), (0, r), (0, 0), (0, k)] [] (zdl m1 (34 + 26 * r + 9) k, kd, w) = qa_ev P_X12_deliversDebt 2 [(1, 77), (0, r), (0, 0), (0, 7)] [] (zdl m1 (34 + 26 * r + 9) 7, kd, w) := by
    intro n
    induction n with
    | zero =>
      intro k h1 h2
      obtain rfl : k = 7 := by omega
      rw [ev_X12_deliversDebt_1]
      simp (disch := omega) [ev_X12_deliversDebt_0, B_X12_deliversDebt_0, B_X12_deliversDebt_1, B_X12_deliversDebt_2, x_const, x_iadd, x_isub, x_imul, x_idiv, x_irem, x_ineg, x_dup, x_dup_x1, x_dup2, x_pop, x_goto, x_ifeq, x_ifne, x_iflt, x_ifge, x_ifgt, x_ifle, x_cmpeq, x_cmpne, x_cmplt, x_cmpge, x_cmpgt, x_cmple, x_null, x_nonnull, x_acmpeq, x_acmpne, x_get, x_put, x_putz, x_ald, x_ast, x_bast, x_zast, x_aast, x_alen, x_obj, x_ret, x_retz, x_vret, x_max, x_min, x_copy, x_i2l, qg_none, qg_inl, qg_inr, qg_ite, xr1, xr0, xrE, xri, xl0, xl1, xl2, xl3, xl4, xl5, xl6, xl7, xl8, xl9, xl10, xs0, xs1, xs2, xs3, xs4, xs5, xs6, xs7, xs8, xs9, xs10, xi0, xi1, xi2, xi3, xi4, xi5, xi6, xi7, xi8, xi9, xi10, xc0, xc1, xc2, xc3, xc4, xc5, xc6, xc7, xv1, xv2, xv3, xv4, xv5, xv6, xv7, dT_le, dF_le, dT_lt, dF_lt]
    | succ n ih =>
      intro k h1 h2
      have ih' := ih (k + 1) (by omega) (by omega)
      have t13 : zdl m1 (34 + 26 * r + 9) k 77 13 = 86 := (hRk k).2.2.2.2.2.2.2.2.1
      have ob := m_ofReader (w := w) (r := r) (f := 9 + k) hK (hRk k) r1 r2 (by omega) (by omega)
      rw [zdl_no (Or.inl (by decide)), ← Int.add_assoc] at ob
      have up := zdl_up (m := m1) (s := 34 + 26 * r + 9) h1
      rw [ev_X12_deliversDebt_1]
      simp (disch := omega) [ev_X12_deliversDebt_0, B_X12_deliversDebt_0, B_X12_deliversDebt_1, B_X12_deliversDebt_2, x_const, x_iadd, x_isub, x_imul, x_idiv, x_irem, x_ineg, x_dup, x_dup_x1, x_dup2, x_pop, x_goto, x_ifeq, x_ifne, x_iflt, x_ifge, x_ifgt, x_ifle, x_cmpeq, x_cmpne, x_cmplt, x_cmpge, x_cmpgt, x_cmple, x_null, x_nonnull, x_acmpeq, x_acmpne, x_get, x_put, x_putz, x_ald, x_ast, x_bast, x_zast, x_aast, x_alen, x_obj, x_ret, x_retz, x_vret, x_max, x_min, x_copy, x_i2l, qg_none, qg_inl, qg_inr, qg_ite, xr1, xr0, xrE, xri, xl0, xl1, xl2, xl3, xl4, xl5, xl6, xl7, xl8, xl9, xl10, xs0, xs1, xs2, xs3, xs4, xs5, xs6, xs7, xs8, xs9, xs10, xi0, xi1, xi2, xi3, xi4, xi5, xi6, xi7, xi8, xi9, xi10, xc0, xc1, xc2, xc3, xc4, xc5, xc6, xc7, xv1, xv2, xv3, xv4, xv5, xv6, xv7, dT_le, dF_le, dT_lt, dF_lt, k77, k86, t13, ob, up, ih']
  have lp := loop 7 0 (by decide) (by decide)
  rw [zdl_0] at lp
  have t14 : zdl m1 (34 + 26 * r + 9) 7 77 14 = 0 := by rw [zdl_no (by omega), q77]; exact h0
  unfold f_X12_deliversDebt
  refine qa_fn_eq ?_ (by simp)
  simp (disch := omega) [ev_X12_deliversDebt_0, ev_X12_deliversDebt_2, B_X12_deliversDebt_0, B_X12_deliversDebt_1, B_X12_deliversDebt_2, x_const, x_iadd, x_isub, x_imul, x_idiv, x_irem, x_ineg, x_dup, x_dup_x1, x_dup2, x_pop, x_goto, x_ifeq, x_ifne, x_iflt, x_ifge, x_ifgt, x_ifle, x_cmpeq, x_cmpne, x_cmplt, x_cmpge, x_cmpgt, x_cmple, x_null, x_nonnull, x_acmpeq, x_acmpne, x_get, x_put, x_putz, x_ald, x_ast, x_bast, x_zast, x_aast, x_alen, x_obj, x_ret, x_retz, x_vret, x_max, x_min, x_copy, x_i2l, qg_none, qg_inl, qg_inr, qg_ite, xr1, xr0, xrE, xri, xl0, xl1, xl2, xl3, xl4, xl5, xl6, xl7, xl8, xl9, xl10, xs0, xs1, xs2, xs3, xs4, xs5, xs6, xs7, xs8, xs9, xs10, xi0, xi1, xi2, xi3, xi4, xi5, xi6, xi7, xi8, xi9, xi10, xc0, xc1, xc2, xc3, xc4, xc5, xc6, xc7, xv1, xv2, xv3, xv4, xv5, xv6, xv7, dT_le, dF_le, dT_lt, dF_lt, dT_eq, dF_eq, qa_up_hit, qa_up_no, k77, k86, h0, r13, hm1, lp, t14]
