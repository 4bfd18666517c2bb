theorem RM_16 {m m' : Int → Int → Int} (hR : RM m) (h : ∀ i, i ≠ 0 → i ≠ 16 → m' 77 i = m 77 i) : RM m' := by
  unfold RM at hR ⊢
  simp only [h 1 (by decide) (by decide), h 2 (by decide) (by decide), h 3 (by decide) (by decide), h 4 (by decide) (by decide), h 6 (by decide) (by decide), h 7 (by decide) (by decide), h 8 (by decide) (by decide), h 12 (by decide) (by decide), h 13 (by decide) (by decide), h 15 (by decide) (by decide), h 23 (by decide) (by decide), h 25 (by decide) (by decide), h 26 (by decide) (by decide)]
  exact hR
theorem m_app4 {m : Int → Int → Int} {kd : Int → Nat × Int} {w : Nat × Nat × Nat} (hK : KM kd) (hR : RM m) {v L : Int} (m1 : m 77 16 = L) (hL : 0 ≤ L ∧ L ≤ 696) : qa_ev P_X12_appendText 4 [(1, 77), (0, v), (0, 24)] [] (m, kd, w) = some (.inl (some (0, L + 4)), (zq4 m 87 77 16 L (tbz v 24) (tbz v 16) (tbz v 8) (tbz v 0), kd, w)) := by
  have s1 := m_a4S (w := w) (v := v) hK hR m1 ⟨by omega, by omega⟩ (sh := 24) (by decide)
  have s2 := m_a4S (m := qa_up (qa_up m 87 L (tbz v 24)) 77 16 (L + 1)) (w := w) (v := v) hK (RM_16 hR (fun i _ hi => by rw [qa_up_no _ (by omega), qa_up_no _ (by omega)])) (qa_up_hit _ _ _ _) ⟨by omega, by omega⟩ (sh := 16) (by decide)
  have s3 := m_a4S (m := qa_up (qa_up (qa_up (qa_up m 87 L (tbz v 24)) 77 16 (L + 1)) 87 (L + 1) (tbz v 16)) 77 16 (L + 1 + 1)) (w := w) (v := v) hK (RM_16 hR (fun i _ hi => by rw [qa_up_no _ (by omega), qa_up_no _ (by omega), qa_up_no _ (by omega), qa_up_no _ (by omega)])) (qa_up_hit _ _ _ _) ⟨by omega, by omega⟩ (sh := 8) (by decide)
  have s4 := m_a4S (m := qa_up (qa_up (qa_up (qa_up (qa_up (qa_up m 87 L (tbz v 24)) 77 16 (L + 1)) 87 (L + 1) (tbz v 16)) 77 16 (L + 1 + 1)) 87 (L + 1 + 1) (tbz v 8)) 77 16 (L + 1 + 1 + 1)) (w := w) (v := v) hK (RM_16 hR (fun i _ hi => by rw [qa_up_no _ (by omega), qa_up_no _ (by omega), qa_up_no _ (by omega), qa_up_no _ (by omega), qa_up_no _ (by omega), qa_up_no _ (by omega)])) (qa_up_hit _ _ _ _) ⟨by omega, by omega⟩ (sh := 0) (by decide)
  have s5 := m_a4E (m := zq4 m 87 77 16 L (tbz v 24) (tbz v 16) (tbz v 8) (tbz v 0)) (kd := kd) (w := w) (v := v) hK.1 (qa_up_hit _ _ _ _)
  have e4 : L + 1 + 1 + 1 + 1 = L + 4 := by omega
  rw [e4] at s5
  exact s1.trans (s2.trans (s3.trans (s4.trans s5)))
theorem ma_appendText {m : Int → Int → Int} {kd : Int → Nat × Int} {w : Nat × Nat × Nat} (hK : KM kd) (hR : RM m) {T : Int → Int} {n : Int} (hT : MTx T n m) (v : Int) : (n ≤ 696 → ∃ m', f_X12_appendText [(1, 77), (0, v)] (m, kd, w) = some (.inl (some (0, n + 4)), (m', kd, w)) ∧ MTx (tAp T n v) (n + 4) m' ∧ zfu m m' ∧ m' 77 0 = 0) ∧ (¬ n ≤ 696 → f_X12_appendText [(1, 77), (0, v)] (m, kd, w) = some (.inl (some (0, 0)), (qa_up m 77 0 1, kd, w))) := by
  obtain ⟨t1, hn, hT8, ht⟩ := id hT
  have k77 := hK.1
  refine ⟨fun h => ?_, fun h => ?_⟩
  · have a4 := m_app4 (m := qa_up m 77 0 0) (w := w) (v := v) hK (RM_16 hR (fun i h0 _ => qa_up_no _ (by omega))) (by rw [qa_up_no _ (by omega)]; exact t1) ⟨hn.1, h⟩
    obtain ⟨b0, b1, b2, b3⟩ := tbz_v v
    obtain ⟨z0, z1, z2, z3⟩ := zq4_b (m := qa_up m 77 0 0) (b := 87) (c := 77) (j := 16) (L := n) (x0 := tbz v 24) (x1 := tbz v 16) (x2 := tbz v 8) (x3 := tbz v 0) (by decide)
    refine ⟨zq4 (qa_up m 77 0 0) 87 77 16 n (tbz v 24) (tbz v 16) (tbz v 8) (tbz v 0), ?_, ⟨zq4_c, by omega, tAp_8 hT8, fun i i1 i2 => ?_⟩, ⟨fun c c1 c2 => ?_, fun i h0 hi => ?_⟩, ?_⟩
    · unfold f_X12_appendText
      refine qa_fn_eq ?_ (by simp)
      refine Eq.trans ?_ a4
      simp (disch := omega) [ev_X12_appendText_0, B_X12_appendText_0, ev_X12_appendText_1, B_X12_appendText_1, ev_X12_appendText_2, B_X12_appendText_2, ev_X12_appendText_3, B_X12_appendText_3, x_const, x_iadd, x_isub, x_imul, x_idiv, x_irem, x_ineg, x_dup, x_dup_x1, x_dup2, x_pop, x_goto, x_ifeq, x_ifne, x_iflt, x_ifge, x_ifgt, x_ifle, x_cmpeq, x_cmpne, x_cmplt, x_cmpge, x_cmpgt, x_cmple, x_null, x_nonnull, x_acmpeq, x_acmpne, x_get, x_put, x_putz, x_ald, x_ast, x_bast, x_zast, x_aast, x_alen, x_obj, x_ret, x_retz, x_vret, x_max, x_min, x_copy, x_i2l, qg_none, qg_inl, qg_inr, qg_ite, xr1, xr0, xrE, xri, xl0, xl1, xl2, xl3, xl4, xl5, xl6, xl7, xl8, xl9, xl10, xs0, xs1, xs2, xs3, xs4, xs5, xs6, xs7, xs8, xs9, xs10, xi0, xi1, xi2, xi3, xi4, xi5, xi6, xi7, xi8, xi9, xi10, xc0, xc1, xc2, xc3, xc4, xc5, xc6, xc7, xv1, xv2, xv3, xv4, xv5, xv6, xv7, dT_le, dF_le, dT_lt, dF_lt, dT_eq, dF_eq, qa_up_hit, qa_up_no, k77, t1]
    · by_cases hi : i < n
      · rw [zq4_o (by omega), qa_up_no _ (by omega)]
        rw [show tAp T n v i = T i from if_neg (by omega)]
        exact ht i i1 hi
      · rcases tAp_4 (T := T) (n := n) (v := v) (i := i) (by omega) with ⟨e, q⟩ | ⟨e, q⟩ | ⟨e, q⟩ | ⟨e, q⟩
        · rw [q, e, z0]; exact ⟨b0, qa_b_r _⟩
        · rw [q, e, z1]; exact ⟨b1, qa_b_r _⟩
        · rw [q, e, z2]; exact ⟨b2, qa_b_r _⟩
        · rw [q, e, z3]; exact ⟨b3, qa_b_r _⟩
    · funext i
      rw [zq4_o ⟨Or.inl c2, Or.inl c1⟩, qa_up_no _ (by omega)]
    · rw [zq4_o ⟨Or.inl (by decide), Or.inr hi⟩, qa_up_no _ (by omega)]
    · rw [zq4_o (by omega), qa_up_hit]
  · unfold f_X12_appendText
    refine qa_fn_eq ?_ (by simp)
    simp (disch := omega) [ev_X12_appendText_0, B_X12_appendText_0, ev_X12_appendText_1, B_X12_appendText_1, ev_X12_appendText_2, B_X12_appendText_2, x_const, x_iadd, x_isub, x_imul, x_idiv, x_irem, x_ineg, x_dup, x_dup_x1, x_dup2, x_pop, x_goto, x_ifeq, x_ifne, x_iflt, x_ifge, x_ifgt, x_ifle, x_cmpeq, x_cmpne, x_cmplt, x_cmpge, x_cmpgt, x_cmple, x_null, x_nonnull, x_acmpeq, x_acmpne, x_get, x_put, x_putz, x_ald, x_ast, x_bast, x_zast, x_aast, x_alen, x_obj, x_ret, x_retz, x_vret, x_max, x_min, x_copy, x_i2l, qg_none, qg_inl, qg_inr, qg_ite, xr1, xr0, xrE, xri, xl0, xl1, xl2, xl3, xl4, xl5, xl6, xl7, xl8, xl9, xl10, xs0, xs1, xs2, xs3, xs4, xs5, xs6, xs7, xs8, xs9, xs10, xi0, xi1, xi2, xi3, xi4, xi5, xi6, xi7, xi8, xi9, xi10, xc0, xc1, xc2, xc3, xc4, xc5, xc6, xc7, xv1, xv2, xv3, xv4, xv5, xv6, xv7, dT_le, dF_le, dT_lt, dF_lt, dT_eq, dF_eq, qa_up_hit, qa_up_no, k77, t1]
theorem ma_truncateText {m : Int → Int → Int} {kd : Int → Nat × Int} {w : Nat × Nat × Nat} (hK : KM kd) (hR : RM m) {T : Int → Int} {n : Int} (hT : MTx T n m) (v : Int) : (0 ≤ v ∧ v ≤ n → ∃ m', f_X12_truncateText [(1, 77), (0, v)] (m, kd, w) = some (.inl (some (0, v)), (m', kd, w)) ∧ MTx T v m' ∧ zfu m m' ∧ m' 77 0 = 0) ∧ (¬ (0 ≤ v ∧ v ≤ n) → f_X12_truncateText [(1, 77), (0, v)] (m, kd, w) = some (.inl (some (0, 0)), (qa_up m 77 0 1, kd, w))) := by
  obtain ⟨t1, hn, hT8, ht⟩ := id hT
  have k77 := hK.1
  have rg := m_in (m := m) (kd := kd) (w := w) v 0 n
  refine ⟨fun h => ?_, fun h => ?_⟩
  · rw [if_pos h] at rg
    refine ⟨qa_up (qa_up m 77 0 0) 77 16 v, ?_, ⟨qa_up_hit _ _ _ _, by omega, hT8, fun i i1 i2 => ?_⟩, ⟨fun c c1 c2 => ?_, fun i h0 hi => ?_⟩, ?_⟩
    · unfold f_X12_truncateText
      refine qa_fn_eq ?_ (by simp)
      simp (disch := omega) [ev_X12_truncateText_0, ev_X12_truncateText_1, ev_X12_truncateText_2, ev_X12_truncateText_3, B_X12_truncateText_0, B_X12_truncateText_1, B_X12_truncateText_2, B_X12_truncateText_3, x_const, x_iadd, x_isub, x_imul, x_idiv, x_irem, x_ineg, x_dup, x_dup_x1, x_dup2, x_pop, x_goto, x_ifeq, x_ifne, x_iflt, x_ifge, x_ifgt, x_ifle, x_cmpeq, x_cmpne, x_cmplt, x_cmpge, x_cmpgt, x_cmple, x_null, x_nonnull, x_acmpeq, x_acmpne, x_get, x_put, x_putz, x_ald, x_ast, x_bast, x_zast, x_aast, x_alen, x_obj, x_ret, x_retz, x_vret, x_max, x_min, x_copy, x_i2l, qg_none, qg_inl, qg_inr, qg_ite, xr1, xr0, xrE, xri, xl0, xl1, xl2, xl3, xl4, xl5, xl6, xl7, xl8, xl9, xl10, xs0, xs1, xs2, xs3, xs4, xs5, xs6, xs7, xs8, xs9, xs10, xi0, xi1, xi2, xi3, xi4, xi5, xi6, xi7, xi8, xi9, xi10, xc0, xc1, xc2, xc3, xc4, xc5, xc6, xc7, xv1, xv2, xv3, xv4, xv5, xv6, xv7, dT_le, dF_le, dT_lt, dF_lt, dT_eq, dF_eq, qa_up_hit, qa_up_no, k77, t1, rg]
    · rw [qa_up_no _ (by omega), qa_up_no _ (by omega)]; exact ht i i1 (by omega)
    · funext i
      rw [qa_up_no _ (by omega), qa_up_no _ (by omega)]
    · rw [qa_up_no _ (by omega), qa_up_no _ (by omega)]
    · rw [qa_up_no _ (by omega), qa_up_hit]
  · rw [if_neg h] at rg
    unfold f_X12_truncateText
    refine qa_fn_eq ?_ (by simp)
    simp (disch := omega) [ev_X12_truncateText_0, ev_X12_truncateText_1, ev_X12_truncateText_2, ev_X12_truncateText_3, B_X12_truncateText_0, B_X12_truncateText_1, B_X12_truncateText_2, B_X12_truncateText_3, x_const, x_iadd, x_isub, x_imul, x_idiv, x_irem, x_ineg, x_dup, x_dup_x1, x_dup2, x_pop, x_goto, x_ifeq, x_ifne, x_iflt, x_ifge, x_ifgt, x_ifle, x_cmpeq, x_cmpne, x_cmplt, x_cmpge, x_cmpgt, x_cmple, x_null, x_nonnull, x_acmpeq, x_acmpne, x_get, x_put, x_putz, x_ald, x_ast, x_bast, x_zast, x_aast, x_alen, x_obj, x_ret, x_retz, x_vret, x_max, x_min, x_copy, x_i2l, qg_none, qg_inl, qg_inr, qg_ite, xr1, xr0, xrE, xri, xl0, xl1, xl2, xl3, xl4, xl5, xl6, xl7, xl8, xl9, xl10, xs0, xs1, xs2, xs3, xs4, xs5, xs6, xs7, xs8, xs9, xs10, xi0, xi1, xi2, xi3, xi4, xi5, xi6, xi7, xi8, xi9, xi10, xc0, xc1, xc2, xc3, xc4, xc5, xc6, xc7, xv1, xv2, xv3, xv4, xv5, xv6, xv7, dT_le, dF_le, dT_lt, dF_lt, dT_eq, dF_eq, qa_up_hit, qa_up_no, k77, t1, rg]
