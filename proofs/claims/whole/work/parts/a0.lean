theorem zq4_o {m : Int → Int → Int} {b c j L x0 x1 x2 x3 y i : Int} (h : (y ≠ b ∨ ¬ (L ≤ i ∧ i < L + 4)) ∧ (y ≠ c ∨ i ≠ j)) : zq4 m b c j L x0 x1 x2 x3 y i = m y i := by
  unfold zq4
  obtain ⟨h1, h2⟩ := h
  rw [qa_up_no _ (by omega), qa_up_no _ (by omega), qa_up_no _ (by omega), qa_up_no _ (by omega), qa_up_no _ (by omega), qa_up_no _ (by omega), qa_up_no _ (by omega), qa_up_no _ (by omega)]
theorem zq4_c {m : Int → Int → Int} {b c j L x0 x1 x2 x3 : Int} : zq4 m b c j L x0 x1 x2 x3 c j = L + 4 := by
  unfold zq4
  rw [qa_up_hit]; omega
theorem zq4_b {m : Int → Int → Int} {b c j L x0 x1 x2 x3 : Int} (h : b ≠ c) : zq4 m b c j L x0 x1 x2 x3 b L = x0 ∧ zq4 m b c j L x0 x1 x2 x3 b (L + 1) = x1 ∧ zq4 m b c j L x0 x1 x2 x3 b (L + 2) = x2 ∧ zq4 m b c j L x0 x1 x2 x3 b (L + 3) = x3 := by
  unfold zq4
  have e2 : L + 2 = L + 1 + 1 := by omega
  have e3 : L + 3 = L + 1 + 1 + 1 := by omega
  rw [e2, e3]
  refine ⟨?_, ?_, ?_, ?_⟩
  · rw [qa_up_no _ (by omega), qa_up_no _ (by omega), qa_up_no _ (by omega), qa_up_no _ (by omega), qa_up_no _ (by omega), qa_up_no _ (by omega), qa_up_no _ (by omega), qa_up_hit]
  · rw [qa_up_no _ (by omega), qa_up_no _ (by omega), qa_up_no _ (by omega), qa_up_no _ (by omega), qa_up_no _ (by omega), qa_up_hit]
  · rw [qa_up_no _ (by omega), qa_up_no _ (by omega), qa_up_no _ (by omega), qa_up_hit]
  · rw [qa_up_no _ (by omega), qa_up_hit]
theorem tAp_8 {T : Int → Int} {n v : Int} (h : tT8 T) : tT8 (tAp T n v) := fun i => by
  unfold tAp
  split
  · unfold tbv
    split
    · omega
    · split
      · omega
      · split <;> omega
  · exact h i
theorem tAp_4 {T : Int → Int} {n v i : Int} (h : n ≤ i ∧ i < n + 4) : (i = n ∧ tAp T n v i = tbv v 0) ∨ (i = n + 1 ∧ tAp T n v i = tbv v 1) ∨ (i = n + 2 ∧ tAp T n v i = tbv v 2) ∨ (i = n + 3 ∧ tAp T n v i = tbv v 3) := by
  have e : tAp T n v i = tbv v (i - n) := if_pos h
  rw [e]
  have : i = n ∨ i = n + 1 ∨ i = n + 2 ∨ i = n + 3 := by omega
  rcases this with q | q | q | q
  · exact Or.inl ⟨q, by rw [show i - n = 0 by omega]⟩
  · exact Or.inr (Or.inl ⟨q, by rw [show i - n = 1 by omega]⟩)
  · exact Or.inr (Or.inr (Or.inl ⟨q, by rw [show i - n = 2 by omega]⟩))
  · exact Or.inr (Or.inr (Or.inr ⟨q, by rw [show i - n = 3 by omega]⟩))
def zft (m m' : Int → Int → Int) : Prop := (∀ c, c ≠ 71 → c ≠ 72 → m' c = m c) ∧ ∀ j, j ≠ 1 → m' 71 j = m 71 j
theorem ca_appendText {m : Int → Int → Int} {kd : Int → Nat × Int} {w : Nat × Nat × Nat} {T : Int → Int} {n : Int} (hK : KSc kd) (hM : MSc T n m) (hx : kd 0 = (14, 0)) (h06 : m 0 6 = 71) (v : Int) : (n ≤ 696 → ∃ m', f_X11_appendText [(1, 0), (0, v)] (m, kd, w) = some (.inl (some (0, n + 4)), (m', kd, w)) ∧ MSc (tAp T n v) (n + 4) m' ∧ zft m m') ∧ (¬ n ≤ 696 → f_X11_appendText [(1, 0), (0, v)] (m, kd, w) = some (.inr 3, (m, kd, w.1, w.2.1 + 1, w.2.2 + 6))) := by
  obtain ⟨k1, k2, k3, k4⟩ := id hK
  obtain ⟨m0, m1, m2, m3, hn, hT, ht⟩ := id hM
  refine ⟨fun h => ?_, fun h => ?_⟩
  · have hr : f_X8_hasRoomForFour [(1, 71)] (m, kd, w) = some (.inl (some (0, 1)), (m, kd, w)) := by
      unfold f_X8_hasRoomForFour
      refine qa_fn_eq ?_ (by simp)
      simp (disch := omega) [ev_X8_hasRoomForFour_0, ev_X8_hasRoomForFour_1, ev_X8_hasRoomForFour_2, B_X8_hasRoomForFour_0, B_X8_hasRoomForFour_1, B_X8_hasRoomForFour_2, x_const, x_iadd, x_isub, x_imul, x_idiv, x_irem, x_ineg, x_dup, x_dup_x1, x_dup2, x_pop, x_goto, x_ifeq, x_ifne, x_iflt, x_ifge, x_ifgt, x_ifle, x_cmpeq, x_cmpne, x_cmplt, x_cmpge, x_cmpgt, x_cmple, x_null, x_nonnull, x_acmpeq, x_acmpne, x_get, x_put, x_putz, x_ald, x_ast, x_bast, x_zast, x_aast, x_alen, x_obj, x_ret, x_retz, x_vret, x_max, x_min, x_copy, x_i2l, qg_none, qg_inl, qg_inr, qg_ite, xr1, xr0, xrE, xri, xl0, xl1, xl2, xl3, xl4, xl5, xl6, xl7, xl8, xl9, xl10, xs0, xs1, xs2, xs3, xs4, xs5, xs6, xs7, xs8, xs9, xs10, xi0, xi1, xi2, xi3, xi4, xi5, xi6, xi7, xi8, xi9, xi10, xc0, xc1, xc2, xc3, xc4, xc5, xc6, xc7, xv1, xv2, xv3, xv4, xv5, xv6, xv7, dT_le, dF_le, dT_lt, dF_lt, k1, m1]
    have a4 := c_addFour (w := w) (v := v) k1 k2 m0 m1 ⟨hn.1, h⟩
    obtain ⟨b0, b1, b2, b3⟩ := tby_v v
    obtain ⟨z0, z1, z2, z3⟩ := zq4_b (m := m) (b := 72) (c := 71) (j := 1) (L := n) (x0 := tby v 24) (x1 := tby v 16) (x2 := tby v 8) (x3 := tby v 0) (by decide)
    refine ⟨zq4 m 72 71 1 n (tby v 24) (tby v 16) (tby v 8) (tby v 0), ?_, ⟨?_, zq4_c, ?_, ?_, by omega, tAp_8 hT, fun i i1 i2 => ?_⟩, fun c c1 c2 => ?_, fun j hj => zq4_o ⟨Or.inl (by decide), Or.inr hj⟩⟩
    · unfold f_X11_appendText
      refine qa_fn_eq ?_ (by simp)
      simp (disch := omega) [ev_X11_appendText_0, ev_X11_appendText_1, B_X11_appendText_0, B_X11_appendText_1, x_const, x_iadd, x_isub, x_imul, x_idiv, x_irem, x_ineg, x_dup, x_dup_x1, x_dup2, x_pop, x_goto, x_ifeq, x_ifne, x_iflt, x_ifge, x_ifgt, x_ifle, x_cmpeq, x_cmpne, x_cmplt, x_cmpge, x_cmpgt, x_cmple, x_null, x_nonnull, x_acmpeq, x_acmpne, x_get, x_put, x_putz, x_ald, x_ast, x_bast, x_zast, x_aast, x_alen, x_obj, x_ret, x_retz, x_vret, x_max, x_min, x_copy, x_i2l, qg_none, qg_inl, qg_inr, qg_ite, xr1, xr0, xrE, xri, xl0, xl1, xl2, xl3, xl4, xl5, xl6, xl7, xl8, xl9, xl10, xs0, xs1, xs2, xs3, xs4, xs5, xs6, xs7, xs8, xs9, xs10, xi0, xi1, xi2, xi3, xi4, xi5, xi6, xi7, xi8, xi9, xi10, xc0, xc1, xc2, xc3, xc4, xc5, xc6, xc7, xv1, xv2, xv3, xv4, xv5, xv6, xv7, dT_le, dF_le, dT_lt, dF_lt, hx, h06, k1, hr, a4]
    · rw [zq4_o (by omega)]; exact m0
    · rw [zq4_o (by omega)]; exact m2
    · rw [zq4_o (by omega)]; exact m3
    · by_cases hi : i < n
      · rw [zq4_o (by omega), ht i i1 hi]
        exact (if_neg (by omega)).symm
      · rcases tAp_4 (T := T) (n := n) (v := v) (i := i) (by omega) with ⟨e, q⟩ | ⟨e, q⟩ | ⟨e, q⟩ | ⟨e, q⟩
        · rw [q, e, z0]; exact b0
        · rw [q, e, z1]; exact b1
        · rw [q, e, z2]; exact b2
        · rw [q, e, z3]; exact b3
    · funext i
      exact zq4_o ⟨Or.inl c2, Or.inl c1⟩
  · have hr : f_X8_hasRoomForFour [(1, 71)] (m, kd, w) = some (.inl (some (0, 0)), (m, kd, w)) := by
      unfold f_X8_hasRoomForFour
      refine qa_fn_eq ?_ (by simp)
      simp (disch := omega) [ev_X8_hasRoomForFour_0, ev_X8_hasRoomForFour_1, ev_X8_hasRoomForFour_2, B_X8_hasRoomForFour_0, B_X8_hasRoomForFour_1, B_X8_hasRoomForFour_2, x_const, x_iadd, x_isub, x_imul, x_idiv, x_irem, x_ineg, x_dup, x_dup_x1, x_dup2, x_pop, x_goto, x_ifeq, x_ifne, x_iflt, x_ifge, x_ifgt, x_ifle, x_cmpeq, x_cmpne, x_cmplt, x_cmpge, x_cmpgt, x_cmple, x_null, x_nonnull, x_acmpeq, x_acmpne, x_get, x_put, x_putz, x_ald, x_ast, x_bast, x_zast, x_aast, x_alen, x_obj, x_ret, x_retz, x_vret, x_max, x_min, x_copy, x_i2l, qg_none, qg_inl, qg_inr, qg_ite, xr1, xr0, xrE, xri, xl0, xl1, xl2, xl3, xl4, xl5, xl6, xl7, xl8, xl9, xl10, xs0, xs1, xs2, xs3, xs4, xs5, xs6, xs7, xs8, xs9, xs10, xi0, xi1, xi2, xi3, xi4, xi5, xi6, xi7, xi8, xi9, xi10, xc0, xc1, xc2, xc3, xc4, xc5, xc6, xc7, xv1, xv2, xv3, xv4, xv5, xv6, xv7, dT_le, dF_le, dT_lt, dF_lt, k1, m1]
    unfold f_X11_appendText
    refine qa_fn_eq ?_ (by simp)
    simp (disch := omega) [ev_X11_appendText_0, ev_X11_appendText_1, B_X11_appendText_0, B_X11_appendText_1, x_const, x_iadd, x_isub, x_imul, x_idiv, x_irem, x_ineg, x_dup, x_dup_x1, x_dup2, x_pop, x_goto, x_ifeq, x_ifne, x_iflt, x_ifge, x_ifgt, x_ifle, x_cmpeq, x_cmpne, x_cmplt, x_cmpge, x_cmpgt, x_cmple, x_null, x_nonnull, x_acmpeq, x_acmpne, x_get, x_put, x_putz, x_ald, x_ast, x_bast, x_zast, x_aast, x_alen, x_obj, x_ret, x_retz, x_vret, x_max, x_min, x_copy, x_i2l, qg_none, qg_inl, qg_inr, qg_ite, xr1, xr0, xrE, xri, xl0, xl1, xl2, xl3, xl4, xl5, xl6, xl7, xl8, xl9, xl10, xs0, xs1, xs2, xs3, xs4, xs5, xs6, xs7, xs8, xs9, xs10, xi0, xi1, xi2, xi3, xi4, xi5, xi6, xi7, xi8, xi9, xi10, xc0, xc1, xc2, xc3, xc4, xc5, xc6, xc7, xv1, xv2, xv3, xv4, xv5, xv6, xv7, dT_le, dF_le, dT_lt, dF_lt, hx, h06, k1, hr, x_thr]
theorem ca_truncateText {m : Int → Int → Int} {kd : Int → Nat × Int} {w : Nat × Nat × Nat} {T : Int → Int} {n : Int} (hK : KSc kd) (hM : MSc T n m) (hx : kd 0 = (14, 0)) (h06 : m 0 6 = 71) (v : Int) : (0 ≤ v ∧ v ≤ n → f_X11_truncateText [(1, 0), (0, v)] (m, kd, w) = some (.inl (some (0, v)), (qa_up m 71 1 v, kd, w)) ∧ MSc T v (qa_up m 71 1 v) ∧ zft m (qa_up m 71 1 v)) ∧ (¬ (0 ≤ v ∧ v ≤ n) → f_X11_truncateText [(1, 0), (0, v)] (m, kd, w) = some (.inr 2, (m, kd, w.1, w.2.1 + 1, w.2.2 + 6))) := by
  obtain ⟨k1, k2, k3, k4⟩ := id hK
  obtain ⟨m0, m1, m2, m3, hn, hT, ht⟩ := id hM
  have rg := c_needRange (m := m) (kd := kd) (w := w) v 0 n
  refine ⟨fun h => ?_, fun h => ?_⟩
  · rw [if_pos h] at rg
    refine ⟨?_, ⟨?_, qa_up_hit _ _ _ _, ?_, ?_, by omega, hT, fun i i1 i2 => ?_⟩, fun c c1 c2 => ?_, fun j hj => qa_up_no _ (by omega)⟩
    · unfold f_X11_truncateText
      refine qa_fn_eq ?_ (by simp)
      simp (disch := omega) [ev_X11_truncateText_0, B_X11_truncateText_0, x_const, x_iadd, x_isub, x_imul, x_idiv, x_irem, x_ineg, x_dup, x_dup_x1, x_dup2, x_pop, x_goto, x_ifeq, x_ifne, x_iflt, x_ifge, x_ifgt, x_ifle, x_cmpeq, x_cmpne, x_cmplt, x_cmpge, x_cmpgt, x_cmple, x_null, x_nonnull, x_acmpeq, x_acmpne, x_get, x_put, x_putz, x_ald, x_ast, x_bast, x_zast, x_aast, x_alen, x_obj, x_ret, x_retz, x_vret, x_max, x_min, x_copy, x_i2l, qg_none, qg_inl, qg_inr, qg_ite, xr1, xr0, xrE, xri, xl0, xl1, xl2, xl3, xl4, xl5, xl6, xl7, xl8, xl9, xl10, xs0, xs1, xs2, xs3, xs4, xs5, xs6, xs7, xs8, xs9, xs10, xi0, xi1, xi2, xi3, xi4, xi5, xi6, xi7, xi8, xi9, xi10, xc0, xc1, xc2, xc3, xc4, xc5, xc6, xc7, xv1, xv2, xv3, xv4, xv5, xv6, xv7, dT_le, dF_le, dT_lt, dF_lt, hx, h06, k1, m1, rg]
    · rw [qa_up_no _ (by omega)]; exact m0
    · rw [qa_up_no _ (by omega)]; exact m2
    · rw [qa_up_no _ (by omega)]; exact m3
    · rw [qa_up_no _ (by omega)]; exact ht i i1 (by omega)
    · funext i
      exact qa_up_no _ (by omega)
  · rw [if_neg h] at rg
    unfold f_X11_truncateText
    refine qa_fn_eq ?_ (by simp)
    simp (disch := omega) [ev_X11_truncateText_0, B_X11_truncateText_0, x_const, x_iadd, x_isub, x_imul, x_idiv, x_irem, x_ineg, x_dup, x_dup_x1, x_dup2, x_pop, x_goto, x_ifeq, x_ifne, x_iflt, x_ifge, x_ifgt, x_ifle, x_cmpeq, x_cmpne, x_cmplt, x_cmpge, x_cmpgt, x_cmple, x_null, x_nonnull, x_acmpeq, x_acmpne, x_get, x_put, x_putz, x_ald, x_ast, x_bast, x_zast, x_aast, x_alen, x_obj, x_ret, x_retz, x_vret, x_max, x_min, x_copy, x_i2l, qg_none, qg_inl, qg_inr, qg_ite, xr1, xr0, xrE, xri, xl0, xl1, xl2, xl3, xl4, xl5, xl6, xl7, xl8, xl9, xl10, xs0, xs1, xs2, xs3, xs4, xs5, xs6, xs7, xs8, xs9, xs10, xi0, xi1, xi2, xi3, xi4, xi5, xi6, xi7, xi8, xi9, xi10, xc0, xc1, xc2, xc3, xc4, xc5, xc6, xc7, xv1, xv2, xv3, xv4, xv5, xv6, xv7, dT_le, dF_le, dT_lt, dF_lt, hx, h06, k1, m1, rg]
theorem cq_errorCode {m : Int → Int → Int} {kd : Int → Nat × Int} {w : Nat × Nat × Nat} (hx : kd 0 = (14, 0)) (h06 : m 0 6 = 71) (k1 : kd 71 = (12, 0)) : f_X11_errorCode [(1, 0)] (m, kd, w) = some (.inl (some (0, m 71 5)), (m, kd, w)) ∧ f_X11_errorPosition [(1, 0)] (m, kd, w) = some (.inl (some (0, m 71 6)), (m, kd, w)) := by
  constructor
  · unfold f_X11_errorCode
    refine qa_fn_eq ?_ (by simp)
    simp (disch := omega) [ev_X11_errorCode_0, B_X11_errorCode_0, x_const, x_iadd, x_isub, x_imul, x_idiv, x_irem, x_ineg, x_dup, x_dup_x1, x_dup2, x_pop, x_goto, x_ifeq, x_ifne, x_iflt, x_ifge, x_ifgt, x_ifle, x_cmpeq, x_cmpne, x_cmplt, x_cmpge, x_cmpgt, x_cmple, x_null, x_nonnull, x_acmpeq, x_acmpne, x_get, x_put, x_putz, x_ald, x_ast, x_bast, x_zast, x_aast, x_alen, x_obj, x_ret, x_retz, x_vret, x_max, x_min, x_copy, x_i2l, qg_none, qg_inl, qg_inr, qg_ite, xr1, xr0, xrE, xri, xl0, xl1, xl2, xl3, xl4, xl5, xl6, xl7, xl8, xl9, xl10, xs0, xs1, xs2, xs3, xs4, xs5, xs6, xs7, xs8, xs9, xs10, xi0, xi1, xi2, xi3, xi4, xi5, xi6, xi7, xi8, xi9, xi10, xc0, xc1, xc2, xc3, xc4, xc5, xc6, xc7, xv1, xv2, xv3, xv4, xv5, xv6, xv7, dT_le, dF_le, dT_lt, dF_lt, hx, h06, k1]
  · unfold f_X11_errorPosition
    refine qa_fn_eq ?_ (by simp)
    simp (disch := omega) [ev_X11_errorPosition_0, B_X11_errorPosition_0, x_const, x_iadd, x_isub, x_imul, x_idiv, x_irem, x_ineg, x_dup, x_dup_x1, x_dup2, x_pop, x_goto, x_ifeq, x_ifne, x_iflt, x_ifge, x_ifgt, x_ifle, x_cmpeq, x_cmpne, x_cmplt, x_cmpge, x_cmpgt, x_cmple, x_null, x_nonnull, x_acmpeq, x_acmpne, x_get, x_put, x_putz, x_ald, x_ast, x_bast, x_zast, x_aast, x_alen, x_obj, x_ret, x_retz, x_vret, x_max, x_min, x_copy, x_i2l, qg_none, qg_inl, qg_inr, qg_ite, xr1, xr0, xrE, xri, xl0, xl1, xl2, xl3, xl4, xl5, xl6, xl7, xl8, xl9, xl10, xs0, xs1, xs2, xs3, xs4, xs5, xs6, xs7, xs8, xs9, xs10, xi0, xi1, xi2, xi3, xi4, xi5, xi6, xi7, xi8, xi9, xi10, xc0, xc1, xc2, xc3, xc4, xc5, xc6, xc7, xv1, xv2, xv3, xv4, xv5, xv6, xv7, dT_le, dF_le, dT_lt, dF_lt, hx, h06, k1]
theorem mq_errorCode {m : Int → Int → Int} {kd : Int → Nat × Int} {w : Nat × Nat × Nat} (k77 : kd 77 = (15, 0)) : f_X12_errorCode [(1, 77)] (m, kd, w) = some (.inl (some (0, m 77 21)), (qa_up m 77 0 0, kd, w)) ∧ f_X12_errorPosition [(1, 77)] (m, kd, w) = some (.inl (some (0, m 77 22)), (qa_up m 77 0 0, kd, w)) := by
  constructor
  · unfold f_X12_errorCode
    refine qa_fn_eq ?_ (by simp)
    simp (disch := omega) [ev_X12_errorCode_0, B_X12_errorCode_0, x_const, x_iadd, x_isub, x_imul, x_idiv, x_irem, x_ineg, x_dup, x_dup_x1, x_dup2, x_pop, x_goto, x_ifeq, x_ifne, x_iflt, x_ifge, x_ifgt, x_ifle, x_cmpeq, x_cmpne, x_cmplt, x_cmpge, x_cmpgt, x_cmple, x_null, x_nonnull, x_acmpeq, x_acmpne, x_get, x_put, x_putz, x_ald, x_ast, x_bast, x_zast, x_aast, x_alen, x_obj, x_ret, x_retz, x_vret, x_max, x_min, x_copy, x_i2l, qg_none, qg_inl, qg_inr, qg_ite, xr1, xr0, xrE, xri, xl0, xl1, xl2, xl3, xl4, xl5, xl6, xl7, xl8, xl9, xl10, xs0, xs1, xs2, xs3, xs4, xs5, xs6, xs7, xs8, xs9, xs10, xi0, xi1, xi2, xi3, xi4, xi5, xi6, xi7, xi8, xi9, xi10, xc0, xc1, xc2, xc3, xc4, xc5, xc6, xc7, xv1, xv2, xv3, xv4, xv5, xv6, xv7, dT_le, dF_le, dT_lt, dF_lt, dT_eq, dF_eq, qa_up_hit, qa_up_no, k77]
  · unfold f_X12_errorPosition
    refine qa_fn_eq ?_ (by simp)
    simp (disch := omega) [ev_X12_errorPosition_0, B_X12_errorPosition_0, x_const, x_iadd, x_isub, x_imul, x_idiv, x_irem, x_ineg, x_dup, x_dup_x1, x_dup2, x_pop, x_goto, x_ifeq, x_ifne, x_iflt, x_ifge, x_ifgt, x_ifle, x_cmpeq, x_cmpne, x_cmplt, x_cmpge, x_cmpgt, x_cmple, x_null, x_nonnull, x_acmpeq, x_acmpne, x_get, x_put, x_putz, x_ald, x_ast, x_bast, x_zast, x_aast, x_alen, x_obj, x_ret, x_retz, x_vret, x_max, x_min, x_copy, x_i2l, qg_none, qg_inl, qg_inr, qg_ite, xr1, xr0, xrE, xri, xl0, xl1, xl2, xl3, xl4, xl5, xl6, xl7, xl8, xl9, xl10, xs0, xs1, xs2, xs3, xs4, xs5, xs6, xs7, xs8, xs9, xs10, xi0, xi1, xi2, xi3, xi4, xi5, xi6, xi7, xi8, xi9, xi10, xc0, xc1, xc2, xc3, xc4, xc5, xc6, xc7, xv1, xv2, xv3, xv4, xv5, xv6, xv7, dT_le, dF_le, dT_lt, dF_lt, dT_eq, dF_eq, qa_up_hit, qa_up_no, k77]
def zfu (m m' : Int → Int → Int) : Prop := (∀ c, c ≠ 77 → c ≠ 87 → m' c = m c) ∧ ∀ i, i ≠ 0 → i ≠ 16 → m' 77 i = m 77 i
theorem m_a4S {m : Int → Int → Int} {kd : Int → Nat × Int} {w : Nat × Nat × Nat} (hK : KM kd) (hR : RM m) {v sh L : Int} (m1 : m 77 16 = L) (hL : 0 ≤ L ∧ L < 700) (hs : sh = 0 ∨ sh = 8 ∨ sh = 16 ∨ sh = 24) : qa_ev P_X12_appendText 4 [(1, 77), (0, v), (0, sh)] [] (m, kd, w) = qa_ev P_X12_appendText 4 [(1, 77), (0, v), (0, sh - 8)] [] (qa_up (qa_up m 87 L (tbz v sh)) 77 16 (L + 1), kd, w) := by
  have h0 : ¬ sh < 0 := by omega
  obtain ⟨k77, k78, k79, k80, k81, k82, k83, k84, k85, k86, k87, k88, k89, k90⟩ := id hK
  obtain ⟨r1, r2, r3, r4, r6, r7, r8, r12, r13, r15, r23, r25, r26⟩ := id hR
  unfold tbz
  rw [ev_X12_appendText_4]
  simp (disch := omega) [B_X12_appendText_4, x_const, x_iadd, x_isub, x_imul, x_idiv, x_irem, x_ineg, x_dup, x_dup_x1, x_dup2, x_pop, x_goto, x_ifeq, x_ifne, x_iflt, x_ifge, x_ifgt, x_ifle, x_cmpeq, x_cmpne, x_cmplt, x_cmpge, x_cmpgt, x_cmple, x_null, x_nonnull, x_acmpeq, x_acmpne, x_get, x_put, x_putz, x_ald, x_ast, x_bast, x_zast, x_aast, x_alen, x_obj, x_ret, x_retz, x_vret, x_max, x_min, x_copy, x_i2l, qg_none, qg_inl, qg_inr, qg_ite, xr1, xr0, xrE, xri, xl0, xl1, xl2, xl3, xl4, xl5, xl6, xl7, xl8, xl9, xl10, xs0, xs1, xs2, xs3, xs4, xs5, xs6, xs7, xs8, xs9, xs10, xi0, xi1, xi2, xi3, xi4, xi5, xi6, xi7, xi8, xi9, xi10, xc0, xc1, xc2, xc3, xc4, xc5, xc6, xc7, xv1, xv2, xv3, xv4, xv5, xv6, xv7, dT_le, dF_le, dT_lt, dF_lt, dT_eq, dF_eq, qa_up_hit, qa_up_no, x_ishrU, x_i2bU, hs, k77, k87, r15, m1, h0]
  rfl
theorem m_a4E {m : Int → Int → Int} {kd : Int → Nat × Int} {w : Nat × Nat × Nat} {v L : Int} (k1 : kd 77 = (15, 0)) (m1 : m 77 16 = L) : qa_ev P_X12_appendText 4 [(1, 77), (0, v), (0, 0 - 8)] [] (m, kd, w) = some (.inl (some (0, L)), (m, kd, w)) := by
  rw [ev_X12_appendText_4]
  simp (disch := omega) [B_X12_appendText_4, ev_X12_appendText_5, B_X12_appendText_5, x_const, x_iadd, x_isub, x_imul, x_idiv, x_irem, x_ineg, x_dup, x_dup_x1, x_dup2, x_pop, x_goto, x_ifeq, x_ifne, x_iflt, x_ifge, x_ifgt, x_ifle, x_cmpeq, x_cmpne, x_cmplt, x_cmpge, x_cmpgt, x_cmple, x_null, x_nonnull, x_acmpeq, x_acmpne, x_get, x_put, x_putz, x_ald, x_ast, x_bast, x_zast, x_aast, x_alen, x_obj, x_ret, x_retz, x_vret, x_max, x_min, x_copy, x_i2l, qg_none, qg_inl, qg_inr, qg_ite, xr1, xr0, xrE, xri, xl0, xl1, xl2, xl3, xl4, xl5, xl6, xl7, xl8, xl9, xl10, xs0, xs1, xs2, xs3, xs4, xs5, xs6, xs7, xs8, xs9, xs10, xi0, xi1, xi2, xi3, xi4, xi5, xi6, xi7, xi8, xi9, xi10, xc0, xc1, xc2, xc3, xc4, xc5, xc6, xc7, xv1, xv2, xv3, xv4, xv5, xv6, xv7, dT_le, dF_le, dT_lt, dF_lt, k1, m1]
