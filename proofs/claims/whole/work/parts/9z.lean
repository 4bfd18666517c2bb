theorem x_iushr (k : qI) (ls r : List qV) (x y : Int) (a : qA) : q_iushr k ls ((0, y) :: (0, x) :: r) a = if y = 0 ∨ y = 8 ∨ y = 16 ∨ y = 24 then k ls ((0, qa_sg (x % 4294967296 / 2 ^ y.toNat)) :: r) a else none := by simp [q_iushr]
theorem x_ishrU (k : qI) (ls r : List qV) (x y : Int) (a : qA) : q_ishr k ls ((0, y) :: (0, x) :: r) a = if y = 0 ∨ y = 8 ∨ y = 16 ∨ y = 24 then k ls ((0, x / 2 ^ y.toNat) :: r) a else none := by simp [q_ishr]
theorem x_i2bU (k : qI) (ls r : List qV) (x : Int) (a : qA) : q_i2b k ls ((0, x) :: r) a = k ls ((0, qa_b x) :: r) a := by simp [q_i2b]
def tby (v sh : Int) : Int := qa_b (qa_b (qa_sg (v % 4294967296 / 2 ^ sh.toNat)))
def tbz (v sh : Int) : Int := qa_b (qa_b (v / 2 ^ sh.toNat))
def tbv (v : Int) (j : Int) : Int := if j = 0 then v / 16777216 % 256 else if j = 1 then v / 65536 % 256 else if j = 2 then v / 256 % 256 else v % 256
def tAp (T : Int → Int) (n v : Int) : Int → Int := fun i => if n ≤ i ∧ i < n + 4 then tbv v (i - n) else T i
theorem tby_v (v : Int) : (tby v 24 % 256 = tbv v 0 ∧ tby v 16 % 256 = tbv v 1 ∧ tby v 8 % 256 = tbv v 2 ∧ tby v 0 % 256 = tbv v 3) := by
  have e24 : (2 : Int) ^ (24 : Int).toNat = 16777216 := by decide
  have e16 : (2 : Int) ^ (16 : Int).toNat = 65536 := by decide
  have e8 : (2 : Int) ^ (8 : Int).toNat = 256 := by decide
  have e0 : (2 : Int) ^ (0 : Int).toNat = 1 := by decide
  unfold tby tbv qa_b qa_sg
  rw [e24, e16, e8, e0]
  simp only [if_true, show ¬ (1 : Int) = 0 by decide, show ¬ (2 : Int) = 0 by decide, show ¬ (3 : Int) = 0 by decide, show ¬ (2 : Int) = 1 by decide, show ¬ (3 : Int) = 1 by decide, show ¬ (3 : Int) = 2 by decide, if_false]
  omega
theorem tbz_v (v : Int) : (tbz v 24 % 256 = tbv v 0 ∧ tbz v 16 % 256 = tbv v 1 ∧ tbz v 8 % 256 = tbv v 2 ∧ tbz v 0 % 256 = tbv v 3) := by
  have e24 : (2 : Int) ^ (24 : Int).toNat = 16777216 := by decide
  have e16 : (2 : Int) ^ (16 : Int).toNat = 65536 := by decide
  have e8 : (2 : Int) ^ (8 : Int).toNat = 256 := by decide
  have e0 : (2 : Int) ^ (0 : Int).toNat = 1 := by decide
  unfold tbz tbv qa_b
  rw [e24, e16, e8, e0]
  simp only [if_true, show ¬ (1 : Int) = 0 by decide, show ¬ (2 : Int) = 0 by decide, show ¬ (3 : Int) = 0 by decide, show ¬ (2 : Int) = 1 by decide, show ¬ (3 : Int) = 1 by decide, show ¬ (3 : Int) = 2 by decide, if_false]
  omega
theorem qa_b_r (x : Int) : -128 ≤ qa_b x ∧ qa_b x < 128 := by unfold qa_b; omega
theorem c_a4S {m : Int → Int → Int} {kd : Int → Nat × Int} {w : Nat × Nat × Nat} {v sh L : Int} (k1 : kd 71 = (12, 0)) (k2 : kd 72 = (102, 700)) (m0 : m 71 0 = 72) (m1 : m 71 1 = L) (hL : 0 ≤ L ∧ L < 700) (hs : sh = 0 ∨ sh = 8 ∨ sh = 16 ∨ sh = 24) : qa_ev P_X8_addFour 1 [(1, 71), (0, v), (0, sh)] [] (m, kd, w) = qa_ev P_X8_addFour 1 [(1, 71), (0, v), (0, sh - 8)] [] (qa_up (qa_up m 72 L (tby v sh)) 71 1 (L + 1), kd, w) := by
  have h0 : ¬ sh < 0 := by omega
  unfold tby
  rw [ev_X8_addFour_1]
  simp (disch := omega) [B_X8_addFour_1, ev_X8_addFour_2, B_X8_addFour_2, x_const, x_iadd, x_isub, x_imul, x_idiv, x_irem, x_ineg, x_dup, x_dup_x1, x_dup2, x_pop, x_goto, x_ifeq, x_ifne, x_iflt, x_ifge, x_ifgt, x_ifle, x_cmpeq, x_cmpne, x_cmplt, x_cmpge, x_cmpgt, x_cmple, x_null, x_nonnull, x_acmpeq, x_acmpne, x_get, x_put, x_putz, x_ald, x_ast, x_bast, x_zast, x_aast, x_alen, x_obj, x_ret, x_retz, x_vret, x_max, x_min, x_copy, x_i2l, qg_none, qg_inl, qg_inr, qg_ite, xr1, xr0, xrE, xri, xl0, xl1, xl2, xl3, xl4, xl5, xl6, xl7, xl8, xl9, xl10, xs0, xs1, xs2, xs3, xs4, xs5, xs6, xs7, xs8, xs9, xs10, xi0, xi1, xi2, xi3, xi4, xi5, xi6, xi7, xi8, xi9, xi10, xc0, xc1, xc2, xc3, xc4, xc5, xc6, xc7, xv1, xv2, xv3, xv4, xv5, xv6, xv7, dT_le, dF_le, dT_lt, dF_lt, dT_eq, dF_eq, qa_up_hit, qa_up_no, x_iushr, x_i2bU, hs, k1, k2, m0, m1, h0]
  rfl
theorem c_a4E {m : Int → Int → Int} {kd : Int → Nat × Int} {w : Nat × Nat × Nat} {v L : Int} (k1 : kd 71 = (12, 0)) (m1 : m 71 1 = L) : qa_ev P_X8_addFour 1 [(1, 71), (0, v), (0, 0 - 8)] [] (m, kd, w) = some (.inl (some (0, L)), (m, kd, w)) := by
  rw [ev_X8_addFour_1]
  simp (disch := omega) [B_X8_addFour_1, ev_X8_addFour_3, B_X8_addFour_3, x_const, x_iadd, x_isub, x_imul, x_idiv, x_irem, x_ineg, x_dup, x_dup_x1, x_dup2, x_pop, x_goto, x_ifeq, x_ifne, x_iflt, x_ifge, x_ifgt, x_ifle, x_cmpeq, x_cmpne, x_cmplt, x_cmpge, x_cmpgt, x_cmple, x_null, x_nonnull, x_acmpeq, x_acmpne, x_get, x_put, x_putz, x_ald, x_ast, x_bast, x_zast, x_aast, x_alen, x_obj, x_ret, x_retz, x_vret, x_max, x_min, x_copy, x_i2l, qg_none, qg_inl, qg_inr, qg_ite, xr1, xr0, xrE, xri, xl0, xl1, xl2, xl3, xl4, xl5, xl6, xl7, xl8, xl9, xl10, xs0, xs1, xs2, xs3, xs4, xs5, xs6, xs7, xs8, xs9, xs10, xi0, xi1, xi2, xi3, xi4, xi5, xi6, xi7, xi8, xi9, xi10, xc0, xc1, xc2, xc3, xc4, xc5, xc6, xc7, xv1, xv2, xv3, xv4, xv5, xv6, xv7, dT_le, dF_le, dT_lt, dF_lt, k1, m1]
def zq4 (m : Int → Int → Int) (b c : Int) (j : Int) (L x0 x1 x2 x3 : Int) : Int → Int → Int := qa_up (qa_up (qa_up (qa_up (qa_up (qa_up (qa_up (qa_up m b L x0) c j (L + 1)) b (L + 1) x1) c j (L + 1 + 1)) b (L + 1 + 1) x2) c j (L + 1 + 1 + 1)) b (L + 1 + 1 + 1) x3) c j (L + 1 + 1 + 1 + 1)
theorem c_addFour {m : Int → Int → Int} {kd : Int → Nat × Int} {w : Nat × Nat × Nat} {v L : Int} (k1 : kd 71 = (12, 0)) (k2 : kd 72 = (102, 700)) (m0 : m 71 0 = 72) (m1 : m 71 1 = L) (hL : 0 ≤ L ∧ L ≤ 696) : f_X8_addFour [(1, 71), (0, v)] (m, kd, w) = some (.inl (some (0, L + 4)), (zq4 m 72 71 1 L (tby v 24) (tby v 16) (tby v 8) (tby v 0), kd, w)) := by
  have s1 := c_a4S (m := m) (w := w) (v := v) k1 k2 m0 m1 ⟨by omega, by omega⟩ (sh := 24) (by decide)
  have s2 := c_a4S (m := qa_up (qa_up m 72 L (tby v 24)) 71 1 (L + 1)) (w := w) (v := v) k1 k2 (by rw [qa_up_no _ (by omega), qa_up_no _ (by omega)]; exact m0) (qa_up_hit _ _ _ _) ⟨by omega, by omega⟩ (sh := 16) (by decide)
  have s3 := c_a4S (m := qa_up (qa_up (qa_up (qa_up m 72 L (tby v 24)) 71 1 (L + 1)) 72 (L + 1) (tby v 16)) 71 1 (L + 1 + 1)) (w := w) (v := v) k1 k2 (by rw [qa_up_no _ (by omega), qa_up_no _ (by omega), qa_up_no _ (by omega), qa_up_no _ (by omega)]; exact m0) (qa_up_hit _ _ _ _) ⟨by omega, by omega⟩ (sh := 8) (by decide)
  have s4 := c_a4S (m := qa_up (qa_up (qa_up (qa_up (qa_up (qa_up m 72 L (tby v 24)) 71 1 (L + 1)) 72 (L + 1) (tby v 16)) 71 1 (L + 1 + 1)) 72 (L + 1 + 1) (tby v 8)) 71 1 (L + 1 + 1 + 1)) (w := w) (v := v) k1 k2 (by rw [qa_up_no _ (by omega), qa_up_no _ (by omega), qa_up_no _ (by omega), qa_up_no _ (by omega), qa_up_no _ (by omega), qa_up_no _ (by omega)]; exact m0) (qa_up_hit _ _ _ _) ⟨by omega, by omega⟩ (sh := 0) (by decide)
  have s5 := c_a4E (m := zq4 m 72 71 1 L (tby v 24) (tby v 16) (tby v 8) (tby v 0)) (w := w) (v := v) k1 (qa_up_hit _ _ _ _)
  have e4 : L + 1 + 1 + 1 + 1 = L + 4 := by omega
  rw [e4] at s5
  unfold f_X8_addFour
  refine qa_fn_eq ?_ (by simp)
  refine Eq.trans ?_ (s1.trans (s2.trans (s3.trans (s4.trans s5))))
  simp (disch := omega) [ev_X8_addFour_0, B_X8_addFour_0, x_const, x_iadd, x_isub, x_imul, x_idiv, x_irem, x_ineg, x_dup, x_dup_x1, x_dup2, x_pop, x_goto, x_ifeq, x_ifne, x_iflt, x_ifge, x_ifgt, x_ifle, x_cmpeq, x_cmpne, x_cmplt, x_cmpge, x_cmpgt, x_cmple, x_null, x_nonnull, x_acmpeq, x_acmpne, x_get, x_put, x_putz, x_ald, x_ast, x_bast, x_zast, x_aast, x_alen, x_obj, x_ret, x_retz, x_vret, x_max, x_min, x_copy, x_i2l, qg_none, qg_inl, qg_inr, qg_ite, xr1, xr0, xrE, xri, xl0, xl1, xl2, xl3, xl4, xl5, xl6, xl7, xl8, xl9, xl10, xs0, xs1, xs2, xs3, xs4, xs5, xs6, xs7, xs8, xs9, xs10, xi0, xi1, xi2, xi3, xi4, xi5, xi6, xi7, xi8, xi9, xi10, xc0, xc1, xc2, xc3, xc4, xc5, xc6, xc7, xv1, xv2, xv3, xv4, xv5, xv6, xv7, dT_le, dF_le, dT_lt, dF_lt]
