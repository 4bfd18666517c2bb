def tbt (T : Int → Int) (n i : Int) : Int := if 0 ≤ i ∧ i < n then T i else -1
def tkd (x : Int) : Int := if x = -1 then 0 else if 97 ≤ x ∧ x ≤ 122 then 1 else if 48 ≤ x ∧ x ≤ 57 then 2 else if x = 45 then 3 else if x = 59 then 4 else 5
def tskf (T : Int → Int) (n : Int) : Nat → Int → Int
  | 0, a => a
  | q + 1, a => if tbt T n a = 32 ∨ tbt T n a = 10 then tskf T n q (a + 1) else a
def trnf (T : Int → Int) (n k : Int) : Nat → Int → Int
  | 0, p => p
  | q + 1, p => if tkd (tbt T n p) = k then trnf T n k q (p + 1) else p
def tSt (T : Int → Int) (n a : Int) : Int := tskf T n (n - a).toNat a
def tKi (T : Int → Int) (n a : Int) : Int := tkd (tbt T n (tSt T n a))
def tRn (T : Int → Int) (n k p : Int) : Int := trnf T n k (n - p).toNat p
def tBe (T : Int → Int) (n a : Int) : Int := if tSt T n a < n then (if tKi T n a = 1 ∨ tKi T n a = 2 then tRn T n (tKi T n a) (tSt T n a + 1) else tSt T n a + 1) else tSt T n a
def tT8 (T : Int → Int) : Prop := ∀ i, 0 ≤ T i ∧ T i ≤ 255
theorem tskf_le (T : Int → Int) (n : Int) : ∀ (q : Nat) (a : Int), a ≤ tskf T n q a ∧ tskf T n q a ≤ a + q := by
  intro q
  induction q with
  | zero => intro a; simp only [tskf]; omega
  | succ q ih =>
    intro a
    simp only [tskf]
    split
    · have := ih (a + 1); omega
    · omega
theorem trnf_le (T : Int → Int) (n k : Int) : ∀ (q : Nat) (a : Int), a ≤ trnf T n k q a ∧ trnf T n k q a ≤ a + q := by
  intro q
  induction q with
  | zero => intro a; simp only [trnf]; omega
  | succ q ih =>
    intro a
    simp only [trnf]
    split
    · have := ih (a + 1); omega
    · omega
theorem tSt_b (T : Int → Int) {n a : Int} (h : a ≤ n) : a ≤ tSt T n a ∧ tSt T n a ≤ n := by
  have := tskf_le T n (n - a).toNat a
  unfold tSt
  omega
theorem tRn_b (T : Int → Int) {n k a : Int} (h : a ≤ n) : a ≤ tRn T n k a ∧ tRn T n k a ≤ n := by
  have := trnf_le T n k (n - a).toNat a
  unfold tRn
  omega
theorem tBe_b (T : Int → Int) {n a : Int} (h : a ≤ n) : tSt T n a ≤ tBe T n a ∧ tBe T n a ≤ n ∧ (tSt T n a < n → tSt T n a < tBe T n a) := by
  have h1 := tSt_b T h
  unfold tBe
  split
  · have := tRn_b T (n := n) (k := tKi T n a) (a := tSt T n a + 1) (by omega)
    split <;> omega
  · omega
theorem tSt_up {T : Int → Int} {n a : Int} (h : a < n) : tSt T n a = if tbt T n a = 32 ∨ tbt T n a = 10 then tSt T n (a + 1) else a := by
  unfold tSt
  have e : (n - a).toNat = (n - (a + 1)).toNat + 1 := by omega
  rw [e]
  rfl
theorem tSt_end {T : Int → Int} {n a : Int} (h : n ≤ a) : tSt T n a = a := by
  unfold tSt
  have e : (n - a).toNat = 0 := by omega
  rw [e]
  rfl
theorem tRn_up {T : Int → Int} {n k a : Int} (h : a < n) : tRn T n k a = if tkd (tbt T n a) = k then tRn T n k (a + 1) else a := by
  unfold tRn
  have e : (n - a).toNat = (n - (a + 1)).toNat + 1 := by omega
  rw [e]
  rfl
theorem tRn_end {T : Int → Int} {n k a : Int} (h : n ≤ a) : tRn T n k a = a := by
  unfold tRn
  have e : (n - a).toNat = 0 := by omega
  rw [e]
  rfl
theorem tkd_b (x : Int) : 0 ≤ tkd x ∧ tkd x ≤ 5 := by
  unfold tkd
  split
  · decide
  · split
    · decide
    · split
      · decide
      · split
        · decide
        · split <;> decide
theorem tbt_b {T : Int → Int} (hT : tT8 T) (n i : Int) : -1 ≤ tbt T n i ∧ tbt T n i ≤ 255 := by
  have := hT i
  unfold tbt
  split <;> omega
theorem tKi_0 {T : Int → Int} (hT : tT8 T) {n a : Int} (ha : 0 ≤ a ∧ a ≤ n) : tKi T n a = 0 ↔ tSt T n a = n := by
  have h := tSt_b T ha.2
  unfold tKi
  generalize tSt T n a = s at h
  have hs := hT s
  unfold tbt
  by_cases e : s < n
  · rw [if_pos ⟨by omega, e⟩]
    unfold tkd
    constructor
    · intro z
      rw [if_neg (by omega)] at z
      split at z
      · omega
      · split at z
        · omega
        · split at z
          · omega
          · split at z <;> omega
    · intro z; omega
  · rw [if_neg (by omega)]
    constructor
    · intro _; omega
    · intro _; rfl
def KSc (kd : Int → Nat × Int) : Prop := kd 71 = (12, 0) ∧ kd 72 = (102, 700) ∧ kd 73 = (110, 60) ∧ kd 74 = (101, 240)
def MSc (T : Int → Int) (n : Int) (m : Int → Int → Int) : Prop := m 71 0 = 72 ∧ m 71 1 = n ∧ m 71 2 = 73 ∧ m 71 3 = 74 ∧ (0 ≤ n ∧ n ≤ 700) ∧ tT8 T ∧ ∀ i, 0 ≤ i → i < n → m 72 i % 256 = T i
def CLx (T : Int → Int) (n a : Int) (m : Int → Int → Int) : Prop := m 71 7 = tKi T n a ∧ m 71 8 = tSt T n a ∧ m 71 9 = tBe T n a
theorem x_iand (k : qI) (ls r : List qV) (x y : Int) (a : qA) : q_iand k ls ((0, y) :: (0, x) :: r) a = if y = 63 ∨ y = 255 then k ls ((0, x % (y + 1)) :: r) a else none := by simp [q_iand]
theorem c_byteAt {m : Int → Int → Int} {kd : Int → Nat × Int} {w : Nat × Nat × Nat} {T : Int → Int} {n : Int} (hK : KSc kd) (hM : MSc T n m) (i : Int) : f_X8_byteAt [(1, 71), (0, i)] (m, kd, w) = some (.inl (some (0, tbt T n i)), (m, kd, w)) := by
  obtain ⟨k1, k2, k3, k4⟩ := hK
  obtain ⟨m0, m1, m2, m3, hn, hT, ht⟩ := hM
  unfold tbt
  by_cases h : 0 ≤ i ∧ i < n
  · rw [if_pos h]
    have e := ht i h.1 h.2
    unfold f_X8_byteAt
    refine qa_fn_eq ?_ (by simp)
    simp (disch := omega) [ev_X8_byteAt_0, ev_X8_byteAt_1, ev_X8_byteAt_2, B_X8_byteAt_0, B_X8_byteAt_1, B_X8_byteAt_2, x_const, x_iadd, x_isub, x_imul, x_idiv, x_irem, x_ineg, x_dup, x_dup_x1, x_dup2, x_pop, x_goto, x_ifeq, x_ifne, x_iflt, x_ifge, x_ifgt, x_ifle, x_cmpeq, x_cmpne, x_cmplt, x_cmpge, x_cmpgt, x_cmple, x_null, x_nonnull, x_acmpeq, x_acmpne, x_get, x_put, x_putz, x_ald, x_ast, x_bast, x_zast, x_aast, x_alen, x_obj, x_ret, x_retz, x_vret, x_max, x_min, x_copy, x_i2l, qg_none, qg_inl, qg_inr, qg_ite, xr1, xr0, xrE, xri, xl0, xl1, xl2, xl3, xl4, xl5, xl6, xl7, xl8, xl9, xl10, xs0, xs1, xs2, xs3, xs4, xs5, xs6, xs7, xs8, xs9, xs10, xi0, xi1, xi2, xi3, xi4, xi5, xi6, xi7, xi8, xi9, xi10, xc0, xc1, xc2, xc3, xc4, xc5, xc6, xc7, xv1, xv2, xv3, xv4, xv5, xv6, xv7, dT_le, dF_le, dT_lt, dF_lt, x_iand, k1, k2, m0, m1, e]
  · rw [if_neg h]
    by_cases h0 : i < 0
    · unfold f_X8_byteAt
      refine qa_fn_eq ?_ (by simp)
      simp (disch := omega) [ev_X8_byteAt_0, ev_X8_byteAt_1, ev_X8_byteAt_2, B_X8_byteAt_0, B_X8_byteAt_1, B_X8_byteAt_2, x_const, x_iadd, x_isub, x_imul, x_idiv, x_irem, x_ineg, x_dup, x_dup_x1, x_dup2, x_pop, x_goto, x_ifeq, x_ifne, x_iflt, x_ifge, x_ifgt, x_ifle, x_cmpeq, x_cmpne, x_cmplt, x_cmpge, x_cmpgt, x_cmple, x_null, x_nonnull, x_acmpeq, x_acmpne, x_get, x_put, x_putz, x_ald, x_ast, x_bast, x_zast, x_aast, x_alen, x_obj, x_ret, x_retz, x_vret, x_max, x_min, x_copy, x_i2l, qg_none, qg_inl, qg_inr, qg_ite, xr1, xr0, xrE, xri, xl0, xl1, xl2, xl3, xl4, xl5, xl6, xl7, xl8, xl9, xl10, xs0, xs1, xs2, xs3, xs4, xs5, xs6, xs7, xs8, xs9, xs10, xi0, xi1, xi2, xi3, xi4, xi5, xi6, xi7, xi8, xi9, xi10, xc0, xc1, xc2, xc3, xc4, xc5, xc6, xc7, xv1, xv2, xv3, xv4, xv5, xv6, xv7, dT_le, dF_le, dT_lt, dF_lt, h0]
    · unfold f_X8_byteAt
      refine qa_fn_eq ?_ (by simp)
      simp (disch := omega) [ev_X8_byteAt_0, ev_X8_byteAt_1, ev_X8_byteAt_2, B_X8_byteAt_0, B_X8_byteAt_1, B_X8_byteAt_2, x_const, x_iadd, x_isub, x_imul, x_idiv, x_irem, x_ineg, x_dup, x_dup_x1, x_dup2, x_pop, x_goto, x_ifeq, x_ifne, x_iflt, x_ifge, x_ifgt, x_ifle, x_cmpeq, x_cmpne, x_cmplt, x_cmpge, x_cmpgt, x_cmple, x_null, x_nonnull, x_acmpeq, x_acmpne, x_get, x_put, x_putz, x_ald, x_ast, x_bast, x_zast, x_aast, x_alen, x_obj, x_ret, x_retz, x_vret, x_max, x_min, x_copy, x_i2l, qg_none, qg_inl, qg_inr, qg_ite, xr1, xr0, xrE, xri, xl0, xl1, xl2, xl3, xl4, xl5, xl6, xl7, xl8, xl9, xl10, xs0, xs1, xs2, xs3, xs4, xs5, xs6, xs7, xs8, xs9, xs10, xi0, xi1, xi2, xi3, xi4, xi5, xi6, xi7, xi8, xi9, xi10, xc0, xc1, xc2, xc3, xc4, xc5, xc6, xc7, xv1, xv2, xv3, xv4, xv5, xv6, xv7, dT_le, dF_le, dT_lt, dF_lt, k1, m1]
theorem c_isBlank {m : Int → Int → Int} {kd : Int → Nat × Int} {w : Nat × Nat × Nat} (x : Int) : f_X8_isBlank [(0, x)] (m, kd, w) = some (.inl (some (0, if x = 32 ∨ x = 10 then 1 else 0)), (m, kd, w)) := by
  by_cases h : x = 32
  · unfold f_X8_isBlank
    refine qa_fn_eq ?_ (by simp)
    simp (disch := omega) [ev_X8_isBlank_0, ev_X8_isBlank_1, ev_X8_isBlank_2, ev_X8_isBlank_3, B_X8_isBlank_0, B_X8_isBlank_1, B_X8_isBlank_2, B_X8_isBlank_3, x_const, x_iadd, x_isub, x_imul, x_idiv, x_irem, x_ineg, x_dup, x_dup_x1, x_dup2, x_pop, x_goto, x_ifeq, x_ifne, x_iflt, x_ifge, x_ifgt, x_ifle, x_cmpeq, x_cmpne, x_cmplt, x_cmpge, x_cmpgt, x_cmple, x_null, x_nonnull, x_acmpeq, x_acmpne, x_get, x_put, x_putz, x_ald, x_ast, x_bast, x_zast, x_aast, x_alen, x_obj, x_ret, x_retz, x_vret, x_max, x_min, x_copy, x_i2l, qg_none, qg_inl, qg_inr, qg_ite, xr1, xr0, xrE, xri, xl0, xl1, xl2, xl3, xl4, xl5, xl6, xl7, xl8, xl9, xl10, xs0, xs1, xs2, xs3, xs4, xs5, xs6, xs7, xs8, xs9, xs10, xi0, xi1, xi2, xi3, xi4, xi5, xi6, xi7, xi8, xi9, xi10, xc0, xc1, xc2, xc3, xc4, xc5, xc6, xc7, xv1, xv2, xv3, xv4, xv5, xv6, xv7, dT_le, dF_le, dT_lt, dF_lt, h]
  · by_cases h2 : x = 10
    · unfold f_X8_isBlank
      refine qa_fn_eq ?_ (by simp)
      simp (disch := omega) [ev_X8_isBlank_0, ev_X8_isBlank_1, ev_X8_isBlank_2, ev_X8_isBlank_3, B_X8_isBlank_0, B_X8_isBlank_1, B_X8_isBlank_2, B_X8_isBlank_3, x_const, x_iadd, x_isub, x_imul, x_idiv, x_irem, x_ineg, x_dup, x_dup_x1, x_dup2, x_pop, x_goto, x_ifeq, x_ifne, x_iflt, x_ifge, x_ifgt, x_ifle, x_cmpeq, x_cmpne, x_cmplt, x_cmpge, x_cmpgt, x_cmple, x_null, x_nonnull, x_acmpeq, x_acmpne, x_get, x_put, x_putz, x_ald, x_ast, x_bast, x_zast, x_aast, x_alen, x_obj, x_ret, x_retz, x_vret, x_max, x_min, x_copy, x_i2l, qg_none, qg_inl, qg_inr, qg_ite, xr1, xr0, xrE, xri, xl0, xl1, xl2, xl3, xl4, xl5, xl6, xl7, xl8, xl9, xl10, xs0, xs1, xs2, xs3, xs4, xs5, xs6, xs7, xs8, xs9, xs10, xi0, xi1, xi2, xi3, xi4, xi5, xi6, xi7, xi8, xi9, xi10, xc0, xc1, xc2, xc3, xc4, xc5, xc6, xc7, xv1, xv2, xv3, xv4, xv5, xv6, xv7, dT_le, dF_le, dT_lt, dF_lt, h2]
    · unfold f_X8_isBlank
      refine qa_fn_eq ?_ (by simp)
      simp (disch := omega) [ev_X8_isBlank_0, ev_X8_isBlank_1, ev_X8_isBlank_2, ev_X8_isBlank_3, B_X8_isBlank_0, B_X8_isBlank_1, B_X8_isBlank_2, B_X8_isBlank_3, x_const, x_iadd, x_isub, x_imul, x_idiv, x_irem, x_ineg, x_dup, x_dup_x1, x_dup2, x_pop, x_goto, x_ifeq, x_ifne, x_iflt, x_ifge, x_ifgt, x_ifle, x_cmpeq, x_cmpne, x_cmplt, x_cmpge, x_cmpgt, x_cmple, x_null, x_nonnull, x_acmpeq, x_acmpne, x_get, x_put, x_putz, x_ald, x_ast, x_bast, x_zast, x_aast, x_alen, x_obj, x_ret, x_retz, x_vret, x_max, x_min, x_copy, x_i2l, qg_none, qg_inl, qg_inr, qg_ite, xr1, xr0, xrE, xri, xl0, xl1, xl2, xl3, xl4, xl5, xl6, xl7, xl8, xl9, xl10, xs0, xs1, xs2, xs3, xs4, xs5, xs6, xs7, xs8, xs9, xs10, xi0, xi1, xi2, xi3, xi4, xi5, xi6, xi7, xi8, xi9, xi10, xc0, xc1, xc2, xc3, xc4, xc5, xc6, xc7, xv1, xv2, xv3, xv4, xv5, xv6, xv7, dT_le, dF_le, dT_lt, dF_lt, h, h2]
theorem c_kindOf {m : Int → Int → Int} {kd : Int → Nat × Int} {w : Nat × Nat × Nat} (x : Int) : f_X8_kindOf [(0, x)] (m, kd, w) = some (.inl (some (0, tkd x)), (m, kd, w)) := by
  unfold tkd
  by_cases h0 : x = -1
  · unfold f_X8_kindOf
    refine qa_fn_eq ?_ (by simp)
    simp (disch := omega) [ev_X8_kindOf_0, ev_X8_kindOf_1, ev_X8_kindOf_2, ev_X8_kindOf_3, ev_X8_kindOf_4, ev_X8_kindOf_5, ev_X8_kindOf_6, B_X8_kindOf_0, B_X8_kindOf_1, B_X8_kindOf_2, B_X8_kindOf_3, B_X8_kindOf_4, B_X8_kindOf_5, B_X8_kindOf_6, x_const, x_iadd, x_isub, x_imul, x_idiv, x_irem, x_ineg, x_dup, x_dup_x1, x_dup2, x_pop, x_goto, x_ifeq, x_ifne, x_iflt, x_ifge, x_ifgt, x_ifle, x_cmpeq, x_cmpne, x_cmplt, x_cmpge, x_cmpgt, x_cmple, x_null, x_nonnull, x_acmpeq, x_acmpne, x_get, x_put, x_putz, x_ald, x_ast, x_bast, x_zast, x_aast, x_alen, x_obj, x_ret, x_retz, x_vret, x_max, x_min, x_copy, x_i2l, qg_none, qg_inl, qg_inr, qg_ite, xr1, xr0, xrE, xri, xl0, xl1, xl2, xl3, xl4, xl5, xl6, xl7, xl8, xl9, xl10, xs0, xs1, xs2, xs3, xs4, xs5, xs6, xs7, xs8, xs9, xs10, xi0, xi1, xi2, xi3, xi4, xi5, xi6, xi7, xi8, xi9, xi10, xc0, xc1, xc2, xc3, xc4, xc5, xc6, xc7, xv1, xv2, xv3, xv4, xv5, xv6, xv7, dT_le, dF_le, dT_lt, dF_lt, h0]
  · rw [if_neg h0]
    by_cases h1 : 97 ≤ x ∧ x ≤ 122
    · rw [if_pos h1]
      unfold f_X8_kindOf
      refine qa_fn_eq ?_ (by simp)
      simp (disch := omega) [ev_X8_kindOf_0, ev_X8_kindOf_1, ev_X8_kindOf_2, ev_X8_kindOf_3, ev_X8_kindOf_4, ev_X8_kindOf_5, ev_X8_kindOf_6, B_X8_kindOf_0, B_X8_kindOf_1, B_X8_kindOf_2, B_X8_kindOf_3, B_X8_kindOf_4, B_X8_kindOf_5, B_X8_kindOf_6, x_const, x_iadd, x_isub, x_imul, x_idiv, x_irem, x_ineg, x_dup, x_dup_x1, x_dup2, x_pop, x_goto, x_ifeq, x_ifne, x_iflt, x_ifge, x_ifgt, x_ifle, x_cmpeq, x_cmpne, x_cmplt, x_cmpge, x_cmpgt, x_cmple, x_null, x_nonnull, x_acmpeq, x_acmpne, x_get, x_put, x_putz, x_ald, x_ast, x_bast, x_zast, x_aast, x_alen, x_obj, x_ret, x_retz, x_vret, x_max, x_min, x_copy, x_i2l, qg_none, qg_inl, qg_inr, qg_ite, xr1, xr0, xrE, xri, xl0, xl1, xl2, xl3, xl4, xl5, xl6, xl7, xl8, xl9, xl10, xs0, xs1, xs2, xs3, xs4, xs5, xs6, xs7, xs8, xs9, xs10, xi0, xi1, xi2, xi3, xi4, xi5, xi6, xi7, xi8, xi9, xi10, xc0, xc1, xc2, xc3, xc4, xc5, xc6, xc7, xv1, xv2, xv3, xv4, xv5, xv6, xv7, dT_le, dF_le, dT_lt, dF_lt, h0]
    · rw [if_neg h1]
      by_cases h2 : 48 ≤ x ∧ x ≤ 57
      · rw [if_pos h2]
        unfold f_X8_kindOf
        refine qa_fn_eq ?_ (by simp)
        simp (disch := omega) [ev_X8_kindOf_0, ev_X8_kindOf_1, ev_X8_kindOf_2, ev_X8_kindOf_3, ev_X8_kindOf_4, ev_X8_kindOf_5, ev_X8_kindOf_6, B_X8_kindOf_0, B_X8_kindOf_1, B_X8_kindOf_2, B_X8_kindOf_3, B_X8_kindOf_4, B_X8_kindOf_5, B_X8_kindOf_6, x_const, x_iadd, x_isub, x_imul, x_idiv, x_irem, x_ineg, x_dup, x_dup_x1, x_dup2, x_pop, x_goto, x_ifeq, x_ifne, x_iflt, x_ifge, x_ifgt, x_ifle, x_cmpeq, x_cmpne, x_cmplt, x_cmpge, x_cmpgt, x_cmple, x_null, x_nonnull, x_acmpeq, x_acmpne, x_get, x_put, x_putz, x_ald, x_ast, x_bast, x_zast, x_aast, x_alen, x_obj, x_ret, x_retz, x_vret, x_max, x_min, x_copy, x_i2l, qg_none, qg_inl, qg_inr, qg_ite, xr1, xr0, xrE, xri, xl0, xl1, xl2, xl3, xl4, xl5, xl6, xl7, xl8, xl9, xl10, xs0, xs1, xs2, xs3, xs4, xs5, xs6, xs7, xs8, xs9, xs10, xi0, xi1, xi2, xi3, xi4, xi5, xi6, xi7, xi8, xi9, xi10, xc0, xc1, xc2, xc3, xc4, xc5, xc6, xc7, xv1, xv2, xv3, xv4, xv5, xv6, xv7, dT_le, dF_le, dT_lt, dF_lt, h0]
      · rw [if_neg h2]
        by_cases h3 : x = 45
        · unfold f_X8_kindOf
          refine qa_fn_eq ?_ (by simp)
          simp (disch := omega) [ev_X8_kindOf_0, ev_X8_kindOf_1, ev_X8_kindOf_2, ev_X8_kindOf_3, ev_X8_kindOf_4, ev_X8_kindOf_5, ev_X8_kindOf_6, B_X8_kindOf_0, B_X8_kindOf_1, B_X8_kindOf_2, B_X8_kindOf_3, B_X8_kindOf_4, B_X8_kindOf_5, B_X8_kindOf_6, x_const, x_iadd, x_isub, x_imul, x_idiv, x_irem, x_ineg, x_dup, x_dup_x1, x_dup2, x_pop, x_goto, x_ifeq, x_ifne, x_iflt, x_ifge, x_ifgt, x_ifle, x_cmpeq, x_cmpne, x_cmplt, x_cmpge, x_cmpgt, x_cmple, x_null, x_nonnull, x_acmpeq, x_acmpne, x_get, x_put, x_putz, x_ald, x_ast, x_bast, x_zast, x_aast, x_alen, x_obj, x_ret, x_retz, x_vret, x_max, x_min, x_copy, x_i2l, qg_none, qg_inl, qg_inr, qg_ite, xr1, xr0, xrE, xri, xl0, xl1, xl2, xl3, xl4, xl5, xl6, xl7, xl8, xl9, xl10, xs0, xs1, xs2, xs3, xs4, xs5, xs6, xs7, xs8, xs9, xs10, xi0, xi1, xi2, xi3, xi4, xi5, xi6, xi7, xi8, xi9, xi10, xc0, xc1, xc2, xc3, xc4, xc5, xc6, xc7, xv1, xv2, xv3, xv4, xv5, xv6, xv7, dT_le, dF_le, dT_lt, dF_lt, h3]
        · rw [if_neg h3]
          by_cases h4 : x = 59
          · unfold f_X8_kindOf
            refine qa_fn_eq ?_ (by simp)
            simp (disch := omega) [ev_X8_kindOf_0, ev_X8_kindOf_1, ev_X8_kindOf_2, ev_X8_kindOf_3, ev_X8_kindOf_4, ev_X8_kindOf_5, ev_X8_kindOf_6, B_X8_kindOf_0, B_X8_kindOf_1, B_X8_kindOf_2, B_X8_kindOf_3, B_X8_kindOf_4, B_X8_kindOf_5, B_X8_kindOf_6, x_const, x_iadd, x_isub, x_imul, x_idiv, x_irem, x_ineg, x_dup, x_dup_x1, x_dup2, x_pop, x_goto, x_ifeq, x_ifne, x_iflt, x_ifge, x_ifgt, x_ifle, x_cmpeq, x_cmpne, x_cmplt, x_cmpge, x_cmpgt, x_cmple, x_null, x_nonnull, x_acmpeq, x_acmpne, x_get, x_put, x_putz, x_ald, x_ast, x_bast, x_zast, x_aast, x_alen, x_obj, x_ret, x_retz, x_vret, x_max, x_min, x_copy, x_i2l, qg_none, qg_inl, qg_inr, qg_ite, xr1, xr0, xrE, xri, xl0, xl1, xl2, xl3, xl4, xl5, xl6, xl7, xl8, xl9, xl10, xs0, xs1, xs2, xs3, xs4, xs5, xs6, xs7, xs8, xs9, xs10, xi0, xi1, xi2, xi3, xi4, xi5, xi6, xi7, xi8, xi9, xi10, xc0, xc1, xc2, xc3, xc4, xc5, xc6, xc7, xv1, xv2, xv3, xv4, xv5, xv6, xv7, dT_le, dF_le, dT_lt, dF_lt, h4]
          · rw [if_neg h4]
            have c1 : x < 97 ∨ 122 < x := by omega
            have c2 : x < 48 ∨ 57 < x := by omega
            rcases c1 with c1 | c1 <;> rcases c2 with c2 | c2
            · unfold f_X8_kindOf
              refine qa_fn_eq ?_ (by simp)
              simp (disch := omega) [ev_X8_kindOf_0, ev_X8_kindOf_1, ev_X8_kindOf_2, ev_X8_kindOf_3, ev_X8_kindOf_4, ev_X8_kindOf_5, ev_X8_kindOf_6, B_X8_kindOf_0, B_X8_kindOf_1, B_X8_kindOf_2, B_X8_kindOf_3, B_X8_kindOf_4, B_X8_kindOf_5, B_X8_kindOf_6, x_const, x_iadd, x_isub, x_imul, x_idiv, x_irem, x_ineg, x_dup, x_dup_x1, x_dup2, x_pop, x_goto, x_ifeq, x_ifne, x_iflt, x_ifge, x_ifgt, x_ifle, x_cmpeq, x_cmpne, x_cmplt, x_cmpge, x_cmpgt, x_cmple, x_null, x_nonnull, x_acmpeq, x_acmpne, x_get, x_put, x_putz, x_ald, x_ast, x_bast, x_zast, x_aast, x_alen, x_obj, x_ret, x_retz, x_vret, x_max, x_min, x_copy, x_i2l, qg_none, qg_inl, qg_inr, qg_ite, xr1, xr0, xrE, xri, xl0, xl1, xl2, xl3, xl4, xl5, xl6, xl7, xl8, xl9, xl10, xs0, xs1, xs2, xs3, xs4, xs5, xs6, xs7, xs8, xs9, xs10, xi0, xi1, xi2, xi3, xi4, xi5, xi6, xi7, xi8, xi9, xi10, xc0, xc1, xc2, xc3, xc4, xc5, xc6, xc7, xv1, xv2, xv3, xv4, xv5, xv6, xv7, dT_le, dF_le, dT_lt, dF_lt, h0, h3, h4]
            · unfold f_X8_kindOf
              refine qa_fn_eq ?_ (by simp)
              simp (disch := omega) [ev_X8_kindOf_0, ev_X8_kindOf_1, ev_X8_kindOf_2, ev_X8_kindOf_3, ev_X8_kindOf_4, ev_X8_kindOf_5, ev_X8_kindOf_6, B_X8_kindOf_0, B_X8_kindOf_1, B_X8_kindOf_2, B_X8_kindOf_3, B_X8_kindOf_4, B_X8_kindOf_5, B_X8_kindOf_6, x_const, x_iadd, x_isub, x_imul, x_idiv, x_irem, x_ineg, x_dup, x_dup_x1, x_dup2, x_pop, x_goto, x_ifeq, x_ifne, x_iflt, x_ifge, x_ifgt, x_ifle, x_cmpeq, x_cmpne, x_cmplt, x_cmpge, x_cmpgt, x_cmple, x_null, x_nonnull, x_acmpeq, x_acmpne, x_get, x_put, x_putz, x_ald, x_ast, x_bast, x_zast, x_aast, x_alen, x_obj, x_ret, x_retz, x_vret, x_max, x_min, x_copy, x_i2l, qg_none, qg_inl, qg_inr, qg_ite, xr1, xr0, xrE, xri, xl0, xl1, xl2, xl3, xl4, xl5, xl6, xl7, xl8, xl9, xl10, xs0, xs1, xs2, xs3, xs4, xs5, xs6, xs7, xs8, xs9, xs10, xi0, xi1, xi2, xi3, xi4, xi5, xi6, xi7, xi8, xi9, xi10, xc0, xc1, xc2, xc3, xc4, xc5, xc6, xc7, xv1, xv2, xv3, xv4, xv5, xv6, xv7, dT_le, dF_le, dT_lt, dF_lt, h0, h3, h4]
            · omega
            · unfold f_X8_kindOf
              refine qa_fn_eq ?_ (by simp)
              simp (disch := omega) [ev_X8_kindOf_0, ev_X8_kindOf_1, ev_X8_kindOf_2, ev_X8_kindOf_3, ev_X8_kindOf_4, ev_X8_kindOf_5, ev_X8_kindOf_6, B_X8_kindOf_0, B_X8_kindOf_1, B_X8_kindOf_2, B_X8_kindOf_3, B_X8_kindOf_4, B_X8_kindOf_5, B_X8_kindOf_6, x_const, x_iadd, x_isub, x_imul, x_idiv, x_irem, x_ineg, x_dup, x_dup_x1, x_dup2, x_pop, x_goto, x_ifeq, x_ifne, x_iflt, x_ifge, x_ifgt, x_ifle, x_cmpeq, x_cmpne, x_cmplt, x_cmpge, x_cmpgt, x_cmple, x_null, x_nonnull, x_acmpeq, x_acmpne, x_get, x_put, x_putz, x_ald, x_ast, x_bast, x_zast, x_aast, x_alen, x_obj, x_ret, x_retz, x_vret, x_max, x_min, x_copy, x_i2l, qg_none, qg_inl, qg_inr, qg_ite, xr1, xr0, xrE, xri, xl0, xl1, xl2, xl3, xl4, xl5, xl6, xl7, xl8, xl9, xl10, xs0, xs1, xs2, xs3, xs4, xs5, xs6, xs7, xs8, xs9, xs10, xi0, xi1, xi2, xi3, xi4, xi5, xi6, xi7, xi8, xi9, xi10, xc0, xc1, xc2, xc3, xc4, xc5, xc6, xc7, xv1, xv2, xv3, xv4, xv5, xv6, xv7, dT_le, dF_le, dT_lt, dF_lt, h0, h3, h4]
