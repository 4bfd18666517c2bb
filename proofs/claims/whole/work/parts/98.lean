def tnf (T : Int → Int) : Nat → Int → Int → Int
  | 0, _, v => v
  | q + 1, p, v => tnf T q (p + 1) (if v * 10 + T p - 48 < 1000 then v * 10 + T p - 48 else 1000)
def tNm (T : Int → Int) (n a : Int) : Int := tnf T (tBe T n a - tSt T n a).toNat (tSt T n a) 0
theorem tkd_1 {x : Int} (h : tkd x = 1) : 97 ≤ x ∧ x ≤ 122 := by
  unfold tkd at h
  split at h
  · omega
  · split at h
    · assumption
    · split at h
      · omega
      · split at h
        · omega
        · split at h <;> omega
theorem tkd_2 {x : Int} (h : tkd x = 2) : 48 ≤ x ∧ x ≤ 57 := by
  unfold tkd at h
  split at h
  · omega
  · split at h
    · omega
    · split at h
      · assumption
      · split at h
        · omega
        · split at h <;> omega
theorem trnf_k (T : Int → Int) (n k : Int) : ∀ (q : Nat) (a p : Int), a ≤ p → p < trnf T n k q a → tkd (tbt T n p) = k := by
  intro q
  induction q with
  | zero => intro a p h1 h2; simp only [trnf] at h2; omega
  | succ q ih =>
    intro a p h1 h2
    simp only [trnf] at h2
    split at h2
    · rename_i hk
      by_cases e : p = a
      · rw [e]; exact hk
      · exact ih (a + 1) p (by omega) h2
    · omega
theorem tTok_k {T : Int → Int} {n a : Int} (ha : 0 ≤ a ∧ a ≤ n) (h : tKi T n a = 1 ∨ tKi T n a = 2) {p : Int} (h1 : tSt T n a ≤ p) (h2 : p < tBe T n a) : tkd (tbt T n p) = tKi T n a ∧ p < n := by
  have hb := tBe_b T ha.2
  refine ⟨?_, by omega⟩
  unfold tBe at h2
  split at h2
  · by_cases e : p = tSt T n a
    · rw [e]; rfl
    · exact trnf_k T n (tKi T n a) _ _ p (by omega) h2
  · omega
theorem tDig {T : Int → Int} {n a : Int} (ha : 0 ≤ a ∧ a ≤ n) (h : tKi T n a = 2) {p : Int} (h1 : tSt T n a ≤ p) (h2 : p < tBe T n a) : 48 ≤ T p ∧ T p ≤ 57 ∧ tbt T n p = T p := by
  obtain ⟨e, hn⟩ := tTok_k ha (Or.inr h) h1 h2
  rw [h] at e
  have := tkd_2 e
  have hs := tSt_b T ha.2
  have e2 : tbt T n p = T p := if_pos ⟨by omega, hn⟩
  rw [e2] at this
  exact ⟨this.1, this.2, e2⟩
theorem c_numberHere {m : Int → Int → Int} {kd : Int → Nat × Int} {w : Nat × Nat × Nat} {T : Int → Int} {n a : Int} (hK : KSc kd) (hM : MSc T n m) (hL : CLx T n a m) (ha : 0 ≤ a ∧ a ≤ n) (h2 : tKi T n a = 2) : f_X8_numberHere [(1, 71)] (m, kd, w) = some (.inl (some (0, tNm T n a)), (m, kd, w)) := by
  obtain ⟨l7, l8, l9⟩ := hL
  have k1 := hK.1
  have hb := tBe_b T ha.2
  have loop : ∀ (q : Nat) (p v : Int), tSt T n a ≤ p → p + q = tBe T n a → 0 ≤ v → v ≤ 1000 → qa_ev P_X8_numberHere 1 [(1, 71), (0, v), (0, p)] [] (m, kd, w) = some (.inl (some (0, tnf T q p v)), (m, kd, w)) := by
    intro q
    induction q with
    | zero =>
      intro p v h1 h2 h3 h4
      rw [ev_X8_numberHere_1]
      simp (disch := omega) [ev_X8_numberHere_0, ev_X8_numberHere_2, B_X8_numberHere_0, B_X8_numberHere_1, B_X8_numberHere_2, x_const, x_iadd, x_isub, x_imul, x_idiv, x_irem, x_ineg, x_dup, x_dup_x1, x_dup2, x_pop, x_goto, x_ifeq, x_ifne, x_iflt, x_ifge, x_ifgt, x_ifle, x_cmpeq, x_cmpne, x_cmplt, x_cmpge, x_cmpgt, x_cmple, x_null, x_nonnull, x_acmpeq, x_acmpne, x_get, x_put, x_putz, x_ald, x_ast, x_bast, x_zast, x_aast, x_alen, x_obj, x_ret, x_retz, x_vret, x_max, x_min, x_copy, x_i2l, qg_none, qg_inl, qg_inr, qg_ite, xr1, xr0, xrE, xri, xl0, xl1, xl2, xl3, xl4, xl5, xl6, xl7, xl8, xl9, xl10, xs0, xs1, xs2, xs3, xs4, xs5, xs6, xs7, xs8, xs9, xs10, xi0, xi1, xi2, xi3, xi4, xi5, xi6, xi7, xi8, xi9, xi10, xc0, xc1, xc2, xc3, xc4, xc5, xc6, xc7, xv1, xv2, xv3, xv4, xv5, xv6, xv7, dT_le, dF_le, dT_lt, dF_lt, k1, l9, tnf]
    | succ q ih =>
      intro p v g1 g2 g3 g4
      obtain ⟨d1, d2, d3⟩ := tDig ha h2 g1 (by omega)
      have by_ := c_byteAt (w := w) hK hM p
      rw [d3] at by_
      have hn := (tTok_k ha (Or.inr h2) g1 (by omega)).2
      have hlen : n ≤ 700 := hM.2.2.2.2.1.2
      have hs := tSt_b T ha.2
      rw [ev_X8_numberHere_1]
      by_cases hc : v * 10 + T p - 48 < 1000
      · have ih' := ih (p + 1) (v * 10 + T p - 48) (by omega) (by omega) (by omega) (by omega)
        simp (disch := omega) [ev_X8_numberHere_0, ev_X8_numberHere_2, B_X8_numberHere_0, B_X8_numberHere_1, B_X8_numberHere_2, x_const, x_iadd, x_isub, x_imul, x_idiv, x_irem, x_ineg, x_dup, x_dup_x1, x_dup2, x_pop, x_goto, x_ifeq, x_ifne, x_iflt, x_ifge, x_ifgt, x_ifle, x_cmpeq, x_cmpne, x_cmplt, x_cmpge, x_cmpgt, x_cmple, x_null, x_nonnull, x_acmpeq, x_acmpne, x_get, x_put, x_putz, x_ald, x_ast, x_bast, x_zast, x_aast, x_alen, x_obj, x_ret, x_retz, x_vret, x_max, x_min, x_copy, x_i2l, qg_none, qg_inl, qg_inr, qg_ite, xr1, xr0, xrE, xri, xl0, xl1, xl2, xl3, xl4, xl5, xl6, xl7, xl8, xl9, xl10, xs0, xs1, xs2, xs3, xs4, xs5, xs6, xs7, xs8, xs9, xs10, xi0, xi1, xi2, xi3, xi4, xi5, xi6, xi7, xi8, xi9, xi10, xc0, xc1, xc2, xc3, xc4, xc5, xc6, xc7, xv1, xv2, xv3, xv4, xv5, xv6, xv7, dT_le, dF_le, dT_lt, dF_lt, k1, l9, by_, tnf, ih']
      · have ih' := ih (p + 1) 1000 (by omega) (by omega) (by omega) (by omega)
        simp (disch := omega) [ev_X8_numberHere_0, ev_X8_numberHere_2, B_X8_numberHere_0, B_X8_numberHere_1, B_X8_numberHere_2, x_const, x_iadd, x_isub, x_imul, x_idiv, x_irem, x_ineg, x_dup, x_dup_x1, x_dup2, x_pop, x_goto, x_ifeq, x_ifne, x_iflt, x_ifge, x_ifgt, x_ifle, x_cmpeq, x_cmpne, x_cmplt, x_cmpge, x_cmpgt, x_cmple, x_null, x_nonnull, x_acmpeq, x_acmpne, x_get, x_put, x_putz, x_ald, x_ast, x_bast, x_zast, x_aast, x_alen, x_obj, x_ret, x_retz, x_vret, x_max, x_min, x_copy, x_i2l, qg_none, qg_inl, qg_inr, qg_ite, xr1, xr0, xrE, xri, xl0, xl1, xl2, xl3, xl4, xl5, xl6, xl7, xl8, xl9, xl10, xs0, xs1, xs2, xs3, xs4, xs5, xs6, xs7, xs8, xs9, xs10, xi0, xi1, xi2, xi3, xi4, xi5, xi6, xi7, xi8, xi9, xi10, xc0, xc1, xc2, xc3, xc4, xc5, xc6, xc7, xv1, xv2, xv3, xv4, xv5, xv6, xv7, dT_le, dF_le, dT_lt, dF_lt, k1, l9, by_, tnf, ih']
  have lp := loop (tBe T n a - tSt T n a).toNat (tSt T n a) 0 (by omega) (by omega) (by decide) (by decide)
  unfold f_X8_numberHere
  refine qa_fn_eq ?_ (by simp)
  simp (disch := omega) [ev_X8_numberHere_0, ev_X8_numberHere_2, B_X8_numberHere_0, B_X8_numberHere_1, B_X8_numberHere_2, x_const, x_iadd, x_isub, x_imul, x_idiv, x_irem, x_ineg, x_dup, x_dup_x1, x_dup2, x_pop, x_goto, x_ifeq, x_ifne, x_iflt, x_ifge, x_ifgt, x_ifle, x_cmpeq, x_cmpne, x_cmplt, x_cmpge, x_cmpgt, x_cmple, x_null, x_nonnull, x_acmpeq, x_acmpne, x_get, x_put, x_putz, x_ald, x_ast, x_bast, x_zast, x_aast, x_alen, x_obj, x_ret, x_retz, x_vret, x_max, x_min, x_copy, x_i2l, qg_none, qg_inl, qg_inr, qg_ite, xr1, xr0, xrE, xri, xl0, xl1, xl2, xl3, xl4, xl5, xl6, xl7, xl8, xl9, xl10, xs0, xs1, xs2, xs3, xs4, xs5, xs6, xs7, xs8, xs9, xs10, xi0, xi1, xi2, xi3, xi4, xi5, xi6, xi7, xi8, xi9, xi10, xc0, xc1, xc2, xc3, xc4, xc5, xc6, xc7, xv1, xv2, xv3, xv4, xv5, xv6, xv7, dT_le, dF_le, dT_lt, dF_lt, k1, l8, lp, tNm]
def tStr (sid : Int) (l : List Int) : Prop := ∃ vid, qa_sF sid "value" = some (1, vid) ∧ qa_sF sid "coder" = some (0, 0) ∧ qa_sL vid = some (102, l) ∧ (sid, "java/lang/String") ∈ qa_SC ∧ l.length ≤ 20 ∧ ∀ x ∈ l, 0 ≤ x ∧ x ≤ 127
theorem x_sget {fn : String} {o : Int} {v : qV} (k : qI) (ls r : List qV) (a : qA) (h : qa_sF o fn = some v) : q_sget fn k ls ((1, o) :: r) a = k ls (v :: r) a := by simp [q_sget, h]
theorem x_calls1 {cn : String} {o : Int} (f : List qV → qA → Option qR) (k : qI) (ls r : List qV) (a : qA) (h : (o, cn) ∈ qa_SC) : q_calls cn f 1 k ls ((1, o) :: r) a = q_call f 1 k ls ((1, o) :: r) a := by simp [q_calls, h]
theorem x_calls2 {cn : String} {o : Int} {v : qV} (f : List qV → qA → Option qR) (k : qI) (ls r : List qV) (a : qA) (h : (o, cn) ∈ qa_SC) : q_calls cn f 2 k ls (v :: (1, o) :: r) a = q_call f 2 k ls (v :: (1, o) :: r) a := by simp [q_calls, h]
theorem x_ishr (k : qI) (ls r : List qV) (x y : Int) (a : qA) : q_ishr k ls ((0, y) :: (0, x) :: r) a = if y = 0 ∨ y = 8 ∨ y = 16 ∨ y = 24 then k ls ((0, x / 2 ^ y.toNat) :: r) a else none := by simp [q_ishr]
theorem x_ishr0 (k : qI) (ls r : List qV) (x : Int) (a : qA) : q_ishr k ls ((0, 0) :: (0, x) :: r) a = k ls ((0, x) :: r) a := by simp [q_ishr]
theorem x_retby (ls : List qV) (v : Int) (a : qA) (h : -128 ≤ v ∧ v < 128) : q_retby ls [(0, v)] a = some (.inr (.inl (some (0, v)), a)) := by simp [q_retby, h]
theorem x_retc (ls : List qV) (v : Int) (a : qA) (h : 0 ≤ v ∧ v < 65536) : q_retc ls [(0, v)] a = some (.inr (.inl (some (0, v)), a)) := by simp [q_retc, h]
theorem x_i2c (k : qI) (ls r : List qV) (x : Int) (a : qA) (h : 0 ≤ x ∧ x < 65536) : q_i2c k ls ((0, x) :: r) a = k ls ((0, x) :: r) a := by simp [q_i2c, h]
theorem x_getq {k : qI} {ls st : List qV} {a : qA} {o : Option qO} (h1 : k ls ((1, -1) :: st) a = o) (h2 : k ls ((1, -16) :: st) a = o) : q_getq k ls st a = o := by
  unfold q_getq
  rw [h1, h2, if_pos rfl]
theorem c_checkIndex {m : Int → Int → Int} {kd : Int → Nat × Int} {w : Nat × Nat × Nat} {i l : Int} (h : 0 ≤ i ∧ i < l) : f_J0_checkIndex_df160 [(0, i), (0, l)] (m, kd, w) = some (.inl none, (m, kd, w)) := by
  have e : ∀ o : Int, f_J3_checkIndex_8e157 [(0, i), (0, l), (1, o)] (m, kd, w) = some (.inl (some (0, i)), (m, kd, w)) := fun o => by
    unfold f_J3_checkIndex_8e157
    refine qa_fn_eq ?_ (by simp)
    simp (disch := omega) [ev_J3_checkIndex_8e157_0, ev_J3_checkIndex_8e157_1, ev_J3_checkIndex_8e157_2, B_J3_checkIndex_8e157_0, B_J3_checkIndex_8e157_1, B_J3_checkIndex_8e157_2, x_const, x_iadd, x_isub, x_imul, x_idiv, x_irem, x_ineg, x_dup, x_dup_x1, x_dup2, x_pop, x_goto, x_ifeq, x_ifne, x_iflt, x_ifge, x_ifgt, x_ifle, x_cmpeq, x_cmpne, x_cmplt, x_cmpge, x_cmpgt, x_cmple, x_null, x_nonnull, x_acmpeq, x_acmpne, x_get, x_put, x_putz, x_ald, x_ast, x_bast, x_zast, x_aast, x_alen, x_obj, x_ret, x_retz, x_vret, x_max, x_min, x_copy, x_i2l, qg_none, qg_inl, qg_inr, qg_ite, xr1, xr0, xrE, xri, xl0, xl1, xl2, xl3, xl4, xl5, xl6, xl7, xl8, xl9, xl10, xs0, xs1, xs2, xs3, xs4, xs5, xs6, xs7, xs8, xs9, xs10, xi0, xi1, xi2, xi3, xi4, xi5, xi6, xi7, xi8, xi9, xi10, xc0, xc1, xc2, xc3, xc4, xc5, xc6, xc7, xv1, xv2, xv3, xv4, xv5, xv6, xv7, dT_le, dF_le, dT_lt, dF_lt]
  unfold f_J0_checkIndex_df160
  refine qa_fn_eq ?_ (by simp)
  rw [ev_J0_checkIndex_df160_0]
  have g : ∀ o : Int, q_call f_J3_checkIndex_8e157 3 (q_pop (q_vret)) [(0, i), (0, l)] [(1, o), (0, l), (0, i)] (m, kd, w) = some (.inr (.inl none, (m, kd, w))) := fun o => by
    simp (disch := omega) [x_const, x_iadd, x_isub, x_imul, x_idiv, x_irem, x_ineg, x_dup, x_dup_x1, x_dup2, x_pop, x_goto, x_ifeq, x_ifne, x_iflt, x_ifge, x_ifgt, x_ifle, x_cmpeq, x_cmpne, x_cmplt, x_cmpge, x_cmpgt, x_cmple, x_null, x_nonnull, x_acmpeq, x_acmpne, x_get, x_put, x_putz, x_ald, x_ast, x_bast, x_zast, x_aast, x_alen, x_obj, x_ret, x_retz, x_vret, x_max, x_min, x_copy, x_i2l, qg_none, qg_inl, qg_inr, qg_ite, xr1, xr0, xrE, xri, xl0, xl1, xl2, xl3, xl4, xl5, xl6, xl7, xl8, xl9, xl10, xs0, xs1, xs2, xs3, xs4, xs5, xs6, xs7, xs8, xs9, xs10, xi0, xi1, xi2, xi3, xi4, xi5, xi6, xi7, xi8, xi9, xi10, xc0, xc1, xc2, xc3, xc4, xc5, xc6, xc7, xv1, xv2, xv3, xv4, xv5, xv6, xv7, e]
  have gq : q_getq (q_call f_J3_checkIndex_8e157 3 (q_pop (q_vret))) [(0, i), (0, l)] [(0, l), (0, i)] (m, kd, w) = some (.inr (.inl none, (m, kd, w))) := x_getq (g _) (g _)
  simp [B_J0_checkIndex_df160_0, x_const, x_iadd, x_isub, x_imul, x_idiv, x_irem, x_ineg, x_dup, x_dup_x1, x_dup2, x_pop, x_goto, x_ifeq, x_ifne, x_iflt, x_ifge, x_ifgt, x_ifle, x_cmpeq, x_cmpne, x_cmplt, x_cmpge, x_cmpgt, x_cmple, x_null, x_nonnull, x_acmpeq, x_acmpne, x_get, x_put, x_putz, x_ald, x_ast, x_bast, x_zast, x_aast, x_alen, x_obj, x_ret, x_retz, x_vret, x_max, x_min, x_copy, x_i2l, qg_none, qg_inl, qg_inr, qg_ite, xr1, xr0, xrE, xri, xl0, xl1, xl2, xl3, xl4, xl5, xl6, xl7, xl8, xl9, xl10, xs0, xs1, xs2, xs3, xs4, xs5, xs6, xs7, xs8, xs9, xs10, xi0, xi1, xi2, xi3, xi4, xi5, xi6, xi7, xi8, xi9, xi10, xc0, xc1, xc2, xc3, xc4, xc5, xc6, xc7, xv1, xv2, xv3, xv4, xv5, xv6, xv7, gq]
theorem c_len {m : Int → Int → Int} {kd : Int → Nat × Int} {w : Nat × Nat × Nat} {sid : Int} {l : List Int} (h : tStr sid l) : f_J0_length_8abf5 [(1, sid)] (m, kd, w) = some (.inl (some (0, (l.length : Int))), (m, kd, w)) := by
  obtain ⟨vid, s1, s2, s3, s4, s5, s6⟩ := h
  have co : f_J0_coder_7d493 [(1, sid)] (m, kd, w) = some (.inl (some (0, 0)), (m, kd, w)) := by
    unfold f_J0_coder_7d493
    refine qa_fn_eq ?_ (by simp)
    simp (disch := omega) [ev_J0_coder_7d493_0, ev_J0_coder_7d493_1, ev_J0_coder_7d493_2, B_J0_coder_7d493_0, B_J0_coder_7d493_1, B_J0_coder_7d493_2, x_const, x_iadd, x_isub, x_imul, x_idiv, x_irem, x_ineg, x_dup, x_dup_x1, x_dup2, x_pop, x_goto, x_ifeq, x_ifne, x_iflt, x_ifge, x_ifgt, x_ifle, x_cmpeq, x_cmpne, x_cmplt, x_cmpge, x_cmpgt, x_cmple, x_null, x_nonnull, x_acmpeq, x_acmpne, x_get, x_put, x_putz, x_ald, x_ast, x_bast, x_zast, x_aast, x_alen, x_obj, x_ret, x_retz, x_vret, x_max, x_min, x_copy, x_i2l, qg_none, qg_inl, qg_inr, qg_ite, xr1, xr0, xrE, xri, xl0, xl1, xl2, xl3, xl4, xl5, xl6, xl7, xl8, xl9, xl10, xs0, xs1, xs2, xs3, xs4, xs5, xs6, xs7, xs8, xs9, xs10, xi0, xi1, xi2, xi3, xi4, xi5, xi6, xi7, xi8, xi9, xi10, xc0, xc1, xc2, xc3, xc4, xc5, xc6, xc7, xv1, xv2, xv3, xv4, xv5, xv6, xv7, dT_le, dF_le, dT_lt, dF_lt, x_sget _ _ _ _ s2, x_retby]
  unfold f_J0_length_8abf5
  refine qa_fn_eq ?_ (by simp)
  simp (disch := omega) [ev_J0_length_8abf5_0, B_J0_length_8abf5_0, x_const, x_iadd, x_isub, x_imul, x_idiv, x_irem, x_ineg, x_dup, x_dup_x1, x_dup2, x_pop, x_goto, x_ifeq, x_ifne, x_iflt, x_ifge, x_ifgt, x_ifle, x_cmpeq, x_cmpne, x_cmplt, x_cmpge, x_cmpgt, x_cmple, x_null, x_nonnull, x_acmpeq, x_acmpne, x_get, x_put, x_putz, x_ald, x_ast, x_bast, x_zast, x_aast, x_alen, x_obj, x_ret, x_retz, x_vret, x_max, x_min, x_copy, x_i2l, qg_none, qg_inl, qg_inr, qg_ite, xr1, xr0, xrE, xri, xl0, xl1, xl2, xl3, xl4, xl5, xl6, xl7, xl8, xl9, xl10, xs0, xs1, xs2, xs3, xs4, xs5, xs6, xs7, xs8, xs9, xs10, xi0, xi1, xi2, xi3, xi4, xi5, xi6, xi7, xi8, xi9, xi10, xc0, xc1, xc2, xc3, xc4, xc5, xc6, xc7, xv1, xv2, xv3, xv4, xv5, xv6, xv7, dT_le, dF_le, dT_lt, dF_lt, x_sget _ _ _ _ s1, x_slen _ _ _ _ s3 rfl, x_calls1 _ _ _ _ _ s4, co, x_ishr0]
theorem c_charAt {m : Int → Int → Int} {kd : Int → Nat × Int} {w : Nat × Nat × Nat} {sid i : Int} {l : List Int} (h : tStr sid l) (hi : 0 ≤ i ∧ i < (l.length : Int)) : f_J0_charAt_5068e [(1, sid), (0, i)] (m, kd, w) = some (.inl (some (0, l.getD i.toNat 0)), (m, kd, w)) := by
  obtain ⟨vid, s1, s2, s3, s4, s5, s6⟩ := h
  have la : f_J0_isLatin1_aae02 [(1, sid)] (m, kd, w) = some (.inl (some (0, 1)), (m, kd, w)) := by
    unfold f_J0_isLatin1_aae02
    refine qa_fn_eq ?_ (by simp)
    simp (disch := omega) [ev_J0_isLatin1_aae02_0, ev_J0_isLatin1_aae02_1, ev_J0_isLatin1_aae02_2, B_J0_isLatin1_aae02_0, B_J0_isLatin1_aae02_1, B_J0_isLatin1_aae02_2, x_const, x_iadd, x_isub, x_imul, x_idiv, x_irem, x_ineg, x_dup, x_dup_x1, x_dup2, x_pop, x_goto, x_ifeq, x_ifne, x_iflt, x_ifge, x_ifgt, x_ifle, x_cmpeq, x_cmpne, x_cmplt, x_cmpge, x_cmpgt, x_cmple, x_null, x_nonnull, x_acmpeq, x_acmpne, x_get, x_put, x_putz, x_ald, x_ast, x_bast, x_zast, x_aast, x_alen, x_obj, x_ret, x_retz, x_vret, x_max, x_min, x_copy, x_i2l, qg_none, qg_inl, qg_inr, qg_ite, xr1, xr0, xrE, xri, xl0, xl1, xl2, xl3, xl4, xl5, xl6, xl7, xl8, xl9, xl10, xs0, xs1, xs2, xs3, xs4, xs5, xs6, xs7, xs8, xs9, xs10, xi0, xi1, xi2, xi3, xi4, xi5, xi6, xi7, xi8, xi9, xi10, xc0, xc1, xc2, xc3, xc4, xc5, xc6, xc7, xv1, xv2, xv3, xv4, xv5, xv6, xv7, dT_le, dF_le, dT_lt, dF_lt, x_sget _ _ _ _ s2]
  have hlt : i.toNat < l.length := by omega
  have hv : 0 ≤ l.getD i.toNat 0 ∧ l.getD i.toNat 0 ≤ 127 := by
    rw [List.getD_eq_getElem?_getD, List.getElem?_eq_getElem hlt, Option.getD_some]
    exact s6 _ (List.getElem_mem hlt)
  generalize hvv : l.getD i.toNat 0 = v at hv ⊢
  have ci := c_checkIndex (m := m) (kd := kd) (w := w) hi
  have e255 : v % 256 = v := by omega
  have c1 : f_J1_charAt_3b067 [(1, vid), (0, i)] (m, kd, w) = some (.inl (some (0, v)), (m, kd, w)) := by
    unfold f_J1_charAt_3b067
    refine qa_fn_eq ?_ (by simp)
    simp (disch := omega) [ev_J1_charAt_3b067_0, B_J1_charAt_3b067_0, x_const, x_iadd, x_isub, x_imul, x_idiv, x_irem, x_ineg, x_dup, x_dup_x1, x_dup2, x_pop, x_goto, x_ifeq, x_ifne, x_iflt, x_ifge, x_ifgt, x_ifle, x_cmpeq, x_cmpne, x_cmplt, x_cmpge, x_cmpgt, x_cmple, x_null, x_nonnull, x_acmpeq, x_acmpne, x_get, x_put, x_putz, x_ald, x_ast, x_bast, x_zast, x_aast, x_alen, x_obj, x_ret, x_retz, x_vret, x_max, x_min, x_copy, x_i2l, qg_none, qg_inl, qg_inr, qg_ite, xr1, xr0, xrE, xri, xl0, xl1, xl2, xl3, xl4, xl5, xl6, xl7, xl8, xl9, xl10, xs0, xs1, xs2, xs3, xs4, xs5, xs6, xs7, xs8, xs9, xs10, xi0, xi1, xi2, xi3, xi4, xi5, xi6, xi7, xi8, xi9, xi10, xc0, xc1, xc2, xc3, xc4, xc5, xc6, xc7, xv1, xv2, xv3, xv4, xv5, xv6, xv7, dT_le, dF_le, dT_lt, dF_lt, x_slen _ _ _ _ s3 rfl, ci, x_sld 102 _ _ _ _ s3 rfl hi hvv, x_iand, e255, x_i2c, x_retc]
  unfold f_J0_charAt_5068e
  refine qa_fn_eq ?_ (by simp)
  simp (disch := omega) [ev_J0_charAt_5068e_0, ev_J0_charAt_5068e_1, B_J0_charAt_5068e_0, B_J0_charAt_5068e_1, x_const, x_iadd, x_isub, x_imul, x_idiv, x_irem, x_ineg, x_dup, x_dup_x1, x_dup2, x_pop, x_goto, x_ifeq, x_ifne, x_iflt, x_ifge, x_ifgt, x_ifle, x_cmpeq, x_cmpne, x_cmplt, x_cmpge, x_cmpgt, x_cmple, x_null, x_nonnull, x_acmpeq, x_acmpne, x_get, x_put, x_putz, x_ald, x_ast, x_bast, x_zast, x_aast, x_alen, x_obj, x_ret, x_retz, x_vret, x_max, x_min, x_copy, x_i2l, qg_none, qg_inl, qg_inr, qg_ite, xr1, xr0, xrE, xri, xl0, xl1, xl2, xl3, xl4, xl5, xl6, xl7, xl8, xl9, xl10, xs0, xs1, xs2, xs3, xs4, xs5, xs6, xs7, xs8, xs9, xs10, xi0, xi1, xi2, xi3, xi4, xi5, xi6, xi7, xi8, xi9, xi10, xc0, xc1, xc2, xc3, xc4, xc5, xc6, xc7, xv1, xv2, xv3, xv4, xv5, xv6, xv7, dT_le, dF_le, dT_lt, dF_lt, x_calls1 _ _ _ _ _ s4, la, x_sget _ _ _ _ s1, c1, x_retc]
