def tNx (m : Int → Int → Int) (k s b : Int) : Int → Int → Int := fun c i => if c = 71 ∧ i = 7 then k else if c = 71 ∧ i = 8 then s else if c = 71 ∧ i = 9 then b else m c i
theorem tNx_no {m : Int → Int → Int} {k s b c i : Int} (h : c ≠ 71 ∨ (i ≠ 7 ∧ i ≠ 8 ∧ i ≠ 9)) : tNx m k s b c i = m c i := by
  unfold tNx
  rw [if_neg (by omega), if_neg (by omega), if_neg (by omega)]
theorem tNx_7 (m : Int → Int → Int) (k s b : Int) : tNx m k s b 71 7 = k := if_pos ⟨rfl, rfl⟩
theorem tNx_8 (m : Int → Int → Int) (k s b : Int) : tNx m k s b 71 8 = s := by
  unfold tNx
  rw [if_neg (by omega), if_pos ⟨rfl, rfl⟩]
theorem tNx_9 (m : Int → Int → Int) (k s b : Int) : tNx m k s b 71 9 = b := by
  unfold tNx
  rw [if_neg (by omega), if_neg (by omega), if_pos ⟨rfl, rfl⟩]
theorem tNx_eq {m : Int → Int → Int} {k s b : Int} : qa_up (qa_up (qa_up m 71 8 s) 71 7 k) 71 9 b = tNx m k s b := by
  funext c i
  unfold qa_up tNx
  by_cases hc : c = 71
  · by_cases h9 : i = 9
    · subst h9; simp [hc]
    · by_cases h7 : i = 7
      · subst h7; simp [hc]
      · by_cases h8 : i = 8
        · subst h8; simp [hc]
        · simp [hc, h9, h7, h8]
  · simp [hc]
theorem tNx_up {m : Int → Int → Int} {k s b b' : Int} : qa_up (tNx m k s b) 71 9 b' = tNx m k s b' := by
  funext c i
  unfold qa_up tNx
  by_cases hc : c = 71
  · by_cases h9 : i = 9
    · subst h9; simp [hc]
    · simp [hc, h9]
  · simp [hc]
theorem MSc_71 {T : Int → Int} {n : Int} {m m' : Int → Int → Int} (h : MSc T n m) (ho : m' 72 = m 72) (hi : ∀ i, 0 ≤ i → i ≤ 3 → m' 71 i = m 71 i) : MSc T n m' := by
  obtain ⟨m0, m1, m2, m3, hn, hT, ht⟩ := h
  refine ⟨by rw [hi 0 (by decide) (by decide)]; exact m0, by rw [hi 1 (by decide) (by decide)]; exact m1, by rw [hi 2 (by decide) (by decide)]; exact m2, by rw [hi 3 (by decide) (by decide)]; exact m3, hn, hT, fun i a b => by rw [ho]; exact ht i a b⟩
theorem MSc_Nx {T : Int → Int} {n k s b : Int} {m : Int → Int → Int} (h : MSc T n m) : MSc T n (tNx m k s b) := MSc_71 h (by funext i; exact tNx_no (Or.inl (by decide))) (fun i a b => tNx_no (Or.inr ⟨by omega, by omega, by omega⟩))
theorem c_next {m : Int → Int → Int} {kd : Int → Nat × Int} {w : Nat × Nat × Nat} {T : Int → Int} {n a : Int} (hK : KSc kd) (hM : MSc T n m) (h9 : m 71 9 = a) (ha : 0 ≤ a ∧ a ≤ n) : f_X8_next [(1, 71)] (m, kd, w) = some (.inl none, (tNx m (tKi T n a) (tSt T n a) (tBe T n a), kd, w)) := by
  have hM' := hM
  obtain ⟨m0, m1, m2, m3, hn, hT, ht⟩ := hM'
  have k1 := hK.1
  have skip : ∀ (q : Nat) (k : Int) (l : qV), 0 ≤ k → k ≤ n → (n - k).toNat = q → qa_ev P_X8_next 1 [(1, 71), (0, k), l] [] (m, kd, w) = qa_ev P_X8_next 2 [(1, 71), (0, tSt T n k), l] [] (m, kd, w) := by
    intro q
    induction q with
    | zero =>
      intro k l h1 h2 h3
      have e : k = n := by omega
      rw [tSt_end (by omega), e, ev_X8_next_1]
      simp (disch := omega) [ev_X8_next_0, ev_X8_next_3, ev_X8_next_4, ev_X8_next_5, ev_X8_next_6, ev_X8_next_7, ev_X8_next_9, B_X8_next_0, B_X8_next_1, B_X8_next_2, B_X8_next_3, B_X8_next_4, B_X8_next_5, B_X8_next_6, B_X8_next_7, B_X8_next_8, B_X8_next_9, x_const, x_iadd, x_isub, x_imul, x_idiv, x_irem, x_ineg, x_dup, x_dup_x1, x_dup2, x_pop, x_goto, x_ifeq, x_ifne, x_iflt, x_ifge, x_ifgt, x_ifle, x_cmpeq, x_cmpne, x_cmplt, x_cmpge, x_cmpgt, x_cmple, x_null, x_nonnull, x_acmpeq, x_acmpne, x_get, x_put, x_putz, x_ald, x_ast, x_bast, x_zast, x_aast, x_alen, x_obj, x_ret, x_retz, x_vret, x_max, x_min, x_copy, x_i2l, qg_none, qg_inl, qg_inr, qg_ite, xr1, xr0, xrE, xri, xl0, xl1, xl2, xl3, xl4, xl5, xl6, xl7, xl8, xl9, xl10, xs0, xs1, xs2, xs3, xs4, xs5, xs6, xs7, xs8, xs9, xs10, xi0, xi1, xi2, xi3, xi4, xi5, xi6, xi7, xi8, xi9, xi10, xc0, xc1, xc2, xc3, xc4, xc5, xc6, xc7, xv1, xv2, xv3, xv4, xv5, xv6, xv7, dT_le, dF_le, dT_lt, dF_lt, k1, m1]
    | succ q ih =>
      intro k l h1 h2 h3
      have hb := c_byteAt (w := w) hK hM k
      have hbl := c_isBlank (m := m) (kd := kd) (w := w) (tbt T n k)
      have ih' := ih (k + 1) l (by omega) (by omega) (by omega)
      rw [tSt_up (by omega), ev_X8_next_1]
      by_cases hc : tbt T n k = 32 ∨ tbt T n k = 10
      · rw [if_pos hc] at hbl ⊢
        simp (disch := omega) [ev_X8_next_0, ev_X8_next_3, ev_X8_next_4, ev_X8_next_5, ev_X8_next_6, ev_X8_next_7, ev_X8_next_9, B_X8_next_0, B_X8_next_1, B_X8_next_2, B_X8_next_3, B_X8_next_4, B_X8_next_5, B_X8_next_6, B_X8_next_7, B_X8_next_8, B_X8_next_9, x_const, x_iadd, x_isub, x_imul, x_idiv, x_irem, x_ineg, x_dup, x_dup_x1, x_dup2, x_pop, x_goto, x_ifeq, x_ifne, x_iflt, x_ifge, x_ifgt, x_ifle, x_cmpeq, x_cmpne, x_cmplt, x_cmpge, x_cmpgt, x_cmple, x_null, x_nonnull, x_acmpeq, x_acmpne, x_get, x_put, x_putz, x_ald, x_ast, x_bast, x_zast, x_aast, x_alen, x_obj, x_ret, x_retz, x_vret, x_max, x_min, x_copy, x_i2l, qg_none, qg_inl, qg_inr, qg_ite, xr1, xr0, xrE, xri, xl0, xl1, xl2, xl3, xl4, xl5, xl6, xl7, xl8, xl9, xl10, xs0, xs1, xs2, xs3, xs4, xs5, xs6, xs7, xs8, xs9, xs10, xi0, xi1, xi2, xi3, xi4, xi5, xi6, xi7, xi8, xi9, xi10, xc0, xc1, xc2, xc3, xc4, xc5, xc6, xc7, xv1, xv2, xv3, xv4, xv5, xv6, xv7, dT_le, dF_le, dT_lt, dF_lt, k1, m1, hb, hbl, ih']
      · rw [if_neg hc] at hbl ⊢
        simp (disch := omega) [ev_X8_next_0, ev_X8_next_3, ev_X8_next_4, ev_X8_next_5, ev_X8_next_6, ev_X8_next_7, ev_X8_next_9, B_X8_next_0, B_X8_next_1, B_X8_next_2, B_X8_next_3, B_X8_next_4, B_X8_next_5, B_X8_next_6, B_X8_next_7, B_X8_next_8, B_X8_next_9, x_const, x_iadd, x_isub, x_imul, x_idiv, x_irem, x_ineg, x_dup, x_dup_x1, x_dup2, x_pop, x_goto, x_ifeq, x_ifne, x_iflt, x_ifge, x_ifgt, x_ifle, x_cmpeq, x_cmpne, x_cmplt, x_cmpge, x_cmpgt, x_cmple, x_null, x_nonnull, x_acmpeq, x_acmpne, x_get, x_put, x_putz, x_ald, x_ast, x_bast, x_zast, x_aast, x_alen, x_obj, x_ret, x_retz, x_vret, x_max, x_min, x_copy, x_i2l, qg_none, qg_inl, qg_inr, qg_ite, xr1, xr0, xrE, xri, xl0, xl1, xl2, xl3, xl4, xl5, xl6, xl7, xl8, xl9, xl10, xs0, xs1, xs2, xs3, xs4, xs5, xs6, xs7, xs8, xs9, xs10, xi0, xi1, xi2, xi3, xi4, xi5, xi6, xi7, xi8, xi9, xi10, xc0, xc1, xc2, xc3, xc4, xc5, xc6, xc7, xv1, xv2, xv3, xv4, xv5, xv6, xv7, dT_le, dF_le, dT_lt, dF_lt, k1, m1, hb, hbl]
  have hsb := tSt_b T ha.2
  have sk := fun l => skip (n - a).toNat a l ha.1 ha.2 rfl
  have hM8 : MSc T n (qa_up m 71 8 (tSt T n a)) := MSc_71 hM (by funext i; exact qa_up_no _ (by omega)) (fun i a b => qa_up_no _ (by omega))
  have hb8 := c_byteAt (w := w) hK hM8 (tSt T n a)
  have hk8 := c_kindOf (m := qa_up m 71 8 (tSt T n a)) (kd := kd) (w := w) (tbt T n (tSt T n a))
  change f_X8_kindOf _ _ = some (.inl (some (0, tKi T n a)), _) at hk8
  have run : ∀ (q : Nat) (b : Int), 0 ≤ b → b ≤ n → (n - b).toNat = q → qa_ev P_X8_next 8 [(1, 71), (0, tSt T n a), (0, 1)] [] (tNx m (tKi T n a) (tSt T n a) b, kd, w) = some (.inl none, (tNx m (tKi T n a) (tSt T n a) (tRn T n (tKi T n a) b), kd, w)) := by
    intro q
    induction q with
    | zero =>
      intro b h1 h2 h3
      have e : b = n := by omega
      have x9 := tNx_9 m (tKi T n a) (tSt T n a) b
      have x1 : tNx m (tKi T n a) (tSt T n a) b 71 1 = n := by rw [tNx_no (by omega)]; exact m1
      rw [tRn_end (by omega), ev_X8_next_8]
      simp (disch := omega) [ev_X8_next_0, ev_X8_next_3, ev_X8_next_4, ev_X8_next_5, ev_X8_next_6, ev_X8_next_7, ev_X8_next_9, B_X8_next_0, B_X8_next_1, B_X8_next_2, B_X8_next_3, B_X8_next_4, B_X8_next_5, B_X8_next_6, B_X8_next_7, B_X8_next_8, B_X8_next_9, x_const, x_iadd, x_isub, x_imul, x_idiv, x_irem, x_ineg, x_dup, x_dup_x1, x_dup2, x_pop, x_goto, x_ifeq, x_ifne, x_iflt, x_ifge, x_ifgt, x_ifle, x_cmpeq, x_cmpne, x_cmplt, x_cmpge, x_cmpgt, x_cmple, x_null, x_nonnull, x_acmpeq, x_acmpne, x_get, x_put, x_putz, x_ald, x_ast, x_bast, x_zast, x_aast, x_alen, x_obj, x_ret, x_retz, x_vret, x_max, x_min, x_copy, x_i2l, qg_none, qg_inl, qg_inr, qg_ite, xr1, xr0, xrE, xri, xl0, xl1, xl2, xl3, xl4, xl5, xl6, xl7, xl8, xl9, xl10, xs0, xs1, xs2, xs3, xs4, xs5, xs6, xs7, xs8, xs9, xs10, xi0, xi1, xi2, xi3, xi4, xi5, xi6, xi7, xi8, xi9, xi10, xc0, xc1, xc2, xc3, xc4, xc5, xc6, xc7, xv1, xv2, xv3, xv4, xv5, xv6, xv7, dT_le, dF_le, dT_lt, dF_lt, k1, x1, x9]
    | succ q ih =>
      intro b h1 h2 h3
      have x9 := tNx_9 m (tKi T n a) (tSt T n a) b
      have x7 := tNx_7 m (tKi T n a) (tSt T n a) b
      have x1 : tNx m (tKi T n a) (tSt T n a) b 71 1 = n := by rw [tNx_no (by omega)]; exact m1
      have hb := c_byteAt (w := w) hK (MSc_Nx (k := tKi T n a) (s := tSt T n a) (b := b) hM) b
      have hk := c_kindOf (m := tNx m (tKi T n a) (tSt T n a) b) (kd := kd) (w := w) (tbt T n b)
      have ih' := ih (b + 1) (by omega) (by omega) (by omega)
      have up := tNx_up (m := m) (k := tKi T n a) (s := tSt T n a) (b := b) (b' := b + 1)
      rw [tRn_up (by omega), ev_X8_next_8]
      by_cases hc : tkd (tbt T n b) = tKi T n a
      · rw [hc] at hk
        rw [if_pos hc]
        simp (disch := omega) [ev_X8_next_0, ev_X8_next_3, ev_X8_next_4, ev_X8_next_5, ev_X8_next_6, ev_X8_next_7, ev_X8_next_9, B_X8_next_0, B_X8_next_1, B_X8_next_2, B_X8_next_3, B_X8_next_4, B_X8_next_5, B_X8_next_6, B_X8_next_7, B_X8_next_8, B_X8_next_9, x_const, x_iadd, x_isub, x_imul, x_idiv, x_irem, x_ineg, x_dup, x_dup_x1, x_dup2, x_pop, x_goto, x_ifeq, x_ifne, x_iflt, x_ifge, x_ifgt, x_ifle, x_cmpeq, x_cmpne, x_cmplt, x_cmpge, x_cmpgt, x_cmple, x_null, x_nonnull, x_acmpeq, x_acmpne, x_get, x_put, x_putz, x_ald, x_ast, x_bast, x_zast, x_aast, x_alen, x_obj, x_ret, x_retz, x_vret, x_max, x_min, x_copy, x_i2l, qg_none, qg_inl, qg_inr, qg_ite, xr1, xr0, xrE, xri, xl0, xl1, xl2, xl3, xl4, xl5, xl6, xl7, xl8, xl9, xl10, xs0, xs1, xs2, xs3, xs4, xs5, xs6, xs7, xs8, xs9, xs10, xi0, xi1, xi2, xi3, xi4, xi5, xi6, xi7, xi8, xi9, xi10, xc0, xc1, xc2, xc3, xc4, xc5, xc6, xc7, xv1, xv2, xv3, xv4, xv5, xv6, xv7, dT_le, dF_le, dT_lt, dF_lt, k1, x1, x9, x7, hb, hk, up, ih']
      · rw [if_neg hc]
        simp (disch := omega) [ev_X8_next_0, ev_X8_next_3, ev_X8_next_4, ev_X8_next_5, ev_X8_next_6, ev_X8_next_7, ev_X8_next_9, B_X8_next_0, B_X8_next_1, B_X8_next_2, B_X8_next_3, B_X8_next_4, B_X8_next_5, B_X8_next_6, B_X8_next_7, B_X8_next_8, B_X8_next_9, x_const, x_iadd, x_isub, x_imul, x_idiv, x_irem, x_ineg, x_dup, x_dup_x1, x_dup2, x_pop, x_goto, x_ifeq, x_ifne, x_iflt, x_ifge, x_ifgt, x_ifle, x_cmpeq, x_cmpne, x_cmplt, x_cmpge, x_cmpgt, x_cmple, x_null, x_nonnull, x_acmpeq, x_acmpne, x_get, x_put, x_putz, x_ald, x_ast, x_bast, x_zast, x_aast, x_alen, x_obj, x_ret, x_retz, x_vret, x_max, x_min, x_copy, x_i2l, qg_none, qg_inl, qg_inr, qg_ite, xr1, xr0, xrE, xri, xl0, xl1, xl2, xl3, xl4, xl5, xl6, xl7, xl8, xl9, xl10, xs0, xs1, xs2, xs3, xs4, xs5, xs6, xs7, xs8, xs9, xs10, xi0, xi1, xi2, xi3, xi4, xi5, xi6, xi7, xi8, xi9, xi10, xc0, xc1, xc2, xc3, xc4, xc5, xc6, xc7, xv1, xv2, xv3, xv4, xv5, xv6, xv7, dT_le, dF_le, dT_lt, dF_lt, dF_eq, k1, x1, x9, x7, hb, hk, hc]
  have stop : ∀ b, qa_ev P_X8_next 8 [(1, 71), (0, tSt T n a), (0, 0)] [] (tNx m (tKi T n a) (tSt T n a) b, kd, w) = some (.inl none, (tNx m (tKi T n a) (tSt T n a) b, kd, w)) := fun b => by
    rw [ev_X8_next_8]
    simp (disch := omega) [ev_X8_next_0, ev_X8_next_3, ev_X8_next_4, ev_X8_next_5, ev_X8_next_6, ev_X8_next_7, ev_X8_next_9, B_X8_next_0, B_X8_next_1, B_X8_next_2, B_X8_next_3, B_X8_next_4, B_X8_next_5, B_X8_next_6, B_X8_next_7, B_X8_next_8, B_X8_next_9, x_const, x_iadd, x_isub, x_imul, x_idiv, x_irem, x_ineg, x_dup, x_dup_x1, x_dup2, x_pop, x_goto, x_ifeq, x_ifne, x_iflt, x_ifge, x_ifgt, x_ifle, x_cmpeq, x_cmpne, x_cmplt, x_cmpge, x_cmpgt, x_cmple, x_null, x_nonnull, x_acmpeq, x_acmpne, x_get, x_put, x_putz, x_ald, x_ast, x_bast, x_zast, x_aast, x_alen, x_obj, x_ret, x_retz, x_vret, x_max, x_min, x_copy, x_i2l, qg_none, qg_inl, qg_inr, qg_ite, xr1, xr0, xrE, xri, xl0, xl1, xl2, xl3, xl4, xl5, xl6, xl7, xl8, xl9, xl10, xs0, xs1, xs2, xs3, xs4, xs5, xs6, xs7, xs8, xs9, xs10, xi0, xi1, xi2, xi3, xi4, xi5, xi6, xi7, xi8, xi9, xi10, xc0, xc1, xc2, xc3, xc4, xc5, xc6, xc7, xv1, xv2, xv3, xv4, xv5, xv6, xv7, dT_le, dF_le, dT_lt, dF_lt]
  have e1 : qa_up (qa_up m 71 8 (tSt T n a)) 71 7 (tKi T n a) 71 1 = n := by rw [qa_up_no _ (by omega), qa_up_no _ (by omega)]; exact m1
  have up := fun b => tNx_eq (m := m) (k := tKi T n a) (s := tSt T n a) (b := b)
  have x7 := fun b => tNx_7 m (tKi T n a) (tSt T n a) b
  unfold tBe
  by_cases hl : tSt T n a < n
  · rw [if_pos hl]
    have rn := run (n - (tSt T n a + 1)).toNat (tSt T n a + 1) (by omega) (by omega) rfl
    have hq : tKi T n a = 1 ∨ tKi T n a = 2 ∨ ¬ (tKi T n a = 1 ∨ tKi T n a = 2) := by omega
    rcases hq with hq | hq | hq
    · rw [if_pos (Or.inl hq)]
      rw [hq] at hk8 rn up x7 e1 ⊢
      unfold f_X8_next
      refine qa_fn_eq ?_ (by simp)
      simp (disch := omega) [ev_X8_next_0, ev_X8_next_3, ev_X8_next_4, ev_X8_next_5, ev_X8_next_6, ev_X8_next_7, ev_X8_next_9, B_X8_next_0, B_X8_next_1, B_X8_next_2, B_X8_next_3, B_X8_next_4, B_X8_next_5, B_X8_next_6, B_X8_next_7, B_X8_next_8, B_X8_next_9, x_const, x_iadd, x_isub, x_imul, x_idiv, x_irem, x_ineg, x_dup, x_dup_x1, x_dup2, x_pop, x_goto, x_ifeq, x_ifne, x_iflt, x_ifge, x_ifgt, x_ifle, x_cmpeq, x_cmpne, x_cmplt, x_cmpge, x_cmpgt, x_cmple, x_null, x_nonnull, x_acmpeq, x_acmpne, x_get, x_put, x_putz, x_ald, x_ast, x_bast, x_zast, x_aast, x_alen, x_obj, x_ret, x_retz, x_vret, x_max, x_min, x_copy, x_i2l, qg_none, qg_inl, qg_inr, qg_ite, xr1, xr0, xrE, xri, xl0, xl1, xl2, xl3, xl4, xl5, xl6, xl7, xl8, xl9, xl10, xs0, xs1, xs2, xs3, xs4, xs5, xs6, xs7, xs8, xs9, xs10, xi0, xi1, xi2, xi3, xi4, xi5, xi6, xi7, xi8, xi9, xi10, xc0, xc1, xc2, xc3, xc4, xc5, xc6, xc7, xv1, xv2, xv3, xv4, xv5, xv6, xv7, dT_le, dF_le, dT_lt, dF_lt, k1, h9, sk]
      rw [ev_X8_next_2]
      simp (disch := omega) [ev_X8_next_0, ev_X8_next_3, ev_X8_next_4, ev_X8_next_5, ev_X8_next_6, ev_X8_next_7, ev_X8_next_9, B_X8_next_0, B_X8_next_1, B_X8_next_2, B_X8_next_3, B_X8_next_4, B_X8_next_5, B_X8_next_6, B_X8_next_7, B_X8_next_8, B_X8_next_9, x_const, x_iadd, x_isub, x_imul, x_idiv, x_irem, x_ineg, x_dup, x_dup_x1, x_dup2, x_pop, x_goto, x_ifeq, x_ifne, x_iflt, x_ifge, x_ifgt, x_ifle, x_cmpeq, x_cmpne, x_cmplt, x_cmpge, x_cmpgt, x_cmple, x_null, x_nonnull, x_acmpeq, x_acmpne, x_get, x_put, x_putz, x_ald, x_ast, x_bast, x_zast, x_aast, x_alen, x_obj, x_ret, x_retz, x_vret, x_max, x_min, x_copy, x_i2l, qg_none, qg_inl, qg_inr, qg_ite, xr1, xr0, xrE, xri, xl0, xl1, xl2, xl3, xl4, xl5, xl6, xl7, xl8, xl9, xl10, xs0, xs1, xs2, xs3, xs4, xs5, xs6, xs7, xs8, xs9, xs10, xi0, xi1, xi2, xi3, xi4, xi5, xi6, xi7, xi8, xi9, xi10, xc0, xc1, xc2, xc3, xc4, xc5, xc6, xc7, xv1, xv2, xv3, xv4, xv5, xv6, xv7, dT_le, dF_le, dT_lt, dF_lt, k1, hb8, hk8, e1, up, x7, rn]
    · rw [if_pos (Or.inr hq)]
      rw [hq] at hk8 rn up x7 e1 ⊢
      unfold f_X8_next
      refine qa_fn_eq ?_ (by simp)
      simp (disch := omega) [ev_X8_next_0, ev_X8_next_3, ev_X8_next_4, ev_X8_next_5, ev_X8_next_6, ev_X8_next_7, ev_X8_next_9, B_X8_next_0, B_X8_next_1, B_X8_next_2, B_X8_next_3, B_X8_next_4, B_X8_next_5, B_X8_next_6, B_X8_next_7, B_X8_next_8, B_X8_next_9, x_const, x_iadd, x_isub, x_imul, x_idiv, x_irem, x_ineg, x_dup, x_dup_x1, x_dup2, x_pop, x_goto, x_ifeq, x_ifne, x_iflt, x_ifge, x_ifgt, x_ifle, x_cmpeq, x_cmpne, x_cmplt, x_cmpge, x_cmpgt, x_cmple, x_null, x_nonnull, x_acmpeq, x_acmpne, x_get, x_put, x_putz, x_ald, x_ast, x_bast, x_zast, x_aast, x_alen, x_obj, x_ret, x_retz, x_vret, x_max, x_min, x_copy, x_i2l, qg_none, qg_inl, qg_inr, qg_ite, xr1, xr0, xrE, xri, xl0, xl1, xl2, xl3, xl4, xl5, xl6, xl7, xl8, xl9, xl10, xs0, xs1, xs2, xs3, xs4, xs5, xs6, xs7, xs8, xs9, xs10, xi0, xi1, xi2, xi3, xi4, xi5, xi6, xi7, xi8, xi9, xi10, xc0, xc1, xc2, xc3, xc4, xc5, xc6, xc7, xv1, xv2, xv3, xv4, xv5, xv6, xv7, dT_le, dF_le, dT_lt, dF_lt, k1, h9, sk]
      rw [ev_X8_next_2]
      simp (disch := omega) [ev_X8_next_0, ev_X8_next_3, ev_X8_next_4, ev_X8_next_5, ev_X8_next_6, ev_X8_next_7, ev_X8_next_9, B_X8_next_0, B_X8_next_1, B_X8_next_2, B_X8_next_3, B_X8_next_4, B_X8_next_5, B_X8_next_6, B_X8_next_7, B_X8_next_8, B_X8_next_9, x_const, x_iadd, x_isub, x_imul, x_idiv, x_irem, x_ineg, x_dup, x_dup_x1, x_dup2, x_pop, x_goto, x_ifeq, x_ifne, x_iflt, x_ifge, x_ifgt, x_ifle, x_cmpeq, x_cmpne, x_cmplt, x_cmpge, x_cmpgt, x_cmple, x_null, x_nonnull, x_acmpeq, x_acmpne, x_get, x_put, x_putz, x_ald, x_ast, x_bast, x_zast, x_aast, x_alen, x_obj, x_ret, x_retz, x_vret, x_max, x_min, x_copy, x_i2l, qg_none, qg_inl, qg_inr, qg_ite, xr1, xr0, xrE, xri, xl0, xl1, xl2, xl3, xl4, xl5, xl6, xl7, xl8, xl9, xl10, xs0, xs1, xs2, xs3, xs4, xs5, xs6, xs7, xs8, xs9, xs10, xi0, xi1, xi2, xi3, xi4, xi5, xi6, xi7, xi8, xi9, xi10, xc0, xc1, xc2, xc3, xc4, xc5, xc6, xc7, xv1, xv2, xv3, xv4, xv5, xv6, xv7, dT_le, dF_le, dT_lt, dF_lt, k1, hb8, hk8, e1, up, x7, rn]
    · rw [if_neg hq]
      have q1 : ¬ tKi T n a = 1 := fun z => hq (Or.inl z)
      have q2 : ¬ tKi T n a = 2 := fun z => hq (Or.inr z)
      unfold f_X8_next
      refine qa_fn_eq ?_ (by simp)
      simp (disch := omega) [ev_X8_next_0, ev_X8_next_3, ev_X8_next_4, ev_X8_next_5, ev_X8_next_6, ev_X8_next_7, ev_X8_next_9, B_X8_next_0, B_X8_next_1, B_X8_next_2, B_X8_next_3, B_X8_next_4, B_X8_next_5, B_X8_next_6, B_X8_next_7, B_X8_next_8, B_X8_next_9, x_const, x_iadd, x_isub, x_imul, x_idiv, x_irem, x_ineg, x_dup, x_dup_x1, x_dup2, x_pop, x_goto, x_ifeq, x_ifne, x_iflt, x_ifge, x_ifgt, x_ifle, x_cmpeq, x_cmpne, x_cmplt, x_cmpge, x_cmpgt, x_cmple, x_null, x_nonnull, x_acmpeq, x_acmpne, x_get, x_put, x_putz, x_ald, x_ast, x_bast, x_zast, x_aast, x_alen, x_obj, x_ret, x_retz, x_vret, x_max, x_min, x_copy, x_i2l, qg_none, qg_inl, qg_inr, qg_ite, xr1, xr0, xrE, xri, xl0, xl1, xl2, xl3, xl4, xl5, xl6, xl7, xl8, xl9, xl10, xs0, xs1, xs2, xs3, xs4, xs5, xs6, xs7, xs8, xs9, xs10, xi0, xi1, xi2, xi3, xi4, xi5, xi6, xi7, xi8, xi9, xi10, xc0, xc1, xc2, xc3, xc4, xc5, xc6, xc7, xv1, xv2, xv3, xv4, xv5, xv6, xv7, dT_le, dF_le, dT_lt, dF_lt, k1, h9, sk]
      rw [ev_X8_next_2]
      simp (disch := omega) [ev_X8_next_0, ev_X8_next_3, ev_X8_next_4, ev_X8_next_5, ev_X8_next_6, ev_X8_next_7, ev_X8_next_9, B_X8_next_0, B_X8_next_1, B_X8_next_2, B_X8_next_3, B_X8_next_4, B_X8_next_5, B_X8_next_6, B_X8_next_7, B_X8_next_8, B_X8_next_9, x_const, x_iadd, x_isub, x_imul, x_idiv, x_irem, x_ineg, x_dup, x_dup_x1, x_dup2, x_pop, x_goto, x_ifeq, x_ifne, x_iflt, x_ifge, x_ifgt, x_ifle, x_cmpeq, x_cmpne, x_cmplt, x_cmpge, x_cmpgt, x_cmple, x_null, x_nonnull, x_acmpeq, x_acmpne, x_get, x_put, x_putz, x_ald, x_ast, x_bast, x_zast, x_aast, x_alen, x_obj, x_ret, x_retz, x_vret, x_max, x_min, x_copy, x_i2l, qg_none, qg_inl, qg_inr, qg_ite, xr1, xr0, xrE, xri, xl0, xl1, xl2, xl3, xl4, xl5, xl6, xl7, xl8, xl9, xl10, xs0, xs1, xs2, xs3, xs4, xs5, xs6, xs7, xs8, xs9, xs10, xi0, xi1, xi2, xi3, xi4, xi5, xi6, xi7, xi8, xi9, xi10, xc0, xc1, xc2, xc3, xc4, xc5, xc6, xc7, xv1, xv2, xv3, xv4, xv5, xv6, xv7, dT_le, dF_le, dT_lt, dF_lt, dF_eq, k1, hb8, hk8, e1, up, x7, q1, q2, stop]
  · rw [if_neg hl]
    have h0 : tKi T n a = 0 := (tKi_0 hT ha).mpr (by omega)
    rw [h0] at hk8 up x7 e1 stop ⊢
    unfold f_X8_next
    refine qa_fn_eq ?_ (by simp)
    simp (disch := omega) [ev_X8_next_0, ev_X8_next_3, ev_X8_next_4, ev_X8_next_5, ev_X8_next_6, ev_X8_next_7, ev_X8_next_9, B_X8_next_0, B_X8_next_1, B_X8_next_2, B_X8_next_3, B_X8_next_4, B_X8_next_5, B_X8_next_6, B_X8_next_7, B_X8_next_8, B_X8_next_9, x_const, x_iadd, x_isub, x_imul, x_idiv, x_irem, x_ineg, x_dup, x_dup_x1, x_dup2, x_pop, x_goto, x_ifeq, x_ifne, x_iflt, x_ifge, x_ifgt, x_ifle, x_cmpeq, x_cmpne, x_cmplt, x_cmpge, x_cmpgt, x_cmple, x_null, x_nonnull, x_acmpeq, x_acmpne, x_get, x_put, x_putz, x_ald, x_ast, x_bast, x_zast, x_aast, x_alen, x_obj, x_ret, x_retz, x_vret, x_max, x_min, x_copy, x_i2l, qg_none, qg_inl, qg_inr, qg_ite, xr1, xr0, xrE, xri, xl0, xl1, xl2, xl3, xl4, xl5, xl6, xl7, xl8, xl9, xl10, xs0, xs1, xs2, xs3, xs4, xs5, xs6, xs7, xs8, xs9, xs10, xi0, xi1, xi2, xi3, xi4, xi5, xi6, xi7, xi8, xi9, xi10, xc0, xc1, xc2, xc3, xc4, xc5, xc6, xc7, xv1, xv2, xv3, xv4, xv5, xv6, xv7, dT_le, dF_le, dT_lt, dF_lt, k1, h9, sk]
    rw [ev_X8_next_2]
    simp (disch := omega) [ev_X8_next_0, ev_X8_next_3, ev_X8_next_4, ev_X8_next_5, ev_X8_next_6, ev_X8_next_7, ev_X8_next_9, B_X8_next_0, B_X8_next_1, B_X8_next_2, B_X8_next_3, B_X8_next_4, B_X8_next_5, B_X8_next_6, B_X8_next_7, B_X8_next_8, B_X8_next_9, x_const, x_iadd, x_isub, x_imul, x_idiv, x_irem, x_ineg, x_dup, x_dup_x1, x_dup2, x_pop, x_goto, x_ifeq, x_ifne, x_iflt, x_ifge, x_ifgt, x_ifle, x_cmpeq, x_cmpne, x_cmplt, x_cmpge, x_cmpgt, x_cmple, x_null, x_nonnull, x_acmpeq, x_acmpne, x_get, x_put, x_putz, x_ald, x_ast, x_bast, x_zast, x_aast, x_alen, x_obj, x_ret, x_retz, x_vret, x_max, x_min, x_copy, x_i2l, qg_none, qg_inl, qg_inr, qg_ite, xr1, xr0, xrE, xri, xl0, xl1, xl2, xl3, xl4, xl5, xl6, xl7, xl8, xl9, xl10, xs0, xs1, xs2, xs3, xs4, xs5, xs6, xs7, xs8, xs9, xs10, xi0, xi1, xi2, xi3, xi4, xi5, xi6, xi7, xi8, xi9, xi10, xc0, xc1, xc2, xc3, xc4, xc5, xc6, xc7, xv1, xv2, xv3, xv4, xv5, xv6, xv7, dT_le, dF_le, dT_lt, dF_lt, k1, hb8, hk8, e1, up, x7, stop]
