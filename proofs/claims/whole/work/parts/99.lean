def tmf (T : Int → Int) (n s : Int) (l : List Int) : Nat → Int → Int
  | 0, _ => 1
  | q + 1, i => if tbt T n (s + i) = l.getD i.toNat 0 then tmf T n s l q (i + 1) else 0
def tIs (T : Int → Int) (n a : Int) (l : List Int) : Int := if tKi T n a = 1 ∧ tBe T n a - tSt T n a = (l.length : Int) then tmf T n (tSt T n a) l l.length 0 else 0
theorem tmf_01 (T : Int → Int) (n s : Int) (l : List Int) : ∀ (q : Nat) (i : Int), tmf T n s l q i = 0 ∨ tmf T n s l q i = 1 := by
  intro q
  induction q with
  | zero => intro i; exact Or.inr rfl
  | succ q ih =>
    intro i
    simp only [tmf]
    split
    · exact ih _
    · exact Or.inl rfl
theorem tIs_01 (T : Int → Int) (n a : Int) (l : List Int) : tIs T n a l = 0 ∨ tIs T n a l = 1 := by
  unfold tIs
  split
  · exact tmf_01 _ _ _ _ _ _
  · exact Or.inl rfl
def tWl (k : Int) : List Int := if k = 0 then [97, 112, 112, 101, 110, 100] else if k = 1 then [106, 111, 105, 110] else if k = 2 then [114, 101, 97, 100] else if k = 3 then [112, 114, 111, 109, 105, 115, 101] else if k = 4 then [109, 111, 118, 101] else if k = 5 then [108, 101, 97, 118, 101] else if k = 6 then [102, 111, 114, 107] else if k = 7 then [109, 101, 114, 103, 101] else if k = 8 then [100, 114, 111, 112] else if k = 9 then [116, 105, 99, 107, 115] else [101, 110, 100]
def tLe (k : Int) : List Int := if k = 0 then [98, 107, 115, 118] else if k = 1 then [98, 101] else if k = 2 then [114, 105] else if k = 3 then [114, 116] else if k = 4 then [114, 98] else if k = 5 then [114] else if k = 9 then [110] else [98]
theorem tStr_w {k : Int} (h : 0 ≤ k ∧ k ≤ 9) : tStr (-40 - k) (tWl k) := by
  have : k = 0 ∨ k = 1 ∨ k = 2 ∨ k = 3 ∨ k = 4 ∨ k = 5 ∨ k = 6 ∨ k = 7 ∨ k = 8 ∨ k = 9 := by omega
  rcases this with rfl | rfl | rfl | rfl | rfl | rfl | rfl | rfl | rfl | rfl
  · exact ⟨-140, by decide +kernel, by decide +kernel, by decide +kernel, by decide +kernel, by decide +kernel, by decide +kernel⟩
  · exact ⟨-141, by decide +kernel, by decide +kernel, by decide +kernel, by decide +kernel, by decide +kernel, by decide +kernel⟩
  · exact ⟨-142, by decide +kernel, by decide +kernel, by decide +kernel, by decide +kernel, by decide +kernel, by decide +kernel⟩
  · exact ⟨-143, by decide +kernel, by decide +kernel, by decide +kernel, by decide +kernel, by decide +kernel, by decide +kernel⟩
  · exact ⟨-144, by decide +kernel, by decide +kernel, by decide +kernel, by decide +kernel, by decide +kernel, by decide +kernel⟩
  · exact ⟨-145, by decide +kernel, by decide +kernel, by decide +kernel, by decide +kernel, by decide +kernel, by decide +kernel⟩
  · exact ⟨-146, by decide +kernel, by decide +kernel, by decide +kernel, by decide +kernel, by decide +kernel, by decide +kernel⟩
  · exact ⟨-147, by decide +kernel, by decide +kernel, by decide +kernel, by decide +kernel, by decide +kernel, by decide +kernel⟩
  · exact ⟨-148, by decide +kernel, by decide +kernel, by decide +kernel, by decide +kernel, by decide +kernel, by decide +kernel⟩
  · exact ⟨-149, by decide +kernel, by decide +kernel, by decide +kernel, by decide +kernel, by decide +kernel, by decide +kernel⟩
theorem tStr_l {k : Int} (h : 0 ≤ k ∧ k ≤ 9) : tStr (-60 - k) (tLe k) := by
  have : k = 0 ∨ k = 1 ∨ k = 2 ∨ k = 3 ∨ k = 4 ∨ k = 5 ∨ k = 6 ∨ k = 7 ∨ k = 8 ∨ k = 9 := by omega
  rcases this with rfl | rfl | rfl | rfl | rfl | rfl | rfl | rfl | rfl | rfl
  · exact ⟨-160, by decide +kernel, by decide +kernel, by decide +kernel, by decide +kernel, by decide +kernel, by decide +kernel⟩
  · exact ⟨-161, by decide +kernel, by decide +kernel, by decide +kernel, by decide +kernel, by decide +kernel, by decide +kernel⟩
  · exact ⟨-162, by decide +kernel, by decide +kernel, by decide +kernel, by decide +kernel, by decide +kernel, by decide +kernel⟩
  · exact ⟨-163, by decide +kernel, by decide +kernel, by decide +kernel, by decide +kernel, by decide +kernel, by decide +kernel⟩
  · exact ⟨-164, by decide +kernel, by decide +kernel, by decide +kernel, by decide +kernel, by decide +kernel, by decide +kernel⟩
  · exact ⟨-165, by decide +kernel, by decide +kernel, by decide +kernel, by decide +kernel, by decide +kernel, by decide +kernel⟩
  · exact ⟨-166, by decide +kernel, by decide +kernel, by decide +kernel, by decide +kernel, by decide +kernel, by decide +kernel⟩
  · exact ⟨-167, by decide +kernel, by decide +kernel, by decide +kernel, by decide +kernel, by decide +kernel, by decide +kernel⟩
  · exact ⟨-168, by decide +kernel, by decide +kernel, by decide +kernel, by decide +kernel, by decide +kernel, by decide +kernel⟩
  · exact ⟨-169, by decide +kernel, by decide +kernel, by decide +kernel, by decide +kernel, by decide +kernel, by decide +kernel⟩
theorem tStr_e : tStr (-80) (tWl 10) := ⟨-180, by decide +kernel, by decide +kernel, by decide +kernel, by decide +kernel, by decide +kernel, by decide +kernel⟩
theorem c_isWord {m : Int → Int → Int} {kd : Int → Nat × Int} {w : Nat × Nat × Nat} {T : Int → Int} {n a sid : Int} {l : List Int} (hK : KSc kd) (hM : MSc T n m) (hL : CLx T n a m) (ha : 0 ≤ a ∧ a ≤ n) (hs : tStr sid l) : f_X8_isWord [(1, 71), (1, sid)] (m, kd, w) = some (.inl (some (0, tIs T n a l)), (m, kd, w)) := by
  obtain ⟨l7, l8, l9⟩ := hL
  have k1 := hK.1
  have hb := tBe_b T ha.2
  have hsb := tSt_b T ha.2
  have hlen := c_len (m := m) (kd := kd) (w := w) hs
  have hn : n ≤ 700 := hM.2.2.2.2.1.2
  have hl20 : l.length ≤ 20 := by obtain ⟨_, _, _, _, _, h, _⟩ := hs; exact h
  have hsc : (sid, "java/lang/String") ∈ qa_SC := by obtain ⟨_, _, _, _, h, _⟩ := hs; exact h
  have stop : ∀ i : Int, qa_ev P_X8_isWord 3 [(1, 71), (1, sid), (0, 0), (0, i)] [] (m, kd, w) = some (.inl (some (0, 0)), (m, kd, w)) := fun i => by
    rw [ev_X8_isWord_3]
    simp (disch := omega) [ev_X8_isWord_0, ev_X8_isWord_1, ev_X8_isWord_2, ev_X8_isWord_4, ev_X8_isWord_5, ev_X8_isWord_6, B_X8_isWord_0, B_X8_isWord_1, B_X8_isWord_2, B_X8_isWord_3, B_X8_isWord_4, B_X8_isWord_5, B_X8_isWord_6, x_const, x_iadd, x_isub, x_imul, x_idiv, x_irem, x_ineg, x_dup, x_dup_x1, x_dup2, x_pop, x_goto, x_ifeq, x_ifne, x_iflt, x_ifge, x_ifgt, x_ifle, x_cmpeq, x_cmpne, x_cmplt, x_cmpge, x_cmpgt, x_cmple, x_null, x_nonnull, x_acmpeq, x_acmpne, x_get, x_put, x_putz, x_ald, x_ast, x_bast, x_zast, x_aast, x_alen, x_obj, x_ret, x_retz, x_vret, x_max, x_min, x_copy, x_i2l, qg_none, qg_inl, qg_inr, qg_ite, xr1, xr0, xrE, xri, xl0, xl1, xl2, xl3, xl4, xl5, xl6, xl7, xl8, xl9, xl10, xs0, xs1, xs2, xs3, xs4, xs5, xs6, xs7, xs8, xs9, xs10, xi0, xi1, xi2, xi3, xi4, xi5, xi6, xi7, xi8, xi9, xi10, xc0, xc1, xc2, xc3, xc4, xc5, xc6, xc7, xv1, xv2, xv3, xv4, xv5, xv6, xv7, dT_le, dF_le, dT_lt, dF_lt]
  have loop : ∀ (q : Nat) (i : Int), 0 ≤ i → i + q = (l.length : Int) → qa_ev P_X8_isWord 3 [(1, 71), (1, sid), (0, 1), (0, i)] [] (m, kd, w) = some (.inl (some (0, tmf T n (tSt T n a) l q i)), (m, kd, w)) := by
    intro q
    induction q with
    | zero =>
      intro i h1 h2
      rw [ev_X8_isWord_3]
      simp (disch := omega) [ev_X8_isWord_0, ev_X8_isWord_1, ev_X8_isWord_2, ev_X8_isWord_4, ev_X8_isWord_5, ev_X8_isWord_6, B_X8_isWord_0, B_X8_isWord_1, B_X8_isWord_2, B_X8_isWord_3, B_X8_isWord_4, B_X8_isWord_5, B_X8_isWord_6, x_const, x_iadd, x_isub, x_imul, x_idiv, x_irem, x_ineg, x_dup, x_dup_x1, x_dup2, x_pop, x_goto, x_ifeq, x_ifne, x_iflt, x_ifge, x_ifgt, x_ifle, x_cmpeq, x_cmpne, x_cmplt, x_cmpge, x_cmpgt, x_cmple, x_null, x_nonnull, x_acmpeq, x_acmpne, x_get, x_put, x_putz, x_ald, x_ast, x_bast, x_zast, x_aast, x_alen, x_obj, x_ret, x_retz, x_vret, x_max, x_min, x_copy, x_i2l, qg_none, qg_inl, qg_inr, qg_ite, xr1, xr0, xrE, xri, xl0, xl1, xl2, xl3, xl4, xl5, xl6, xl7, xl8, xl9, xl10, xs0, xs1, xs2, xs3, xs4, xs5, xs6, xs7, xs8, xs9, xs10, xi0, xi1, xi2, xi3, xi4, xi5, xi6, xi7, xi8, xi9, xi10, xc0, xc1, xc2, xc3, xc4, xc5, xc6, xc7, xv1, xv2, xv3, xv4, xv5, xv6, xv7, dT_le, dF_le, dT_lt, dF_lt, x_calls1 _ _ _ _ _ hsc, hlen, tmf]
    | succ q ih =>
      intro i h1 h2
      have ih' := ih (i + 1) (by omega) (by omega)
      have ch := c_charAt (m := m) (kd := kd) (w := w) (i := i) hs ⟨h1, by omega⟩
      have hbt := c_byteAt (w := w) hK hM (tSt T n a + i)
      have st := stop (i + 1)
      simp only [tmf]
      generalize l.getD i.toNat 0 = x at ch ⊢
      generalize tbt T n (tSt T n a + i) = y at hbt ⊢
      rw [ev_X8_isWord_3]
      by_cases hc : y = x
      · rw [if_pos hc]
        simp (disch := omega) [ev_X8_isWord_0, ev_X8_isWord_1, ev_X8_isWord_2, ev_X8_isWord_4, ev_X8_isWord_5, ev_X8_isWord_6, B_X8_isWord_0, B_X8_isWord_1, B_X8_isWord_2, B_X8_isWord_3, B_X8_isWord_4, B_X8_isWord_5, B_X8_isWord_6, x_const, x_iadd, x_isub, x_imul, x_idiv, x_irem, x_ineg, x_dup, x_dup_x1, x_dup2, x_pop, x_goto, x_ifeq, x_ifne, x_iflt, x_ifge, x_ifgt, x_ifle, x_cmpeq, x_cmpne, x_cmplt, x_cmpge, x_cmpgt, x_cmple, x_null, x_nonnull, x_acmpeq, x_acmpne, x_get, x_put, x_putz, x_ald, x_ast, x_bast, x_zast, x_aast, x_alen, x_obj, x_ret, x_retz, x_vret, x_max, x_min, x_copy, x_i2l, qg_none, qg_inl, qg_inr, qg_ite, xr1, xr0, xrE, xri, xl0, xl1, xl2, xl3, xl4, xl5, xl6, xl7, xl8, xl9, xl10, xs0, xs1, xs2, xs3, xs4, xs5, xs6, xs7, xs8, xs9, xs10, xi0, xi1, xi2, xi3, xi4, xi5, xi6, xi7, xi8, xi9, xi10, xc0, xc1, xc2, xc3, xc4, xc5, xc6, xc7, xv1, xv2, xv3, xv4, xv5, xv6, xv7, dT_le, dF_le, dT_lt, dF_lt, x_calls1 _ _ _ _ _ hsc, x_calls2 _ _ _ _ _ hsc, hlen, k1, l8, hbt, ch, hc, ih']
      · rw [if_neg hc]
        simp (disch := omega) [ev_X8_isWord_0, ev_X8_isWord_1, ev_X8_isWord_2, ev_X8_isWord_4, ev_X8_isWord_5, ev_X8_isWord_6, B_X8_isWord_0, B_X8_isWord_1, B_X8_isWord_2, B_X8_isWord_3, B_X8_isWord_4, B_X8_isWord_5, B_X8_isWord_6, x_const, x_iadd, x_isub, x_imul, x_idiv, x_irem, x_ineg, x_dup, x_dup_x1, x_dup2, x_pop, x_goto, x_ifeq, x_ifne, x_iflt, x_ifge, x_ifgt, x_ifle, x_cmpeq, x_cmpne, x_cmplt, x_cmpge, x_cmpgt, x_cmple, x_null, x_nonnull, x_acmpeq, x_acmpne, x_get, x_put, x_putz, x_ald, x_ast, x_bast, x_zast, x_aast, x_alen, x_obj, x_ret, x_retz, x_vret, x_max, x_min, x_copy, x_i2l, qg_none, qg_inl, qg_inr, qg_ite, xr1, xr0, xrE, xri, xl0, xl1, xl2, xl3, xl4, xl5, xl6, xl7, xl8, xl9, xl10, xs0, xs1, xs2, xs3, xs4, xs5, xs6, xs7, xs8, xs9, xs10, xi0, xi1, xi2, xi3, xi4, xi5, xi6, xi7, xi8, xi9, xi10, xc0, xc1, xc2, xc3, xc4, xc5, xc6, xc7, xv1, xv2, xv3, xv4, xv5, xv6, xv7, dT_le, dF_le, dT_lt, dF_lt, dF_eq, x_calls1 _ _ _ _ _ hsc, x_calls2 _ _ _ _ _ hsc, hlen, k1, l8, hbt, ch, hc, st]
  have lp := loop l.length 0 (by decide) (by omega)
  have s0 := stop 0
  unfold tIs
  by_cases h1 : tKi T n a = 1
  · by_cases h2 : tBe T n a - tSt T n a = (l.length : Int)
    · rw [if_pos ⟨h1, h2⟩]
      unfold f_X8_isWord
      refine qa_fn_eq ?_ (by simp)
      simp (disch := omega) [ev_X8_isWord_0, ev_X8_isWord_1, ev_X8_isWord_2, ev_X8_isWord_4, ev_X8_isWord_5, ev_X8_isWord_6, B_X8_isWord_0, B_X8_isWord_1, B_X8_isWord_2, B_X8_isWord_3, B_X8_isWord_4, B_X8_isWord_5, B_X8_isWord_6, x_const, x_iadd, x_isub, x_imul, x_idiv, x_irem, x_ineg, x_dup, x_dup_x1, x_dup2, x_pop, x_goto, x_ifeq, x_ifne, x_iflt, x_ifge, x_ifgt, x_ifle, x_cmpeq, x_cmpne, x_cmplt, x_cmpge, x_cmpgt, x_cmple, x_null, x_nonnull, x_acmpeq, x_acmpne, x_get, x_put, x_putz, x_ald, x_ast, x_bast, x_zast, x_aast, x_alen, x_obj, x_ret, x_retz, x_vret, x_max, x_min, x_copy, x_i2l, qg_none, qg_inl, qg_inr, qg_ite, xr1, xr0, xrE, xri, xl0, xl1, xl2, xl3, xl4, xl5, xl6, xl7, xl8, xl9, xl10, xs0, xs1, xs2, xs3, xs4, xs5, xs6, xs7, xs8, xs9, xs10, xi0, xi1, xi2, xi3, xi4, xi5, xi6, xi7, xi8, xi9, xi10, xc0, xc1, xc2, xc3, xc4, xc5, xc6, xc7, xv1, xv2, xv3, xv4, xv5, xv6, xv7, dT_le, dF_le, dT_lt, dF_lt, k1, l7, l8, l9, h1, h2, x_calls1 _ _ _ _ _ hsc, hlen, lp]
    · rw [if_neg (fun z => h2 z.2)]
      unfold f_X8_isWord
      refine qa_fn_eq ?_ (by simp)
      simp (disch := omega) [ev_X8_isWord_0, ev_X8_isWord_1, ev_X8_isWord_2, ev_X8_isWord_4, ev_X8_isWord_5, ev_X8_isWord_6, B_X8_isWord_0, B_X8_isWord_1, B_X8_isWord_2, B_X8_isWord_3, B_X8_isWord_4, B_X8_isWord_5, B_X8_isWord_6, x_const, x_iadd, x_isub, x_imul, x_idiv, x_irem, x_ineg, x_dup, x_dup_x1, x_dup2, x_pop, x_goto, x_ifeq, x_ifne, x_iflt, x_ifge, x_ifgt, x_ifle, x_cmpeq, x_cmpne, x_cmplt, x_cmpge, x_cmpgt, x_cmple, x_null, x_nonnull, x_acmpeq, x_acmpne, x_get, x_put, x_putz, x_ald, x_ast, x_bast, x_zast, x_aast, x_alen, x_obj, x_ret, x_retz, x_vret, x_max, x_min, x_copy, x_i2l, qg_none, qg_inl, qg_inr, qg_ite, xr1, xr0, xrE, xri, xl0, xl1, xl2, xl3, xl4, xl5, xl6, xl7, xl8, xl9, xl10, xs0, xs1, xs2, xs3, xs4, xs5, xs6, xs7, xs8, xs9, xs10, xi0, xi1, xi2, xi3, xi4, xi5, xi6, xi7, xi8, xi9, xi10, xc0, xc1, xc2, xc3, xc4, xc5, xc6, xc7, xv1, xv2, xv3, xv4, xv5, xv6, xv7, dT_le, dF_le, dT_lt, dF_lt, dF_eq, k1, l7, l8, l9, h1, h2, x_calls1 _ _ _ _ _ hsc, hlen, s0]
  · rw [if_neg (fun z => h1 z.1)]
    unfold f_X8_isWord
    refine qa_fn_eq ?_ (by simp)
    simp (disch := omega) [ev_X8_isWord_0, ev_X8_isWord_1, ev_X8_isWord_2, ev_X8_isWord_4, ev_X8_isWord_5, ev_X8_isWord_6, B_X8_isWord_0, B_X8_isWord_1, B_X8_isWord_2, B_X8_isWord_3, B_X8_isWord_4, B_X8_isWord_5, B_X8_isWord_6, x_const, x_iadd, x_isub, x_imul, x_idiv, x_irem, x_ineg, x_dup, x_dup_x1, x_dup2, x_pop, x_goto, x_ifeq, x_ifne, x_iflt, x_ifge, x_ifgt, x_ifle, x_cmpeq, x_cmpne, x_cmplt, x_cmpge, x_cmpgt, x_cmple, x_null, x_nonnull, x_acmpeq, x_acmpne, x_get, x_put, x_putz, x_ald, x_ast, x_bast, x_zast, x_aast, x_alen, x_obj, x_ret, x_retz, x_vret, x_max, x_min, x_copy, x_i2l, qg_none, qg_inl, qg_inr, qg_ite, xr1, xr0, xrE, xri, xl0, xl1, xl2, xl3, xl4, xl5, xl6, xl7, xl8, xl9, xl10, xs0, xs1, xs2, xs3, xs4, xs5, xs6, xs7, xs8, xs9, xs10, xi0, xi1, xi2, xi3, xi4, xi5, xi6, xi7, xi8, xi9, xi10, xc0, xc1, xc2, xc3, xc4, xc5, xc6, xc7, xv1, xv2, xv3, xv4, xv5, xv6, xv7, dT_le, dF_le, dT_lt, dF_lt, dF_eq, k1, l7, h1, s0]
def tvf (T : Int → Int) (n a : Int) : Nat → Int → Int
  | 0, _ => -1
  | q + 1, i => if tIs T n a (tWl i) = 1 then i else tvf T n a q (i + 1)
def tVb (T : Int → Int) (n a : Int) : Int := tvf T n a 10 0
theorem tvf_b (T : Int → Int) (n a : Int) : ∀ (q : Nat) (i : Int), 0 ≤ i → tvf T n a q i = -1 ∨ (i ≤ tvf T n a q i ∧ tvf T n a q i < i + q ∧ tIs T n a (tWl (tvf T n a q i)) = 1) := by
  intro q
  induction q with
  | zero => intro i _; exact Or.inl rfl
  | succ q ih =>
    intro i hi
    simp only [tvf]
    split
    · rename_i h; exact Or.inr ⟨by omega, by omega, h⟩
    · rcases ih (i + 1) (by omega) with h | ⟨h1, h2, h3⟩
      · exact Or.inl h
      · exact Or.inr ⟨by omega, by omega, h3⟩
theorem sL_13 : qa_sL (-13) = some (110, [-20, -21, -22, -23, -24, -25, -26, -27, -28, -29]) := by decide +kernel
theorem x_slen13 (k : qI) (ls r : List qV) (a : qA) : q_slen k ls ((1, -13) :: r) a = k ls ((0, 10) :: r) a := x_slen k ls r a sL_13 rfl
theorem x_sld13 {i : Int} (k : qI) (ls r : List qV) (a : qA) (hi : 0 ≤ i ∧ i ≤ 9) : q_sld 110 k ls ((0, i) :: (1, -13) :: r) a = k ls ((1, -20 - i) :: r) a := by
  refine (x_sld (v := -20 - i) 110 k ls r a sL_13 rfl ⟨hi.1, by show i < 10; omega⟩ ?_).trans (by rw [if_pos rfl])
  have : i = 0 ∨ i = 1 ∨ i = 2 ∨ i = 3 ∨ i = 4 ∨ i = 5 ∨ i = 6 ∨ i = 7 ∨ i = 8 ∨ i = 9 := by omega
  rcases this with rfl | rfl | rfl | rfl | rfl | rfl | rfl | rfl | rfl | rfl <;> rfl
theorem sF_w {k : Int} (h : 0 ≤ k ∧ k ≤ 9) : qa_sF (-20 - k) "word" = some (1, -40 - k) ∧ qa_sF (-20 - k) "operands" = some (1, -60 - k) ∧ (-20 - k, "PromiseLog$Verb") ∈ qa_SC := by
  have : k = 0 ∨ k = 1 ∨ k = 2 ∨ k = 3 ∨ k = 4 ∨ k = 5 ∨ k = 6 ∨ k = 7 ∨ k = 8 ∨ k = 9 := by omega
  rcases this with rfl | rfl | rfl | rfl | rfl | rfl | rfl | rfl | rfl | rfl <;> exact ⟨by decide +kernel, by decide +kernel, by decide +kernel⟩
theorem c_verbHere {m : Int → Int → Int} {kd : Int → Nat × Int} {w : Nat × Nat × Nat} {T : Int → Int} {n a : Int} (hK : KSc kd) (hM : MSc T n m) (hL : CLx T n a m) (ha : 0 ≤ a ∧ a ≤ n) : f_X8_verbHere [(1, 71)] (m, kd, w) = some (.inl (some (1, if tVb T n a = -1 then -1 else -20 - tVb T n a)), (m, kd, w)) := by
  have k1 := hK.1
  have loop : ∀ (q : Nat) (i : Int) (l : qV), 0 ≤ i → i + q = 10 → qa_ev P_X8_verbHere 1 [(1, 71), (1, -13), (0, 10), (0, i), l] [] (m, kd, w) = some (.inl (some (1, if tvf T n a q i = -1 then -1 else -20 - tvf T n a q i)), (m, kd, w)) := by
    intro q
    induction q with
    | zero =>
      intro i l h1 h2
      rw [ev_X8_verbHere_1]
      simp (disch := omega) [ev_X8_verbHere_0, ev_X8_verbHere_2, ev_X8_verbHere_3, B_X8_verbHere_0, B_X8_verbHere_1, B_X8_verbHere_2, B_X8_verbHere_3, x_const, x_iadd, x_isub, x_imul, x_idiv, x_irem, x_ineg, x_dup, x_dup_x1, x_dup2, x_pop, x_goto, x_ifeq, x_ifne, x_iflt, x_ifge, x_ifgt, x_ifle, x_cmpeq, x_cmpne, x_cmplt, x_cmpge, x_cmpgt, x_cmple, x_null, x_nonnull, x_acmpeq, x_acmpne, x_get, x_put, x_putz, x_ald, x_ast, x_bast, x_zast, x_aast, x_alen, x_obj, x_ret, x_retz, x_vret, x_max, x_min, x_copy, x_i2l, qg_none, qg_inl, qg_inr, qg_ite, xr1, xr0, xrE, xri, xl0, xl1, xl2, xl3, xl4, xl5, xl6, xl7, xl8, xl9, xl10, xs0, xs1, xs2, xs3, xs4, xs5, xs6, xs7, xs8, xs9, xs10, xi0, xi1, xi2, xi3, xi4, xi5, xi6, xi7, xi8, xi9, xi10, xc0, xc1, xc2, xc3, xc4, xc5, xc6, xc7, xv1, xv2, xv3, xv4, xv5, xv6, xv7, dT_le, dF_le, dT_lt, dF_lt, tvf]
    | succ q ih =>
      intro i l h1 h2
      have ih' := fun l => ih (i + 1) l (by omega) (by omega)
      have iw := c_isWord (w := w) hK hM hL ha (tStr_w (k := i) ⟨h1, by omega⟩)
      have sf := (sF_w (k := i) ⟨h1, by omega⟩).1
      rw [ev_X8_verbHere_1]
      rcases tIs_01 T n a (tWl i) with hc | hc
      · rw [hc] at iw
        have e : tvf T n a (q + 1) i = tvf T n a q (i + 1) := if_neg (by rw [hc]; decide)
        rw [e]
        simp (disch := omega) [ev_X8_verbHere_0, ev_X8_verbHere_2, ev_X8_verbHere_3, B_X8_verbHere_0, B_X8_verbHere_1, B_X8_verbHere_2, B_X8_verbHere_3, x_const, x_iadd, x_isub, x_imul, x_idiv, x_irem, x_ineg, x_dup, x_dup_x1, x_dup2, x_pop, x_goto, x_ifeq, x_ifne, x_iflt, x_ifge, x_ifgt, x_ifle, x_cmpeq, x_cmpne, x_cmplt, x_cmpge, x_cmpgt, x_cmple, x_null, x_nonnull, x_acmpeq, x_acmpne, x_get, x_put, x_putz, x_ald, x_ast, x_bast, x_zast, x_aast, x_alen, x_obj, x_ret, x_retz, x_vret, x_max, x_min, x_copy, x_i2l, qg_none, qg_inl, qg_inr, qg_ite, xr1, xr0, xrE, xri, xl0, xl1, xl2, xl3, xl4, xl5, xl6, xl7, xl8, xl9, xl10, xs0, xs1, xs2, xs3, xs4, xs5, xs6, xs7, xs8, xs9, xs10, xi0, xi1, xi2, xi3, xi4, xi5, xi6, xi7, xi8, xi9, xi10, xc0, xc1, xc2, xc3, xc4, xc5, xc6, xc7, xv1, xv2, xv3, xv4, xv5, xv6, xv7, dT_le, dF_le, dT_lt, dF_lt, k1, x_sld13, x_sget _ _ _ _ sf, iw, ih']
      · rw [hc] at iw
        have e : tvf T n a (q + 1) i = i := if_pos hc
        rw [e, if_neg (show ¬ i = -1 by omega)]
        simp (disch := omega) [ev_X8_verbHere_0, ev_X8_verbHere_2, ev_X8_verbHere_3, B_X8_verbHere_0, B_X8_verbHere_1, B_X8_verbHere_2, B_X8_verbHere_3, x_const, x_iadd, x_isub, x_imul, x_idiv, x_irem, x_ineg, x_dup, x_dup_x1, x_dup2, x_pop, x_goto, x_ifeq, x_ifne, x_iflt, x_ifge, x_ifgt, x_ifle, x_cmpeq, x_cmpne, x_cmplt, x_cmpge, x_cmpgt, x_cmple, x_null, x_nonnull, x_acmpeq, x_acmpne, x_get, x_put, x_putz, x_ald, x_ast, x_bast, x_zast, x_aast, x_alen, x_obj, x_ret, x_retz, x_vret, x_max, x_min, x_copy, x_i2l, qg_none, qg_inl, qg_inr, qg_ite, xr1, xr0, xrE, xri, xl0, xl1, xl2, xl3, xl4, xl5, xl6, xl7, xl8, xl9, xl10, xs0, xs1, xs2, xs3, xs4, xs5, xs6, xs7, xs8, xs9, xs10, xi0, xi1, xi2, xi3, xi4, xi5, xi6, xi7, xi8, xi9, xi10, xc0, xc1, xc2, xc3, xc4, xc5, xc6, xc7, xv1, xv2, xv3, xv4, xv5, xv6, xv7, dT_le, dF_le, dT_lt, dF_lt, k1, x_sld13, x_sget _ _ _ _ sf, iw]
  have lp := fun l => loop 10 0 l (by decide) (by decide)
  unfold tVb
  unfold f_X8_verbHere
  refine qa_fn_eq ?_ (by simp)
  simp (disch := omega) [ev_X8_verbHere_0, ev_X8_verbHere_2, ev_X8_verbHere_3, B_X8_verbHere_0, B_X8_verbHere_1, B_X8_verbHere_2, B_X8_verbHere_3, x_const, x_iadd, x_isub, x_imul, x_idiv, x_irem, x_ineg, x_dup, x_dup_x1, x_dup2, x_pop, x_goto, x_ifeq, x_ifne, x_iflt, x_ifge, x_ifgt, x_ifle, x_cmpeq, x_cmpne, x_cmplt, x_cmpge, x_cmpgt, x_cmple, x_null, x_nonnull, x_acmpeq, x_acmpne, x_get, x_put, x_putz, x_ald, x_ast, x_bast, x_zast, x_aast, x_alen, x_obj, x_ret, x_retz, x_vret, x_max, x_min, x_copy, x_i2l, qg_none, qg_inl, qg_inr, qg_ite, xr1, xr0, xrE, xri, xl0, xl1, xl2, xl3, xl4, xl5, xl6, xl7, xl8, xl9, xl10, xs0, xs1, xs2, xs3, xs4, xs5, xs6, xs7, xs8, xs9, xs10, xi0, xi1, xi2, xi3, xi4, xi5, xi6, xi7, xi8, xi9, xi10, xc0, xc1, xc2, xc3, xc4, xc5, xc6, xc7, xv1, xv2, xv3, xv4, xv5, xv6, xv7, dT_le, dF_le, dT_lt, dF_lt, x_slen13, lp]
