theorem c_setLen0 {l : List Int} {V cap g0 : Int} {m0 : Int → Int → Int} {kd0 : Int → Nat × Int} {n0 c0 s0 : Nat} {m : Int → Int → Int} {kd : Int → Nat × Int} {n c s : Nat} (hP : Pg l V cap m kd n) (hF : PgF g0 m0 kd0 n0 c0 s0 cap m kd n c s) : ∃ m', f_J4_setLength_d00df [(1, 75), (0, 0)] (m, kd, n, c, s) = some (.inl none, (m', kd, n, c, s)) ∧ Pg [] V cap m' kd n ∧ PgF g0 m0 kd0 n0 c0 s0 cap m' kd n c s := by
  obtain ⟨p1, p2, p3, p4, p5, p6, p7, p8, p9, p10, p11, p12, p13⟩ := id hP
  have hV75 : V ≠ 75 := by omega
  have en : f_J5_ensureCapacityInternal_d00df [(1, 75), (0, 0)] (m, kd, n, c, s) = some (.inl none, (m, kd, n, c, s)) := by
    unfold f_J5_ensureCapacityInternal_d00df
    refine qa_fn_eq ?_ (by simp)
    simp (disch := omega) [ev_J5_ensureCapacityInternal_d00df_0, ev_J5_ensureCapacityInternal_d00df_1, B_J5_ensureCapacityInternal_d00df_0, B_J5_ensureCapacityInternal_d00df_1, x_const, x_iadd, x_isub, x_imul, x_idiv, x_irem, x_ineg, x_dup, x_dup_x1, x_dup2, x_pop, x_goto, x_ifeq, x_ifne, x_iflt, x_ifge, x_ifgt, x_ifle, x_cmpeq, x_cmpne, x_cmplt, x_cmpge, x_cmpgt, x_cmple, x_null, x_nonnull, x_acmpeq, x_acmpne, x_get, x_put, x_putz, x_ald, x_ast, x_bast, x_zast, x_aast, x_alen, x_obj, x_ret, x_retz, x_vret, x_max, x_min, x_copy, x_i2l, qg_none, qg_inl, qg_inr, qg_ite, xr1, xr0, xrE, xri, xl0, xl1, xl2, xl3, xl4, xl5, xl6, xl7, xl8, xl9, xl10, xs0, xs1, xs2, xs3, xs4, xs5, xs6, xs7, xs8, xs9, xs10, xi0, xi1, xi2, xi3, xi4, xi5, xi6, xi7, xi8, xi9, xi10, xc0, xc1, xc2, xc3, xc4, xc5, xc6, xc7, xv1, xv2, xv3, xv4, xv5, xv6, xv7, dT_le, dF_le, dT_lt, dF_lt, p1, p2, p3, p5, x_ishr0]
  by_cases h0 : (l.length : Int) = 0
  · have e5 : f_J5_setLength_d00df [(1, 75), (0, 0)] (m, kd, n, c, s) = some (.inl none, (qa_up m 75 3 0, kd, n, c, s)) := by
      unfold f_J5_setLength_d00df
      refine qa_fn_eq ?_ (by simp)
      simp (disch := omega) [ev_J5_setLength_d00df_0, ev_J5_setLength_d00df_1, ev_J5_setLength_d00df_2, ev_J5_setLength_d00df_3, ev_J5_setLength_d00df_4, B_J5_setLength_d00df_0, B_J5_setLength_d00df_1, B_J5_setLength_d00df_2, B_J5_setLength_d00df_3, B_J5_setLength_d00df_4, x_const, x_iadd, x_isub, x_imul, x_idiv, x_irem, x_ineg, x_dup, x_dup_x1, x_dup2, x_pop, x_goto, x_ifeq, x_ifne, x_iflt, x_ifge, x_ifgt, x_ifle, x_cmpeq, x_cmpne, x_cmplt, x_cmpge, x_cmpgt, x_cmple, x_null, x_nonnull, x_acmpeq, x_acmpne, x_get, x_put, x_putz, x_ald, x_ast, x_bast, x_zast, x_aast, x_alen, x_obj, x_ret, x_retz, x_vret, x_max, x_min, x_copy, x_i2l, qg_none, qg_inl, qg_inr, qg_ite, xr1, xr0, xrE, xri, xl0, xl1, xl2, xl3, xl4, xl5, xl6, xl7, xl8, xl9, xl10, xs0, xs1, xs2, xs3, xs4, xs5, xs6, xs7, xs8, xs9, xs10, xi0, xi1, xi2, xi3, xi4, xi5, xi6, xi7, xi8, xi9, xi10, xc0, xc1, xc2, xc3, xc4, xc5, xc6, xc7, xv1, xv2, xv3, xv4, xv5, xv6, xv7, dT_le, dF_le, dT_lt, dF_lt, p1, p4, en, h0]
    refine ⟨qa_up m 75 3 0, ?_, ⟨p1, ?_, ?_, ?_, p5, p6, p7, by simp; omega, fun i hi => absurd hi (by simp), fun i i1 i2 => ?_, fun x hx => absurd hx (by simp), p12, p13⟩, PgF_app hP hF (fun x x1 x2 => ?_)⟩
    · unfold f_J4_setLength_d00df
      refine qa_fn_eq ?_ (by simp)
      simp (disch := omega) [ev_J4_setLength_d00df_0, B_J4_setLength_d00df_0, x_const, x_iadd, x_isub, x_imul, x_idiv, x_irem, x_ineg, x_dup, x_dup_x1, x_dup2, x_pop, x_goto, x_ifeq, x_ifne, x_iflt, x_ifge, x_ifgt, x_ifle, x_cmpeq, x_cmpne, x_cmplt, x_cmpge, x_cmpgt, x_cmple, x_null, x_nonnull, x_acmpeq, x_acmpne, x_get, x_put, x_putz, x_ald, x_ast, x_bast, x_zast, x_aast, x_alen, x_obj, x_ret, x_retz, x_vret, x_max, x_min, x_copy, x_i2l, qg_none, qg_inl, qg_inr, qg_ite, xr1, xr0, xrE, xri, xl0, xl1, xl2, xl3, xl4, xl5, xl6, xl7, xl8, xl9, xl10, xs0, xs1, xs2, xs3, xs4, xs5, xs6, xs7, xs8, xs9, xs10, xi0, xi1, xi2, xi3, xi4, xi5, xi6, xi7, xi8, xi9, xi10, xc0, xc1, xc2, xc3, xc4, xc5, xc6, xc7, xv1, xv2, xv3, xv4, xv5, xv6, xv7, dT_le, dF_le, dT_lt, dF_lt, p1, e5]
    · rw [qa_up_no _ (by omega)]; exact p2
    · rw [qa_up_no _ (by omega)]; exact p3
    · exact qa_up_hit _ _ _ _
    · rw [qa_up_no _ (by omega)]; exact p10 i i1 i2
    · funext i
      exact qa_up_no _ (fun z => x1 z.1)
  · have h1 : 0 < (l.length : Int) := by omega
    have e5 : f_J5_setLength_d00df [(1, 75), (0, 0)] (m, kd, n, c, s) = some (.inl none, (qa_up (qa_up m 75 2 1) 75 3 0, kd, n, c, s)) := by
      generalize (l.length : Int) = L at p4 h1
      unfold f_J5_setLength_d00df
      refine qa_fn_eq ?_ (by simp)
      simp (disch := omega) [ev_J5_setLength_d00df_0, ev_J5_setLength_d00df_1, ev_J5_setLength_d00df_2, ev_J5_setLength_d00df_3, ev_J5_setLength_d00df_4, B_J5_setLength_d00df_0, B_J5_setLength_d00df_1, B_J5_setLength_d00df_2, B_J5_setLength_d00df_3, B_J5_setLength_d00df_4, x_const, x_iadd, x_isub, x_imul, x_idiv, x_irem, x_ineg, x_dup, x_dup_x1, x_dup2, x_pop, x_goto, x_ifeq, x_ifne, x_iflt, x_ifge, x_ifgt, x_ifle, x_cmpeq, x_cmpne, x_cmplt, x_cmpge, x_cmpgt, x_cmple, x_null, x_nonnull, x_acmpeq, x_acmpne, x_get, x_put, x_putz, x_ald, x_ast, x_bast, x_zast, x_aast, x_alen, x_obj, x_ret, x_retz, x_vret, x_max, x_min, x_copy, x_i2l, qg_none, qg_inl, qg_inr, qg_ite, xr1, xr0, xrE, xri, xl0, xl1, xl2, xl3, xl4, xl5, xl6, xl7, xl8, xl9, xl10, xs0, xs1, xs2, xs3, xs4, xs5, xs6, xs7, xs8, xs9, xs10, xi0, xi1, xi2, xi3, xi4, xi5, xi6, xi7, xi8, xi9, xi10, xc0, xc1, xc2, xc3, xc4, xc5, xc6, xc7, xv1, xv2, xv3, xv4, xv5, xv6, xv7, dT_le, dF_le, dT_lt, dF_lt, p1, p4, en, h1]
    refine ⟨qa_up (qa_up m 75 2 1) 75 3 0, ?_, ⟨p1, ?_, ?_, ?_, p5, p6, p7, by simp; omega, fun i hi => absurd hi (by simp), fun i i1 i2 => ?_, fun x hx => absurd hx (by simp), p12, p13⟩, PgF_app hP hF (fun x x1 x2 => ?_)⟩
    · unfold f_J4_setLength_d00df
      refine qa_fn_eq ?_ (by simp)
      simp (disch := omega) [ev_J4_setLength_d00df_0, B_J4_setLength_d00df_0, x_const, x_iadd, x_isub, x_imul, x_idiv, x_irem, x_ineg, x_dup, x_dup_x1, x_dup2, x_pop, x_goto, x_ifeq, x_ifne, x_iflt, x_ifge, x_ifgt, x_ifle, x_cmpeq, x_cmpne, x_cmplt, x_cmpge, x_cmpgt, x_cmple, x_null, x_nonnull, x_acmpeq, x_acmpne, x_get, x_put, x_putz, x_ald, x_ast, x_bast, x_zast, x_aast, x_alen, x_obj, x_ret, x_retz, x_vret, x_max, x_min, x_copy, x_i2l, qg_none, qg_inl, qg_inr, qg_ite, xr1, xr0, xrE, xri, xl0, xl1, xl2, xl3, xl4, xl5, xl6, xl7, xl8, xl9, xl10, xs0, xs1, xs2, xs3, xs4, xs5, xs6, xs7, xs8, xs9, xs10, xi0, xi1, xi2, xi3, xi4, xi5, xi6, xi7, xi8, xi9, xi10, xc0, xc1, xc2, xc3, xc4, xc5, xc6, xc7, xv1, xv2, xv3, xv4, xv5, xv6, xv7, dT_le, dF_le, dT_lt, dF_lt, p1, e5]
    · rw [qa_up_no _ (by omega), qa_up_no _ (by omega)]; exact p2
    · rw [qa_up_no _ (by omega), qa_up_no _ (by omega)]; exact p3
    · exact qa_up_hit _ _ _ _
    · rw [qa_up_no _ (by omega), qa_up_no _ (by omega)]; exact p10 i i1 i2
    · funext i
      rw [qa_up_no _ (fun z => x1 z.1), qa_up_no _ (fun z => x1 z.1)]
theorem c_lenP {l : List Int} {V cap : Int} {m : Int → Int → Int} {kd : Int → Nat × Int} {n : Nat} {w : Nat × Nat × Nat} (hP : Pg l V cap m kd n) : f_J4_length_8abf5 [(1, 75)] (m, kd, w) = some (.inl (some (0, (l.length : Int))), (m, kd, w)) := by
  obtain ⟨p1, p2, p3, p4, -⟩ := id hP
  have e5 : f_J5_length_8abf5 [(1, 75)] (m, kd, w) = some (.inl (some (0, (l.length : Int))), (m, kd, w)) := by
    generalize (l.length : Int) = L at p4
    unfold f_J5_length_8abf5
    refine qa_fn_eq ?_ (by simp)
    simp (disch := omega) [ev_J5_length_8abf5_0, B_J5_length_8abf5_0, x_const, x_iadd, x_isub, x_imul, x_idiv, x_irem, x_ineg, x_dup, x_dup_x1, x_dup2, x_pop, x_goto, x_ifeq, x_ifne, x_iflt, x_ifge, x_ifgt, x_ifle, x_cmpeq, x_cmpne, x_cmplt, x_cmpge, x_cmpgt, x_cmple, x_null, x_nonnull, x_acmpeq, x_acmpne, x_get, x_put, x_putz, x_ald, x_ast, x_bast, x_zast, x_aast, x_alen, x_obj, x_ret, x_retz, x_vret, x_max, x_min, x_copy, x_i2l, qg_none, qg_inl, qg_inr, qg_ite, xr1, xr0, xrE, xri, xl0, xl1, xl2, xl3, xl4, xl5, xl6, xl7, xl8, xl9, xl10, xs0, xs1, xs2, xs3, xs4, xs5, xs6, xs7, xs8, xs9, xs10, xi0, xi1, xi2, xi3, xi4, xi5, xi6, xi7, xi8, xi9, xi10, xc0, xc1, xc2, xc3, xc4, xc5, xc6, xc7, xv1, xv2, xv3, xv4, xv5, xv6, xv7, dT_le, dF_le, dT_lt, dF_lt, p1, p4]
  generalize (l.length : Int) = L at e5
  unfold f_J4_length_8abf5
  refine qa_fn_eq ?_ (by simp)
  simp (disch := omega) [ev_J4_length_8abf5_0, B_J4_length_8abf5_0, x_const, x_iadd, x_isub, x_imul, x_idiv, x_irem, x_ineg, x_dup, x_dup_x1, x_dup2, x_pop, x_goto, x_ifeq, x_ifne, x_iflt, x_ifge, x_ifgt, x_ifle, x_cmpeq, x_cmpne, x_cmplt, x_cmpge, x_cmpgt, x_cmple, x_null, x_nonnull, x_acmpeq, x_acmpne, x_get, x_put, x_putz, x_ald, x_ast, x_bast, x_zast, x_aast, x_alen, x_obj, x_ret, x_retz, x_vret, x_max, x_min, x_copy, x_i2l, qg_none, qg_inl, qg_inr, qg_ite, xr1, xr0, xrE, xri, xl0, xl1, xl2, xl3, xl4, xl5, xl6, xl7, xl8, xl9, xl10, xs0, xs1, xs2, xs3, xs4, xs5, xs6, xs7, xs8, xs9, xs10, xi0, xi1, xi2, xi3, xi4, xi5, xi6, xi7, xi8, xi9, xi10, xc0, xc1, xc2, xc3, xc4, xc5, xc6, xc7, xv1, xv2, xv3, xv4, xv5, xv6, xv7, dT_le, dF_le, dT_lt, dF_lt, p1, e5]
theorem c_charP {l : List Int} {V cap : Int} {m : Int → Int → Int} {kd : Int → Nat × Int} {n : Nat} {w : Nat × Nat × Nat} (hP : Pg l V cap m kd n) {i : Int} (hi : 0 ≤ i ∧ i < l.length) : f_J4_charAt_5068e [(1, 75), (0, i)] (m, kd, w) = some (.inl (some (0, l.getD i.toNat 0)), (m, kd, w)) := by
  obtain ⟨p1, p2, p3, p4, p5, p6, p7, p8, p9, p10, p11, p12, p13⟩ := id hP
  have ci := c_checkIndex (m := m) (kd := kd) (w := w) hi
  have v := p9 i.toNat (by omega)
  have hx := p11 _ (getD_mem (xs := l) (i := i.toNat) (by omega))
  rw [show ((i.toNat : Nat) : Int) = i by omega] at v
  generalize l.getD i.toNat 0 = ch at v hx
  generalize (l.length : Int) = L at p4 p8 hi ci
  have e255 : ch % 256 = ch := by omega
  have mn : (if L ≤ cap then L else cap) = L := if_pos p8
  have e5 : f_J5_charAt_5068e [(1, 75), (0, i)] (m, kd, w) = some (.inl (some (0, ch)), (m, kd, w)) := by
    unfold f_J5_charAt_5068e
    refine qa_fn_eq ?_ (by simp)
    simp (disch := omega) [ev_J5_charAt_5068e_0, ev_J5_charAt_5068e_1, B_J5_charAt_5068e_0, B_J5_charAt_5068e_1, x_const, x_iadd, x_isub, x_imul, x_idiv, x_irem, x_ineg, x_dup, x_dup_x1, x_dup2, x_pop, x_goto, x_ifeq, x_ifne, x_iflt, x_ifge, x_ifgt, x_ifle, x_cmpeq, x_cmpne, x_cmplt, x_cmpge, x_cmpgt, x_cmple, x_null, x_nonnull, x_acmpeq, x_acmpne, x_get, x_put, x_putz, x_ald, x_ast, x_bast, x_zast, x_aast, x_alen, x_obj, x_ret, x_retz, x_vret, x_max, x_min, x_copy, x_i2l, qg_none, qg_inl, qg_inr, qg_ite, xr1, xr0, xrE, xri, xl0, xl1, xl2, xl3, xl4, xl5, xl6, xl7, xl8, xl9, xl10, xs0, xs1, xs2, xs3, xs4, xs5, xs6, xs7, xs8, xs9, xs10, xi0, xi1, xi2, xi3, xi4, xi5, xi6, xi7, xi8, xi9, xi10, xc0, xc1, xc2, xc3, xc4, xc5, xc6, xc7, xv1, xv2, xv3, xv4, xv5, xv6, xv7, dT_le, dF_le, dT_lt, dF_lt, p1, p2, p3, p4, p5, x_ishr0, mn, ci, v, x_iand, e255, x_i2c, x_retc]
  unfold f_J4_charAt_5068e
  refine qa_fn_eq ?_ (by simp)
  simp (disch := omega) [ev_J4_charAt_5068e_0, B_J4_charAt_5068e_0, x_const, x_iadd, x_isub, x_imul, x_idiv, x_irem, x_ineg, x_dup, x_dup_x1, x_dup2, x_pop, x_goto, x_ifeq, x_ifne, x_iflt, x_ifge, x_ifgt, x_ifle, x_cmpeq, x_cmpne, x_cmplt, x_cmpge, x_cmpgt, x_cmple, x_null, x_nonnull, x_acmpeq, x_acmpne, x_get, x_put, x_putz, x_ald, x_ast, x_bast, x_zast, x_aast, x_alen, x_obj, x_ret, x_retz, x_vret, x_max, x_min, x_copy, x_i2l, qg_none, qg_inl, qg_inr, qg_ite, xr1, xr0, xrE, xri, xl0, xl1, xl2, xl3, xl4, xl5, xl6, xl7, xl8, xl9, xl10, xs0, xs1, xs2, xs3, xs4, xs5, xs6, xs7, xs8, xs9, xs10, xi0, xi1, xi2, xi3, xi4, xi5, xi6, xi7, xi8, xi9, xi10, xc0, xc1, xc2, xc3, xc4, xc5, xc6, xc7, xv1, xv2, xv3, xv4, xv5, xv6, xv7, dT_le, dF_le, dT_lt, dF_lt, p1, e5, x_retc]
def vOut (l : List Int) (i : Int) : Int := if 0 ≤ i ∧ i < l.length then l.getD i.toNat 0 else -1
theorem cq_output {l : List Int} {V cap : Int} {m : Int → Int → Int} {kd : Int → Nat × Int} {n : Nat} {w : Nat × Nat × Nat} (hP : Pg l V cap m kd n) (hx : kd 0 = (14, 0)) (h07 : m 0 7 = 75) (i : Int) : f_X11_output [(1, 0), (0, i)] (m, kd, w) = some (.inl (some (0, vOut l i)), (m, kd, w)) := by
  have k75 := hP.1
  have ln := c_lenP (w := w) hP
  unfold vOut
  by_cases h0 : i < 0
  · rw [if_neg (by omega)]
    unfold f_X11_output
    refine qa_fn_eq ?_ (by simp)
    simp (disch := omega) [ev_X11_output_0, ev_X11_output_1, ev_X11_output_2, B_X11_output_0, B_X11_output_1, B_X11_output_2, x_const, x_iadd, x_isub, x_imul, x_idiv, x_irem, x_ineg, x_dup, x_dup_x1, x_dup2, x_pop, x_goto, x_ifeq, x_ifne, x_iflt, x_ifge, x_ifgt, x_ifle, x_cmpeq, x_cmpne, x_cmplt, x_cmpge, x_cmpgt, x_cmple, x_null, x_nonnull, x_acmpeq, x_acmpne, x_get, x_put, x_putz, x_ald, x_ast, x_bast, x_zast, x_aast, x_alen, x_obj, x_ret, x_retz, x_vret, x_max, x_min, x_copy, x_i2l, qg_none, qg_inl, qg_inr, qg_ite, xr1, xr0, xrE, xri, xl0, xl1, xl2, xl3, xl4, xl5, xl6, xl7, xl8, xl9, xl10, xs0, xs1, xs2, xs3, xs4, xs5, xs6, xs7, xs8, xs9, xs10, xi0, xi1, xi2, xi3, xi4, xi5, xi6, xi7, xi8, xi9, xi10, xc0, xc1, xc2, xc3, xc4, xc5, xc6, xc7, xv1, xv2, xv3, xv4, xv5, xv6, xv7, dT_le, dF_le, dT_lt, dF_lt, h0]
  · by_cases h1 : i < l.length
    · rw [if_pos ⟨by omega, h1⟩]
      have ch := c_charP (w := w) hP (i := i) ⟨by omega, h1⟩
      generalize (l.length : Int) = L at ln h1
      generalize l.getD i.toNat 0 = x at ch
      unfold f_X11_output
      refine qa_fn_eq ?_ (by simp)
      simp (disch := omega) [ev_X11_output_0, ev_X11_output_1, ev_X11_output_2, B_X11_output_0, B_X11_output_1, B_X11_output_2, x_const, x_iadd, x_isub, x_imul, x_idiv, x_irem, x_ineg, x_dup, x_dup_x1, x_dup2, x_pop, x_goto, x_ifeq, x_ifne, x_iflt, x_ifge, x_ifgt, x_ifle, x_cmpeq, x_cmpne, x_cmplt, x_cmpge, x_cmpgt, x_cmple, x_null, x_nonnull, x_acmpeq, x_acmpne, x_get, x_put, x_putz, x_ald, x_ast, x_bast, x_zast, x_aast, x_alen, x_obj, x_ret, x_retz, x_vret, x_max, x_min, x_copy, x_i2l, qg_none, qg_inl, qg_inr, qg_ite, xr1, xr0, xrE, xri, xl0, xl1, xl2, xl3, xl4, xl5, xl6, xl7, xl8, xl9, xl10, xs0, xs1, xs2, xs3, xs4, xs5, xs6, xs7, xs8, xs9, xs10, xi0, xi1, xi2, xi3, xi4, xi5, xi6, xi7, xi8, xi9, xi10, xc0, xc1, xc2, xc3, xc4, xc5, xc6, xc7, xv1, xv2, xv3, xv4, xv5, xv6, xv7, dT_le, dF_le, dT_lt, dF_lt, h0, hx, h07, k75, ln, ch]
    · rw [if_neg (by omega)]
      generalize (l.length : Int) = L at ln h1
      unfold f_X11_output
      refine qa_fn_eq ?_ (by simp)
      simp (disch := omega) [ev_X11_output_0, ev_X11_output_1, ev_X11_output_2, B_X11_output_0, B_X11_output_1, B_X11_output_2, x_const, x_iadd, x_isub, x_imul, x_idiv, x_irem, x_ineg, x_dup, x_dup_x1, x_dup2, x_pop, x_goto, x_ifeq, x_ifne, x_iflt, x_ifge, x_ifgt, x_ifle, x_cmpeq, x_cmpne, x_cmplt, x_cmpge, x_cmpgt, x_cmple, x_null, x_nonnull, x_acmpeq, x_acmpne, x_get, x_put, x_putz, x_ald, x_ast, x_bast, x_zast, x_aast, x_alen, x_obj, x_ret, x_retz, x_vret, x_max, x_min, x_copy, x_i2l, qg_none, qg_inl, qg_inr, qg_ite, xr1, xr0, xrE, xri, xl0, xl1, xl2, xl3, xl4, xl5, xl6, xl7, xl8, xl9, xl10, xs0, xs1, xs2, xs3, xs4, xs5, xs6, xs7, xs8, xs9, xs10, xi0, xi1, xi2, xi3, xi4, xi5, xi6, xi7, xi8, xi9, xi10, xc0, xc1, xc2, xc3, xc4, xc5, xc6, xc7, xv1, xv2, xv3, xv4, xv5, xv6, xv7, dT_le, dF_le, dT_lt, dF_lt, h0, hx, h07, k75, ln]
