theorem p_thr {N : Int} {g : zG} (hG : GI N g) (hN : N ≤ 511) {f : List qV → qA → Option qR} {cargs : List qV} {h : List qV → qA → Option qR} {margs : List qV} {hs : List (Nat × Int)} {e : Nat} {code : Int} (he : e ≠ 0) (hh : (e, code) ∈ hs) (C : ∀ m kd n c s, CI N g m kd n c s → f cargs (m, kd, n, c, s) = some (.inr e, (m, kd, n, c + 1, s + 6))) (M : ∀ m kd w, MI N g m kd → h margs (m, kd, w) = some (.inl (some (0, 0)), (qa_up m 77 0 code, kd, w))) : PPub N g f cargs h margs hs := by
  refine ⟨g, N + 1, e, code, 0, GI_mono hG (by omega), by omega, by unfold zpt; omega, Or.inr ⟨he, hh⟩, fun m kd n c s i => ?_, fun m kd w i => ?_⟩
  · rw [if_neg he]
    exact ⟨m, kd, n, c + 1, s + 6, C m kd n c s i, CI_thr i, fun _ _ _ => ⟨rfl, rfl⟩, Nat.le_refl _, by omega, by omega⟩
  · refine ⟨_, M m kd w i, MI_mono (MI_thr i code) (by omega), qa_up_hit _ _ _ _, fun x hx => ?_⟩
    funext j
    exact qa_up_no _ (by omega)
theorem p_act {N : Int} {g g' : zG} {a : Int} (G' : GI (N + 1) g') (X' : g'.2.2.2.2.2.2.2.2 = g.2.2.2.2.2.2.2.2) {f : List qV → qA → Option qR} {cargs : List qV} {h h' : List qV → qA → Option qR} {margs : List qV} {hs : List (Nat × Int)} (C : CAct f cargs N g g' a) (M : MAct h' margs N g g' a) (W : ∀ m kd w m', MI N g m kd → h' margs (qa_up m 77 0 0, kd, w) = some (.inl (some (0, a)), (m', kd, w)) → h margs (m, kd, w) = some (.inl (some (0, a)), (m', kd, w))) : PPub N g f cargs h margs hs := by
  refine ⟨g', N + 1, 0, 0, a, G', by omega, by unfold zpt; rw [X']; omega, Or.inl ⟨rfl, rfl⟩, fun m kd n c s i => ?_, fun m kd w i => ?_⟩
  · obtain ⟨m', kd', n', c', s', e, i1, i2, i3⟩ := C m kd n c s i
    exact ⟨m', kd', n', c', s', e, i1, fun x a b => i2 x (by omega) b, i3⟩
  · obtain ⟨m', e, i1, i2, i3, i4, i5⟩ := M _ kd w (MI_thr i 0)
    refine ⟨m', W m kd w m' i e, i1, by rw [i2, qa_up_hit], fun x hx => ?_⟩
    rw [i5 x hx]
    funext j
    exact qa_up_no _ (by omega)
theorem m_isEntry {m : Int → Int → Int} {kd : Int → Nat × Int} {w : Nat × Nat × Nat} (k s v : Int) : f_X12_isEntry [(0, k), (0, s), (0, v)] (m, kd, w) = some (.inl (some (0, if (0 ≤ k ∧ k ≤ 9) ∧ (1 ≤ s ∧ s ≤ 9) ∧ -99 ≤ v ∧ v ≤ 99 then 1 else 0)), (m, kd, w)) := by
  have r1 := m_in (m := m) (kd := kd) (w := w) k 0 9
  have r2 := m_in (m := m) (kd := kd) (w := w) s 1 9
  have r3 := m_in (m := m) (kd := kd) (w := w) v (-99) 99
  by_cases h1 : 0 ≤ k ∧ k ≤ 9
  · rw [if_pos h1] at r1
    by_cases h2 : 1 ≤ s ∧ s ≤ 9
    · rw [if_pos h2] at r2
      by_cases h3 : -99 ≤ v ∧ v ≤ 99
      · rw [if_pos h3] at r3
        rw [if_pos ⟨h1, h2, h3⟩]
        unfold f_X12_isEntry
        refine qa_fn_eq ?_ (by simp)
        simp (disch := omega) [ev_X12_isEntry_0, ev_X12_isEntry_1, ev_X12_isEntry_2, B_X12_isEntry_0, B_X12_isEntry_1, B_X12_isEntry_2, x_const, x_iadd, x_isub, x_imul, x_idiv, x_irem, x_ineg, x_dup, x_dup_x1, x_dup2, x_pop, x_goto, x_ifeq, x_ifne, x_iflt, x_ifge, x_ifgt, x_ifle, x_cmpeq, x_cmpne, x_cmplt, x_cmpge, x_cmpgt, x_cmple, x_null, x_nonnull, x_acmpeq, x_acmpne, x_get, x_put, x_putz, x_ald, x_ast, x_bast, x_zast, x_aast, x_alen, x_obj, x_ret, x_retz, x_vret, x_max, x_min, x_copy, x_i2l, qg_none, qg_inl, qg_inr, qg_ite, xr1, xr0, xrE, xri, xl0, xl1, xl2, xl3, xl4, xl5, xl6, xl7, xl8, xl9, xl10, xs0, xs1, xs2, xs3, xs4, xs5, xs6, xs7, xs8, xs9, xs10, xi0, xi1, xi2, xi3, xi4, xi5, xi6, xi7, xi8, xi9, xi10, xc0, xc1, xc2, xc3, xc4, xc5, xc6, xc7, xv1, xv2, xv3, xv4, xv5, xv6, xv7, dT_le, dF_le, dT_lt, dF_lt, r1, r2, r3]
      · rw [if_neg h3] at r3
        rw [if_neg (fun z => h3 z.2.2)]
        unfold f_X12_isEntry
        refine qa_fn_eq ?_ (by simp)
        simp (disch := omega) [ev_X12_isEntry_0, ev_X12_isEntry_1, ev_X12_isEntry_2, B_X12_isEntry_0, B_X12_isEntry_1, B_X12_isEntry_2, x_const, x_iadd, x_isub, x_imul, x_idiv, x_irem, x_ineg, x_dup, x_dup_x1, x_dup2, x_pop, x_goto, x_ifeq, x_ifne, x_iflt, x_ifge, x_ifgt, x_ifle, x_cmpeq, x_cmpne, x_cmplt, x_cmpge, x_cmpgt, x_cmple, x_null, x_nonnull, x_acmpeq, x_acmpne, x_get, x_put, x_putz, x_ald, x_ast, x_bast, x_zast, x_aast, x_alen, x_obj, x_ret, x_retz, x_vret, x_max, x_min, x_copy, x_i2l, qg_none, qg_inl, qg_inr, qg_ite, xr1, xr0, xrE, xri, xl0, xl1, xl2, xl3, xl4, xl5, xl6, xl7, xl8, xl9, xl10, xs0, xs1, xs2, xs3, xs4, xs5, xs6, xs7, xs8, xs9, xs10, xi0, xi1, xi2, xi3, xi4, xi5, xi6, xi7, xi8, xi9, xi10, xc0, xc1, xc2, xc3, xc4, xc5, xc6, xc7, xv1, xv2, xv3, xv4, xv5, xv6, xv7, dT_le, dF_le, dT_lt, dF_lt, r1, r2, r3]
    · rw [if_neg h2] at r2
      rw [if_neg (fun z => h2 z.2.1)]
      unfold f_X12_isEntry
      refine qa_fn_eq ?_ (by simp)
      simp (disch := omega) [ev_X12_isEntry_0, ev_X12_isEntry_1, ev_X12_isEntry_2, B_X12_isEntry_0, B_X12_isEntry_1, B_X12_isEntry_2, x_const, x_iadd, x_isub, x_imul, x_idiv, x_irem, x_ineg, x_dup, x_dup_x1, x_dup2, x_pop, x_goto, x_ifeq, x_ifne, x_iflt, x_ifge, x_ifgt, x_ifle, x_cmpeq, x_cmpne, x_cmplt, x_cmpge, x_cmpgt, x_cmple, x_null, x_nonnull, x_acmpeq, x_acmpne, x_get, x_put, x_putz, x_ald, x_ast, x_bast, x_zast, x_aast, x_alen, x_obj, x_ret, x_retz, x_vret, x_max, x_min, x_copy, x_i2l, qg_none, qg_inl, qg_inr, qg_ite, xr1, xr0, xrE, xri, xl0, xl1, xl2, xl3, xl4, xl5, xl6, xl7, xl8, xl9, xl10, xs0, xs1, xs2, xs3, xs4, xs5, xs6, xs7, xs8, xs9, xs10, xi0, xi1, xi2, xi3, xi4, xi5, xi6, xi7, xi8, xi9, xi10, xc0, xc1, xc2, xc3, xc4, xc5, xc6, xc7, xv1, xv2, xv3, xv4, xv5, xv6, xv7, dT_le, dF_le, dT_lt, dF_lt, r1, r2]
  · rw [if_neg h1] at r1
    rw [if_neg (fun z => h1 z.1)]
    unfold f_X12_isEntry
    refine qa_fn_eq ?_ (by simp)
    simp (disch := omega) [ev_X12_isEntry_0, ev_X12_isEntry_1, ev_X12_isEntry_2, B_X12_isEntry_0, B_X12_isEntry_1, B_X12_isEntry_2, x_const, x_iadd, x_isub, x_imul, x_idiv, x_irem, x_ineg, x_dup, x_dup_x1, x_dup2, x_pop, x_goto, x_ifeq, x_ifne, x_iflt, x_ifge, x_ifgt, x_ifle, x_cmpeq, x_cmpne, x_cmplt, x_cmpge, x_cmpgt, x_cmple, x_null, x_nonnull, x_acmpeq, x_acmpne, x_get, x_put, x_putz, x_ald, x_ast, x_bast, x_zast, x_aast, x_alen, x_obj, x_ret, x_retz, x_vret, x_max, x_min, x_copy, x_i2l, qg_none, qg_inl, qg_inr, qg_ite, xr1, xr0, xrE, xri, xl0, xl1, xl2, xl3, xl4, xl5, xl6, xl7, xl8, xl9, xl10, xs0, xs1, xs2, xs3, xs4, xs5, xs6, xs7, xs8, xs9, xs10, xi0, xi1, xi2, xi3, xi4, xi5, xi6, xi7, xi8, xi9, xi10, xc0, xc1, xc2, xc3, xc4, xc5, xc6, xc7, xv1, xv2, xv3, xv4, xv5, xv6, xv7, dT_le, dF_le, dT_lt, dF_lt, r1]
theorem p_append {N : Int} {g : zG} (hG : GI N g) (hN : N ≤ 511) (b k s v : Int) : PPub N g f_X11_append [(1, 0), (0, b), (0, k), (0, s), (0, v)] f_X12_append [(1, 77), (0, b), (0, k), (0, s), (0, v)] [(1, 1), (2, 2)] := by
  by_cases hb : zBl g.1 b
  · by_cases h1 : 0 ≤ k ∧ k ≤ 9
    · by_cases h2 : 1 ≤ s ∧ s ≤ 9
      · by_cases h3 : -99 ≤ v ∧ v ≤ 99
        · obtain ⟨g', a, G', X', C, M⟩ := t_append hG hN hb h1 h2 h3
          refine p_act G' X' C M (fun m kd w m' i act => ?_)
          have k77 := i.1.1
          have ib := m_isBranch (w := w) i.1 i.2.1 i.2.2.1 b
          rw [if_pos hb] at ib
          have ie := m_isEntry (m := m) (kd := kd) (w := w) k s v
          rw [if_pos ⟨h1, h2, h3⟩] at ie
          unfold f_X12_append
          refine qa_fn_eq ?_ (by simp)
          simp (disch := omega) [ev_X12_append_0, ev_X12_append_1, ev_X12_append_2, ev_X12_append_3, ev_X12_append_4, ev_X12_append_5, B_X12_append_0, B_X12_append_1, B_X12_append_2, B_X12_append_3, B_X12_append_4, B_X12_append_5, x_const, x_iadd, x_isub, x_imul, x_idiv, x_irem, x_ineg, x_dup, x_dup_x1, x_dup2, x_pop, x_goto, x_ifeq, x_ifne, x_iflt, x_ifge, x_ifgt, x_ifle, x_cmpeq, x_cmpne, x_cmplt, x_cmpge, x_cmpgt, x_cmple, x_null, x_nonnull, x_acmpeq, x_acmpne, x_get, x_put, x_putz, x_ald, x_ast, x_bast, x_zast, x_aast, x_alen, x_obj, x_ret, x_retz, x_vret, x_max, x_min, x_copy, x_i2l, qg_none, qg_inl, qg_inr, qg_ite, xr1, xr0, xrE, xri, xl0, xl1, xl2, xl3, xl4, xl5, xl6, xl7, xl8, xl9, xl10, xs0, xs1, xs2, xs3, xs4, xs5, xs6, xs7, xs8, xs9, xs10, xi0, xi1, xi2, xi3, xi4, xi5, xi6, xi7, xi8, xi9, xi10, xc0, xc1, xc2, xc3, xc4, xc5, xc6, xc7, xv1, xv2, xv3, xv4, xv5, xv6, xv7, dT_le, dF_le, dT_lt, dF_lt, dT_eq, dF_eq, qa_up_hit, qa_up_no, dF_eq, k77, ib, ie, act]
        · refine p_thr (e := 2) (code := 2) hG hN (by decide) (by decide) (fun m kd n c s' i => ?_) (fun m kd w i => ?_)
          · obtain ⟨hK, hC, hx, hn, h00, -⟩ := i.q
            have nb := c_needBranch (w := (n, c, s')) i.q.1 i.q.2.1 hG.1.1 i.q.2.2.1 i.q.2.2.2.1 b
            rw [if_pos hb] at nb
            have r1 := c_needRange (m := m) (kd := kd) (w := (n, c, s')) k 0 9
            rw [if_pos h1] at r1
            have r2 := c_needRange (m := m) (kd := kd) (w := (n, c, s')) s 1 9
            rw [if_pos h2] at r2
            have r3 := c_needRange (m := m) (kd := kd) (w := (n, c, s')) v (-99) 99
            rw [if_neg h3] at r3
            unfold f_X11_append
            refine qa_fn_eq ?_ (by simp)
            simp (disch := omega) [ev_X11_append_0, ev_X11_append_1, B_X11_append_0, B_X11_append_1, x_const, x_iadd, x_isub, x_imul, x_idiv, x_irem, x_ineg, x_dup, x_dup_x1, x_dup2, x_pop, x_goto, x_ifeq, x_ifne, x_iflt, x_ifge, x_ifgt, x_ifle, x_cmpeq, x_cmpne, x_cmplt, x_cmpge, x_cmpgt, x_cmple, x_null, x_nonnull, x_acmpeq, x_acmpne, x_get, x_put, x_putz, x_ald, x_ast, x_bast, x_zast, x_aast, x_alen, x_obj, x_ret, x_retz, x_vret, x_max, x_min, x_copy, x_i2l, qg_none, qg_inl, qg_inr, qg_ite, xr1, xr0, xrE, xri, xl0, xl1, xl2, xl3, xl4, xl5, xl6, xl7, xl8, xl9, xl10, xs0, xs1, xs2, xs3, xs4, xs5, xs6, xs7, xs8, xs9, xs10, xi0, xi1, xi2, xi3, xi4, xi5, xi6, xi7, xi8, xi9, xi10, xc0, xc1, xc2, xc3, xc4, xc5, xc6, xc7, xv1, xv2, xv3, xv4, xv5, xv6, xv7, dT_le, dF_le, dT_lt, dF_lt, dT_eq, dF_eq, qa_up_hit, qa_up_no, dF_eq, hx, nb, r1, r2, r3]
          · have k77 := i.1.1
            have ib := m_isBranch (w := w) i.1 i.2.1 i.2.2.1 b
            rw [if_pos hb] at ib
            have ie := m_isEntry (m := m) (kd := kd) (w := w) k s v
            rw [if_neg (fun z => h3 z.2.2)] at ie
            unfold f_X12_append
            refine qa_fn_eq ?_ (by simp)
            simp (disch := omega) [ev_X12_append_0, ev_X12_append_1, ev_X12_append_2, ev_X12_append_3, ev_X12_append_4, ev_X12_append_5, B_X12_append_0, B_X12_append_1, B_X12_append_2, B_X12_append_3, B_X12_append_4, B_X12_append_5, x_const, x_iadd, x_isub, x_imul, x_idiv, x_irem, x_ineg, x_dup, x_dup_x1, x_dup2, x_pop, x_goto, x_ifeq, x_ifne, x_iflt, x_ifge, x_ifgt, x_ifle, x_cmpeq, x_cmpne, x_cmplt, x_cmpge, x_cmpgt, x_cmple, x_null, x_nonnull, x_acmpeq, x_acmpne, x_get, x_put, x_putz, x_ald, x_ast, x_bast, x_zast, x_aast, x_alen, x_obj, x_ret, x_retz, x_vret, x_max, x_min, x_copy, x_i2l, qg_none, qg_inl, qg_inr, qg_ite, xr1, xr0, xrE, xri, xl0, xl1, xl2, xl3, xl4, xl5, xl6, xl7, xl8, xl9, xl10, xs0, xs1, xs2, xs3, xs4, xs5, xs6, xs7, xs8, xs9, xs10, xi0, xi1, xi2, xi3, xi4, xi5, xi6, xi7, xi8, xi9, xi10, xc0, xc1, xc2, xc3, xc4, xc5, xc6, xc7, xv1, xv2, xv3, xv4, xv5, xv6, xv7, dT_le, dF_le, dT_lt, dF_lt, dT_eq, dF_eq, qa_up_hit, qa_up_no, dF_eq, k77, ib, ie]
      · refine p_thr (e := 2) (code := 2) hG hN (by decide) (by decide) (fun m kd n c s' i => ?_) (fun m kd w i => ?_)
        · obtain ⟨hK, hC, hx, hn, h00, -⟩ := i.q
          have nb := c_needBranch (w := (n, c, s')) i.q.1 i.q.2.1 hG.1.1 i.q.2.2.1 i.q.2.2.2.1 b
          rw [if_pos hb] at nb
          have r1 := c_needRange (m := m) (kd := kd) (w := (n, c, s')) k 0 9
          rw [if_pos h1] at r1
          have r2 := c_needRange (m := m) (kd := kd) (w := (n, c, s')) s 1 9
          rw [if_neg h2] at r2
          unfold f_X11_append
          refine qa_fn_eq ?_ (by simp)
          simp (disch := omega) [ev_X11_append_0, ev_X11_append_1, B_X11_append_0, B_X11_append_1, x_const, x_iadd, x_isub, x_imul, x_idiv, x_irem, x_ineg, x_dup, x_dup_x1, x_dup2, x_pop, x_goto, x_ifeq, x_ifne, x_iflt, x_ifge, x_ifgt, x_ifle, x_cmpeq, x_cmpne, x_cmplt, x_cmpge, x_cmpgt, x_cmple, x_null, x_nonnull, x_acmpeq, x_acmpne, x_get, x_put, x_putz, x_ald, x_ast, x_bast, x_zast, x_aast, x_alen, x_obj, x_ret, x_retz, x_vret, x_max, x_min, x_copy, x_i2l, qg_none, qg_inl, qg_inr, qg_ite, xr1, xr0, xrE, xri, xl0, xl1, xl2, xl3, xl4, xl5, xl6, xl7, xl8, xl9, xl10, xs0, xs1, xs2, xs3, xs4, xs5, xs6, xs7, xs8, xs9, xs10, xi0, xi1, xi2, xi3, xi4, xi5, xi6, xi7, xi8, xi9, xi10, xc0, xc1, xc2, xc3, xc4, xc5, xc6, xc7, xv1, xv2, xv3, xv4, xv5, xv6, xv7, dT_le, dF_le, dT_lt, dF_lt, dT_eq, dF_eq, qa_up_hit, qa_up_no, dF_eq, hx, nb, r1, r2]
        · have k77 := i.1.1
          have ib := m_isBranch (w := w) i.1 i.2.1 i.2.2.1 b
          rw [if_pos hb] at ib
          have ie := m_isEntry (m := m) (kd := kd) (w := w) k s v
          rw [if_neg (fun z => h2 z.2.1)] at ie
          unfold f_X12_append
          refine qa_fn_eq ?_ (by simp)
          simp (disch := omega) [ev_X12_append_0, ev_X12_append_1, ev_X12_append_2, ev_X12_append_3, ev_X12_append_4, ev_X12_append_5, B_X12_append_0, B_X12_append_1, B_X12_append_2, B_X12_append_3, B_X12_append_4, B_X12_append_5, x_const, x_iadd, x_isub, x_imul, x_idiv, x_irem, x_ineg, x_dup, x_dup_x1, x_dup2, x_pop, x_goto, x_ifeq, x_ifne, x_iflt, x_ifge, x_ifgt, x_ifle, x_cmpeq, x_cmpne, x_cmplt, x_cmpge, x_cmpgt, x_cmple, x_null, x_nonnull, x_acmpeq, x_acmpne, x_get, x_put, x_putz, x_ald, x_ast, x_bast, x_zast, x_aast, x_alen, x_obj, x_ret, x_retz, x_vret, x_max, x_min, x_copy, x_i2l, qg_none, qg_inl, qg_inr, qg_ite, xr1, xr0, xrE, xri, xl0, xl1, xl2, xl3, xl4, xl5, xl6, xl7, xl8, xl9, xl10, xs0, xs1, xs2, xs3, xs4, xs5, xs6, xs7, xs8, xs9, xs10, xi0, xi1, xi2, xi3, xi4, xi5, xi6, xi7, xi8, xi9, xi10, xc0, xc1, xc2, xc3, xc4, xc5, xc6, xc7, xv1, xv2, xv3, xv4, xv5, xv6, xv7, dT_le, dF_le, dT_lt, dF_lt, dT_eq, dF_eq, qa_up_hit, qa_up_no, dF_eq, k77, ib, ie]
    · refine p_thr (e := 2) (code := 2) hG hN (by decide) (by decide) (fun m kd n c s' i => ?_) (fun m kd w i => ?_)
      · obtain ⟨hK, hC, hx, hn, h00, -⟩ := i.q
        have nb := c_needBranch (w := (n, c, s')) i.q.1 i.q.2.1 hG.1.1 i.q.2.2.1 i.q.2.2.2.1 b
        rw [if_pos hb] at nb
        have r1 := c_needRange (m := m) (kd := kd) (w := (n, c, s')) k 0 9
        rw [if_neg h1] at r1
        unfold f_X11_append
        refine qa_fn_eq ?_ (by simp)
        simp (disch := omega) [ev_X11_append_0, ev_X11_append_1, B_X11_append_0, B_X11_append_1, x_const, x_iadd, x_isub, x_imul, x_idiv, x_irem, x_ineg, x_dup, x_dup_x1, x_dup2, x_pop, x_goto, x_ifeq, x_ifne, x_iflt, x_ifge, x_ifgt, x_ifle, x_cmpeq, x_cmpne, x_cmplt, x_cmpge, x_cmpgt, x_cmple, x_null, x_nonnull, x_acmpeq, x_acmpne, x_get, x_put, x_putz, x_ald, x_ast, x_bast, x_zast, x_aast, x_alen, x_obj, x_ret, x_retz, x_vret, x_max, x_min, x_copy, x_i2l, qg_none, qg_inl, qg_inr, qg_ite, xr1, xr0, xrE, xri, xl0, xl1, xl2, xl3, xl4, xl5, xl6, xl7, xl8, xl9, xl10, xs0, xs1, xs2, xs3, xs4, xs5, xs6, xs7, xs8, xs9, xs10, xi0, xi1, xi2, xi3, xi4, xi5, xi6, xi7, xi8, xi9, xi10, xc0, xc1, xc2, xc3, xc4, xc5, xc6, xc7, xv1, xv2, xv3, xv4, xv5, xv6, xv7, dT_le, dF_le, dT_lt, dF_lt, dT_eq, dF_eq, qa_up_hit, qa_up_no, dF_eq, hx, nb, r1]
      · have k77 := i.1.1
        have ib := m_isBranch (w := w) i.1 i.2.1 i.2.2.1 b
        rw [if_pos hb] at ib
        have ie := m_isEntry (m := m) (kd := kd) (w := w) k s v
        rw [if_neg (fun z => h1 z.1)] at ie
        unfold f_X12_append
        refine qa_fn_eq ?_ (by simp)
        simp (disch := omega) [ev_X12_append_0, ev_X12_append_1, ev_X12_append_2, ev_X12_append_3, ev_X12_append_4, ev_X12_append_5, B_X12_append_0, B_X12_append_1, B_X12_append_2, B_X12_append_3, B_X12_append_4, B_X12_append_5, x_const, x_iadd, x_isub, x_imul, x_idiv, x_irem, x_ineg, x_dup, x_dup_x1, x_dup2, x_pop, x_goto, x_ifeq, x_ifne, x_iflt, x_ifge, x_ifgt, x_ifle, x_cmpeq, x_cmpne, x_cmplt, x_cmpge, x_cmpgt, x_cmple, x_null, x_nonnull, x_acmpeq, x_acmpne, x_get, x_put, x_putz, x_ald, x_ast, x_bast, x_zast, x_aast, x_alen, x_obj, x_ret, x_retz, x_vret, x_max, x_min, x_copy, x_i2l, qg_none, qg_inl, qg_inr, qg_ite, xr1, xr0, xrE, xri, xl0, xl1, xl2, xl3, xl4, xl5, xl6, xl7, xl8, xl9, xl10, xs0, xs1, xs2, xs3, xs4, xs5, xs6, xs7, xs8, xs9, xs10, xi0, xi1, xi2, xi3, xi4, xi5, xi6, xi7, xi8, xi9, xi10, xc0, xc1, xc2, xc3, xc4, xc5, xc6, xc7, xv1, xv2, xv3, xv4, xv5, xv6, xv7, dT_le, dF_le, dT_lt, dF_lt, dT_eq, dF_eq, qa_up_hit, qa_up_no, dF_eq, k77, ib, ie]
  · refine p_thr (e := 1) (code := 1) hG hN (by decide) (by decide) (fun m kd n c s' i => ?_) (fun m kd w i => ?_)
    · obtain ⟨hK, hC, hx, hn, h00, -⟩ := i.q
      have nb := c_needBranch (w := (n, c, s')) i.q.1 i.q.2.1 hG.1.1 i.q.2.2.1 i.q.2.2.2.1 b
      rw [if_neg hb] at nb
      unfold f_X11_append
      refine qa_fn_eq ?_ (by simp)
      simp (disch := omega) [ev_X11_append_0, ev_X11_append_1, B_X11_append_0, B_X11_append_1, x_const, x_iadd, x_isub, x_imul, x_idiv, x_irem, x_ineg, x_dup, x_dup_x1, x_dup2, x_pop, x_goto, x_ifeq, x_ifne, x_iflt, x_ifge, x_ifgt, x_ifle, x_cmpeq, x_cmpne, x_cmplt, x_cmpge, x_cmpgt, x_cmple, x_null, x_nonnull, x_acmpeq, x_acmpne, x_get, x_put, x_putz, x_ald, x_ast, x_bast, x_zast, x_aast, x_alen, x_obj, x_ret, x_retz, x_vret, x_max, x_min, x_copy, x_i2l, qg_none, qg_inl, qg_inr, qg_ite, xr1, xr0, xrE, xri, xl0, xl1, xl2, xl3, xl4, xl5, xl6, xl7, xl8, xl9, xl10, xs0, xs1, xs2, xs3, xs4, xs5, xs6, xs7, xs8, xs9, xs10, xi0, xi1, xi2, xi3, xi4, xi5, xi6, xi7, xi8, xi9, xi10, xc0, xc1, xc2, xc3, xc4, xc5, xc6, xc7, xv1, xv2, xv3, xv4, xv5, xv6, xv7, dT_le, dF_le, dT_lt, dF_lt, dT_eq, dF_eq, qa_up_hit, qa_up_no, dF_eq, hx, nb]
    · have k77 := i.1.1
      have ib := m_isBranch (w := w) i.1 i.2.1 i.2.2.1 b
      rw [if_neg hb] at ib
      unfold f_X12_append
      refine qa_fn_eq ?_ (by simp)
      simp (disch := omega) [ev_X12_append_0, ev_X12_append_1, ev_X12_append_2, ev_X12_append_3, ev_X12_append_4, ev_X12_append_5, B_X12_append_0, B_X12_append_1, B_X12_append_2, B_X12_append_3, B_X12_append_4, B_X12_append_5, x_const, x_iadd, x_isub, x_imul, x_idiv, x_irem, x_ineg, x_dup, x_dup_x1, x_dup2, x_pop, x_goto, x_ifeq, x_ifne, x_iflt, x_ifge, x_ifgt, x_ifle, x_cmpeq, x_cmpne, x_cmplt, x_cmpge, x_cmpgt, x_cmple, x_null, x_nonnull, x_acmpeq, x_acmpne, x_get, x_put, x_putz, x_ald, x_ast, x_bast, x_zast, x_aast, x_alen, x_obj, x_ret, x_retz, x_vret, x_max, x_min, x_copy, x_i2l, qg_none, qg_inl, qg_inr, qg_ite, xr1, xr0, xrE, xri, xl0, xl1, xl2, xl3, xl4, xl5, xl6, xl7, xl8, xl9, xl10, xs0, xs1, xs2, xs3, xs4, xs5, xs6, xs7, xs8, xs9, xs10, xi0, xi1, xi2, xi3, xi4, xi5, xi6, xi7, xi8, xi9, xi10, xc0, xc1, xc2, xc3, xc4, xc5, xc6, xc7, xv1, xv2, xv3, xv4, xv5, xv6, xv7, dT_le, dF_le, dT_lt, dF_lt, dT_eq, dF_eq, qa_up_hit, qa_up_no, dF_eq, k77, ib]
theorem p_join {N : Int} {g : zG} (hG : GI N g) (hN : N ≤ 511) (b e : Int) : PPub N g f_X11_join [(1, 0), (0, b), (0, e)] f_X12_join [(1, 77), (0, b), (0, e)] [(1, 1)] := by
  by_cases hb : zBl g.1 b
  · obtain ⟨g', a, G', X', C, M⟩ := t_join (e := e) hG hN hb
    refine p_act G' X' C M (fun m kd w m' i act => ?_)
    have k77 := i.1.1
    have ib := m_isBranch (w := w) i.1 i.2.1 i.2.2.1 b
    rw [if_pos hb] at ib
    unfold f_X12_join
    refine qa_fn_eq ?_ (by simp)
    simp (disch := omega) [ev_X12_join_0, ev_X12_join_1, ev_X12_join_2, ev_X12_join_3, ev_X12_join_4, B_X12_join_0, B_X12_join_1, B_X12_join_2, B_X12_join_3, B_X12_join_4, x_const, x_iadd, x_isub, x_imul, x_idiv, x_irem, x_ineg, x_dup, x_dup_x1, x_dup2, x_pop, x_goto, x_ifeq, x_ifne, x_iflt, x_ifge, x_ifgt, x_ifle, x_cmpeq, x_cmpne, x_cmplt, x_cmpge, x_cmpgt, x_cmple, x_null, x_nonnull, x_acmpeq, x_acmpne, x_get, x_put, x_putz, x_ald, x_ast, x_bast, x_zast, x_aast, x_alen, x_obj, x_ret, x_retz, x_vret, x_max, x_min, x_copy, x_i2l, qg_none, qg_inl, qg_inr, qg_ite, xr1, xr0, xrE, xri, xl0, xl1, xl2, xl3, xl4, xl5, xl6, xl7, xl8, xl9, xl10, xs0, xs1, xs2, xs3, xs4, xs5, xs6, xs7, xs8, xs9, xs10, xi0, xi1, xi2, xi3, xi4, xi5, xi6, xi7, xi8, xi9, xi10, xc0, xc1, xc2, xc3, xc4, xc5, xc6, xc7, xv1, xv2, xv3, xv4, xv5, xv6, xv7, dT_le, dF_le, dT_lt, dF_lt, dT_eq, dF_eq, qa_up_hit, qa_up_no, dF_eq, k77, ib, act]
  · refine p_thr (e := 1) (code := 1) hG hN (by decide) (by decide) (fun m kd n c s' i => ?_) (fun m kd w i => ?_)
    · obtain ⟨hK, hC, hx, hn, h00, -⟩ := i.q
      have nb := c_needBranch (w := (n, c, s')) i.q.1 i.q.2.1 hG.1.1 i.q.2.2.1 i.q.2.2.2.1 b
      rw [if_neg hb] at nb
      unfold f_X11_join
      refine qa_fn_eq ?_ (by simp)
      simp (disch := omega) [ev_X11_join_0, ev_X11_join_1, ev_X11_join_2, ev_X11_join_3, B_X11_join_0, B_X11_join_1, B_X11_join_2, B_X11_join_3, x_const, x_iadd, x_isub, x_imul, x_idiv, x_irem, x_ineg, x_dup, x_dup_x1, x_dup2, x_pop, x_goto, x_ifeq, x_ifne, x_iflt, x_ifge, x_ifgt, x_ifle, x_cmpeq, x_cmpne, x_cmplt, x_cmpge, x_cmpgt, x_cmple, x_null, x_nonnull, x_acmpeq, x_acmpne, x_get, x_put, x_putz, x_ald, x_ast, x_bast, x_zast, x_aast, x_alen, x_obj, x_ret, x_retz, x_vret, x_max, x_min, x_copy, x_i2l, qg_none, qg_inl, qg_inr, qg_ite, xr1, xr0, xrE, xri, xl0, xl1, xl2, xl3, xl4, xl5, xl6, xl7, xl8, xl9, xl10, xs0, xs1, xs2, xs3, xs4, xs5, xs6, xs7, xs8, xs9, xs10, xi0, xi1, xi2, xi3, xi4, xi5, xi6, xi7, xi8, xi9, xi10, xc0, xc1, xc2, xc3, xc4, xc5, xc6, xc7, xv1, xv2, xv3, xv4, xv5, xv6, xv7, dT_le, dF_le, dT_lt, dF_lt, dT_eq, dF_eq, qa_up_hit, qa_up_no, dF_eq, hx, nb]
    · have k77 := i.1.1
      have ib := m_isBranch (w := w) i.1 i.2.1 i.2.2.1 b
      rw [if_neg hb] at ib
      unfold f_X12_join
      refine qa_fn_eq ?_ (by simp)
      simp (disch := omega) [ev_X12_join_0, ev_X12_join_1, ev_X12_join_2, ev_X12_join_3, ev_X12_join_4, B_X12_join_0, B_X12_join_1, B_X12_join_2, B_X12_join_3, B_X12_join_4, x_const, x_iadd, x_isub, x_imul, x_idiv, x_irem, x_ineg, x_dup, x_dup_x1, x_dup2, x_pop, x_goto, x_ifeq, x_ifne, x_iflt, x_ifge, x_ifgt, x_ifle, x_cmpeq, x_cmpne, x_cmplt, x_cmpge, x_cmpgt, x_cmple, x_null, x_nonnull, x_acmpeq, x_acmpne, x_get, x_put, x_putz, x_ald, x_ast, x_bast, x_zast, x_aast, x_alen, x_obj, x_ret, x_retz, x_vret, x_max, x_min, x_copy, x_i2l, qg_none, qg_inl, qg_inr, qg_ite, xr1, xr0, xrE, xri, xl0, xl1, xl2, xl3, xl4, xl5, xl6, xl7, xl8, xl9, xl10, xs0, xs1, xs2, xs3, xs4, xs5, xs6, xs7, xs8, xs9, xs10, xi0, xi1, xi2, xi3, xi4, xi5, xi6, xi7, xi8, xi9, xi10, xc0, xc1, xc2, xc3, xc4, xc5, xc6, xc7, xv1, xv2, xv3, xv4, xv5, xv6, xv7, dT_le, dF_le, dT_lt, dF_lt, dT_eq, dF_eq, qa_up_hit, qa_up_no, dF_eq, k77, ib]
theorem p_leave {N : Int} {g : zG} (hG : GI N g) (hN : N ≤ 511) (r : Int) : PPub N g f_X11_leave [(1, 0), (0, r)] f_X12_leave [(1, 77), (0, r)] [(1, 1)] := by
  by_cases hb : zRl g.1 r
  · obtain ⟨g', a, G', X', C, M⟩ := t_leave hG hN hb
    refine p_act G' X' C M (fun m kd w m' i act => ?_)
    have k77 := i.1.1
    have ib := m_isReader (w := w) i.1 i.2.1 i.2.2.1 r
    rw [if_pos hb] at ib
    unfold f_X12_leave
    refine qa_fn_eq ?_ (by simp)
    simp (disch := omega) [ev_X12_leave_0, ev_X12_leave_1, ev_X12_leave_2, ev_X12_leave_3, ev_X12_leave_4, B_X12_leave_0, B_X12_leave_1, B_X12_leave_2, B_X12_leave_3, B_X12_leave_4, x_const, x_iadd, x_isub, x_imul, x_idiv, x_irem, x_ineg, x_dup, x_dup_x1, x_dup2, x_pop, x_goto, x_ifeq, x_ifne, x_iflt, x_ifge, x_ifgt, x_ifle, x_cmpeq, x_cmpne, x_cmplt, x_cmpge, x_cmpgt, x_cmple, x_null, x_nonnull, x_acmpeq, x_acmpne, x_get, x_put, x_putz, x_ald, x_ast, x_bast, x_zast, x_aast, x_alen, x_obj, x_ret, x_retz, x_vret, x_max, x_min, x_copy, x_i2l, qg_none, qg_inl, qg_inr, qg_ite, xr1, xr0, xrE, xri, xl0, xl1, xl2, xl3, xl4, xl5, xl6, xl7, xl8, xl9, xl10, xs0, xs1, xs2, xs3, xs4, xs5, xs6, xs7, xs8, xs9, xs10, xi0, xi1, xi2, xi3, xi4, xi5, xi6, xi7, xi8, xi9, xi10, xc0, xc1, xc2, xc3, xc4, xc5, xc6, xc7, xv1, xv2, xv3, xv4, xv5, xv6, xv7, dT_le, dF_le, dT_lt, dF_lt, dT_eq, dF_eq, qa_up_hit, qa_up_no, dF_eq, k77, ib, act]
  · refine p_thr (e := 1) (code := 1) hG hN (by decide) (by decide) (fun m kd n c s' i => ?_) (fun m kd w i => ?_)
    · obtain ⟨hK, hC, hx, hn, h00, -⟩ := i.q
      have nb := c_needReader (w := (n, c, s')) i.q.1 i.q.2.1 hG.1.1 i.q.2.2.1 i.q.2.2.2.1 r
      rw [if_neg hb] at nb
      unfold f_X11_leave
      refine qa_fn_eq ?_ (by simp)
      simp (disch := omega) [ev_X11_leave_0, B_X11_leave_0, x_const, x_iadd, x_isub, x_imul, x_idiv, x_irem, x_ineg, x_dup, x_dup_x1, x_dup2, x_pop, x_goto, x_ifeq, x_ifne, x_iflt, x_ifge, x_ifgt, x_ifle, x_cmpeq, x_cmpne, x_cmplt, x_cmpge, x_cmpgt, x_cmple, x_null, x_nonnull, x_acmpeq, x_acmpne, x_get, x_put, x_putz, x_ald, x_ast, x_bast, x_zast, x_aast, x_alen, x_obj, x_ret, x_retz, x_vret, x_max, x_min, x_copy, x_i2l, qg_none, qg_inl, qg_inr, qg_ite, xr1, xr0, xrE, xri, xl0, xl1, xl2, xl3, xl4, xl5, xl6, xl7, xl8, xl9, xl10, xs0, xs1, xs2, xs3, xs4, xs5, xs6, xs7, xs8, xs9, xs10, xi0, xi1, xi2, xi3, xi4, xi5, xi6, xi7, xi8, xi9, xi10, xc0, xc1, xc2, xc3, xc4, xc5, xc6, xc7, xv1, xv2, xv3, xv4, xv5, xv6, xv7, dT_le, dF_le, dT_lt, dF_lt, dT_eq, dF_eq, qa_up_hit, qa_up_no, dF_eq, hx, nb]
    · have k77 := i.1.1
      have ib := m_isReader (w := w) i.1 i.2.1 i.2.2.1 r
      rw [if_neg hb] at ib
      unfold f_X12_leave
      refine qa_fn_eq ?_ (by simp)
      simp (disch := omega) [ev_X12_leave_0, ev_X12_leave_1, ev_X12_leave_2, ev_X12_leave_3, ev_X12_leave_4, B_X12_leave_0, B_X12_leave_1, B_X12_leave_2, B_X12_leave_3, B_X12_leave_4, x_const, x_iadd, x_isub, x_imul, x_idiv, x_irem, x_ineg, x_dup, x_dup_x1, x_dup2, x_pop, x_goto, x_ifeq, x_ifne, x_iflt, x_ifge, x_ifgt, x_ifle, x_cmpeq, x_cmpne, x_cmplt, x_cmpge, x_cmpgt, x_cmple, x_null, x_nonnull, x_acmpeq, x_acmpne, x_get, x_put, x_putz, x_ald, x_ast, x_bast, x_zast, x_aast, x_alen, x_obj, x_ret, x_retz, x_vret, x_max, x_min, x_copy, x_i2l, qg_none, qg_inl, qg_inr, qg_ite, xr1, xr0, xrE, xri, xl0, xl1, xl2, xl3, xl4, xl5, xl6, xl7, xl8, xl9, xl10, xs0, xs1, xs2, xs3, xs4, xs5, xs6, xs7, xs8, xs9, xs10, xi0, xi1, xi2, xi3, xi4, xi5, xi6, xi7, xi8, xi9, xi10, xc0, xc1, xc2, xc3, xc4, xc5, xc6, xc7, xv1, xv2, xv3, xv4, xv5, xv6, xv7, dT_le, dF_le, dT_lt, dF_lt, dT_eq, dF_eq, qa_up_hit, qa_up_no, dF_eq, k77, ib]
theorem p_read {N : Int} {g : zG} (hG : GI N g) (hN : N ≤ 511) (r it : Int) : PPub N g f_X11_read [(1, 0), (0, r), (0, it)] f_X12_read [(1, 77), (0, r), (0, it)] [(1, 1), (2, 2)] := by
  by_cases hb : zRl g.1 r
  · by_cases ht : 1 ≤ it ∧ it ≤ 99
    · obtain ⟨g', a, G', X', C, M⟩ := t_read hG hN hb ht
      refine p_act G' X' C M (fun m kd w m' i act => ?_)
      have k77 := i.1.1
      have ib := m_isReader (w := w) i.1 i.2.1 i.2.2.1 r
      rw [if_pos hb] at ib
      have rg := m_in (m := m) (kd := kd) (w := w) it 1 99
      rw [if_pos ht] at rg
      unfold f_X12_read
      refine qa_fn_eq ?_ (by simp)
      simp (disch := omega) [ev_X12_read_0, ev_X12_read_1, ev_X12_read_2, ev_X12_read_3, ev_X12_read_4, ev_X12_read_5, B_X12_read_0, B_X12_read_1, B_X12_read_2, B_X12_read_3, B_X12_read_4, B_X12_read_5, x_const, x_iadd, x_isub, x_imul, x_idiv, x_irem, x_ineg, x_dup, x_dup_x1, x_dup2, x_pop, x_goto, x_ifeq, x_ifne, x_iflt, x_ifge, x_ifgt, x_ifle, x_cmpeq, x_cmpne, x_cmplt, x_cmpge, x_cmpgt, x_cmple, x_null, x_nonnull, x_acmpeq, x_acmpne, x_get, x_put, x_putz, x_ald, x_ast, x_bast, x_zast, x_aast, x_alen, x_obj, x_ret, x_retz, x_vret, x_max, x_min, x_copy, x_i2l, qg_none, qg_inl, qg_inr, qg_ite, xr1, xr0, xrE, xri, xl0, xl1, xl2, xl3, xl4, xl5, xl6, xl7, xl8, xl9, xl10, xs0, xs1, xs2, xs3, xs4, xs5, xs6, xs7, xs8, xs9, xs10, xi0, xi1, xi2, xi3, xi4, xi5, xi6, xi7, xi8, xi9, xi10, xc0, xc1, xc2, xc3, xc4, xc5, xc6, xc7, xv1, xv2, xv3, xv4, xv5, xv6, xv7, dT_le, dF_le, dT_lt, dF_lt, dT_eq, dF_eq, qa_up_hit, qa_up_no, dF_eq, k77, ib, rg, act]
    · refine p_thr (e := 2) (code := 2) hG hN (by decide) (by decide) (fun m kd n c s' i => ?_) (fun m kd w i => ?_)
      · obtain ⟨hK, hC, hx, hn, h00, -⟩ := i.q
        have nb := c_needReader (w := (n, c, s')) i.q.1 i.q.2.1 hG.1.1 i.q.2.2.1 i.q.2.2.2.1 r
        rw [if_pos hb] at nb
        have rg := c_needRange (m := m) (kd := kd) (w := (n, c, s')) it 1 99
        rw [if_neg ht] at rg
        unfold f_X11_read
        refine qa_fn_eq ?_ (by simp)
        simp (disch := omega) [ev_X11_read_0, ev_X11_read_1, B_X11_read_0, B_X11_read_1, x_const, x_iadd, x_isub, x_imul, x_idiv, x_irem, x_ineg, x_dup, x_dup_x1, x_dup2, x_pop, x_goto, x_ifeq, x_ifne, x_iflt, x_ifge, x_ifgt, x_ifle, x_cmpeq, x_cmpne, x_cmplt, x_cmpge, x_cmpgt, x_cmple, x_null, x_nonnull, x_acmpeq, x_acmpne, x_get, x_put, x_putz, x_ald, x_ast, x_bast, x_zast, x_aast, x_alen, x_obj, x_ret, x_retz, x_vret, x_max, x_min, x_copy, x_i2l, qg_none, qg_inl, qg_inr, qg_ite, xr1, xr0, xrE, xri, xl0, xl1, xl2, xl3, xl4, xl5, xl6, xl7, xl8, xl9, xl10, xs0, xs1, xs2, xs3, xs4, xs5, xs6, xs7, xs8, xs9, xs10, xi0, xi1, xi2, xi3, xi4, xi5, xi6, xi7, xi8, xi9, xi10, xc0, xc1, xc2, xc3, xc4, xc5, xc6, xc7, xv1, xv2, xv3, xv4, xv5, xv6, xv7, dT_le, dF_le, dT_lt, dF_lt, dT_eq, dF_eq, qa_up_hit, qa_up_no, dF_eq, hx, nb, rg]
      · have k77 := i.1.1
        have ib := m_isReader (w := w) i.1 i.2.1 i.2.2.1 r
        rw [if_pos hb] at ib
        have rg := m_in (m := m) (kd := kd) (w := w) it 1 99
        rw [if_neg ht] at rg
        unfold f_X12_read
        refine qa_fn_eq ?_ (by simp)
        simp (disch := omega) [ev_X12_read_0, ev_X12_read_1, ev_X12_read_2, ev_X12_read_3, ev_X12_read_4, ev_X12_read_5, B_X12_read_0, B_X12_read_1, B_X12_read_2, B_X12_read_3, B_X12_read_4, B_X12_read_5, x_const, x_iadd, x_isub, x_imul, x_idiv, x_irem, x_ineg, x_dup, x_dup_x1, x_dup2, x_pop, x_goto, x_ifeq, x_ifne, x_iflt, x_ifge, x_ifgt, x_ifle, x_cmpeq, x_cmpne, x_cmplt, x_cmpge, x_cmpgt, x_cmple, x_null, x_nonnull, x_acmpeq, x_acmpne, x_get, x_put, x_putz, x_ald, x_ast, x_bast, x_zast, x_aast, x_alen, x_obj, x_ret, x_retz, x_vret, x_max, x_min, x_copy, x_i2l, qg_none, qg_inl, qg_inr, qg_ite, xr1, xr0, xrE, xri, xl0, xl1, xl2, xl3, xl4, xl5, xl6, xl7, xl8, xl9, xl10, xs0, xs1, xs2, xs3, xs4, xs5, xs6, xs7, xs8, xs9, xs10, xi0, xi1, xi2, xi3, xi4, xi5, xi6, xi7, xi8, xi9, xi10, xc0, xc1, xc2, xc3, xc4, xc5, xc6, xc7, xv1, xv2, xv3, xv4, xv5, xv6, xv7, dT_le, dF_le, dT_lt, dF_lt, dT_eq, dF_eq, qa_up_hit, qa_up_no, dF_eq, k77, ib, rg]
  · refine p_thr (e := 1) (code := 1) hG hN (by decide) (by decide) (fun m kd n c s' i => ?_) (fun m kd w i => ?_)
    · obtain ⟨hK, hC, hx, hn, h00, -⟩ := i.q
      have nb := c_needReader (w := (n, c, s')) i.q.1 i.q.2.1 hG.1.1 i.q.2.2.1 i.q.2.2.2.1 r
      rw [if_neg hb] at nb
      unfold f_X11_read
      refine qa_fn_eq ?_ (by simp)
      simp (disch := omega) [ev_X11_read_0, ev_X11_read_1, B_X11_read_0, B_X11_read_1, x_const, x_iadd, x_isub, x_imul, x_idiv, x_irem, x_ineg, x_dup, x_dup_x1, x_dup2, x_pop, x_goto, x_ifeq, x_ifne, x_iflt, x_ifge, x_ifgt, x_ifle, x_cmpeq, x_cmpne, x_cmplt, x_cmpge, x_cmpgt, x_cmple, x_null, x_nonnull, x_acmpeq, x_acmpne, x_get, x_put, x_putz, x_ald, x_ast, x_bast, x_zast, x_aast, x_alen, x_obj, x_ret, x_retz, x_vret, x_max, x_min, x_copy, x_i2l, qg_none, qg_inl, qg_inr, qg_ite, xr1, xr0, xrE, xri, xl0, xl1, xl2, xl3, xl4, xl5, xl6, xl7, xl8, xl9, xl10, xs0, xs1, xs2, xs3, xs4, xs5, xs6, xs7, xs8, xs9, xs10, xi0, xi1, xi2, xi3, xi4, xi5, xi6, xi7, xi8, xi9, xi10, xc0, xc1, xc2, xc3, xc4, xc5, xc6, xc7, xv1, xv2, xv3, xv4, xv5, xv6, xv7, dT_le, dF_le, dT_lt, dF_lt, dT_eq, dF_eq, qa_up_hit, qa_up_no, dF_eq, hx, nb]
    · have k77 := i.1.1
      have ib := m_isReader (w := w) i.1 i.2.1 i.2.2.1 r
      rw [if_neg hb] at ib
      unfold f_X12_read
      refine qa_fn_eq ?_ (by simp)
      simp (disch := omega) [ev_X12_read_0, ev_X12_read_1, ev_X12_read_2, ev_X12_read_3, ev_X12_read_4, ev_X12_read_5, B_X12_read_0, B_X12_read_1, B_X12_read_2, B_X12_read_3, B_X12_read_4, B_X12_read_5, x_const, x_iadd, x_isub, x_imul, x_idiv, x_irem, x_ineg, x_dup, x_dup_x1, x_dup2, x_pop, x_goto, x_ifeq, x_ifne, x_iflt, x_ifge, x_ifgt, x_ifle, x_cmpeq, x_cmpne, x_cmplt, x_cmpge, x_cmpgt, x_cmple, x_null, x_nonnull, x_acmpeq, x_acmpne, x_get, x_put, x_putz, x_ald, x_ast, x_bast, x_zast, x_aast, x_alen, x_obj, x_ret, x_retz, x_vret, x_max, x_min, x_copy, x_i2l, qg_none, qg_inl, qg_inr, qg_ite, xr1, xr0, xrE, xri, xl0, xl1, xl2, xl3, xl4, xl5, xl6, xl7, xl8, xl9, xl10, xs0, xs1, xs2, xs3, xs4, xs5, xs6, xs7, xs8, xs9, xs10, xi0, xi1, xi2, xi3, xi4, xi5, xi6, xi7, xi8, xi9, xi10, xc0, xc1, xc2, xc3, xc4, xc5, xc6, xc7, xv1, xv2, xv3, xv4, xv5, xv6, xv7, dT_le, dF_le, dT_lt, dF_lt, dT_eq, dF_eq, qa_up_hit, qa_up_no, dF_eq, k77, ib]
theorem p_promise {N : Int} {g : zG} (hG : GI N g) (hN : N ≤ 511) (r t : Int) : PPub N g f_X11_promise [(1, 0), (0, r), (0, t)] f_X12_promise [(1, 77), (0, r), (0, t)] [(1, 1), (2, 2)] := by
  by_cases hb : zRl g.1 r
  · by_cases ht : 1 ≤ t ∧ t ≤ g.2.2.2.2.2.1 5
    · obtain ⟨g', a, G', X', C, M⟩ := t_promise hG hN hb ht
      refine p_act G' X' C M (fun m kd w m' i act => ?_)
      have k77 := i.1.1
      have ib := m_isReader (w := w) i.1 i.2.1 i.2.2.1 r
      rw [if_pos hb] at ib
      have k78 := i.1.2.1
      have r1 := i.2.1.1
      have v5 := i.2.2.2.2.2.2.1 5 (by decide) (by decide)
      have rg := m_in (m := m) (kd := kd) (w := w) t 1 (g.2.2.2.2.2.1 5)
      rw [if_pos ht] at rg
      unfold f_X12_promise
      refine qa_fn_eq ?_ (by simp)
      simp (disch := omega) [ev_X12_promise_0, ev_X12_promise_1, ev_X12_promise_2, ev_X12_promise_3, ev_X12_promise_4, ev_X12_promise_5, B_X12_promise_0, B_X12_promise_1, B_X12_promise_2, B_X12_promise_3, B_X12_promise_4, B_X12_promise_5, x_const, x_iadd, x_isub, x_imul, x_idiv, x_irem, x_ineg, x_dup, x_dup_x1, x_dup2, x_pop, x_goto, x_ifeq, x_ifne, x_iflt, x_ifge, x_ifgt, x_ifle, x_cmpeq, x_cmpne, x_cmplt, x_cmpge, x_cmpgt, x_cmple, x_null, x_nonnull, x_acmpeq, x_acmpne, x_get, x_put, x_putz, x_ald, x_ast, x_bast, x_zast, x_aast, x_alen, x_obj, x_ret, x_retz, x_vret, x_max, x_min, x_copy, x_i2l, qg_none, qg_inl, qg_inr, qg_ite, xr1, xr0, xrE, xri, xl0, xl1, xl2, xl3, xl4, xl5, xl6, xl7, xl8, xl9, xl10, xs0, xs1, xs2, xs3, xs4, xs5, xs6, xs7, xs8, xs9, xs10, xi0, xi1, xi2, xi3, xi4, xi5, xi6, xi7, xi8, xi9, xi10, xc0, xc1, xc2, xc3, xc4, xc5, xc6, xc7, xv1, xv2, xv3, xv4, xv5, xv6, xv7, dT_le, dF_le, dT_lt, dF_lt, dT_eq, dF_eq, qa_up_hit, qa_up_no, dF_eq, k77, k78, r1, v5, ib, rg, act]
    · refine p_thr (e := 2) (code := 2) hG hN (by decide) (by decide) (fun m kd n c s' i => ?_) (fun m kd w i => ?_)
      · obtain ⟨hK, hC, hx, hn, h00, -⟩ := i.q
        have nb := c_needReader (w := (n, c, s')) i.q.1 i.q.2.1 hG.1.1 i.q.2.2.1 i.q.2.2.2.1 r
        rw [if_pos hb] at nb
        have v5 := c_valueOf (w := (n, c, s')) i.2.1 5 (by decide)
        have k1 := i.2.1.1
        have rg := c_needRange (m := m) (kd := kd) (w := (n, c, s')) t 1 (g.2.2.2.2.2.1 5)
        rw [if_neg ht] at rg
        unfold f_X11_promise
        refine qa_fn_eq ?_ (by simp)
        simp (disch := omega) [ev_X11_promise_0, ev_X11_promise_1, ev_X11_promise_2, B_X11_promise_0, B_X11_promise_1, B_X11_promise_2, x_const, x_iadd, x_isub, x_imul, x_idiv, x_irem, x_ineg, x_dup, x_dup_x1, x_dup2, x_pop, x_goto, x_ifeq, x_ifne, x_iflt, x_ifge, x_ifgt, x_ifle, x_cmpeq, x_cmpne, x_cmplt, x_cmpge, x_cmpgt, x_cmple, x_null, x_nonnull, x_acmpeq, x_acmpne, x_get, x_put, x_putz, x_ald, x_ast, x_bast, x_zast, x_aast, x_alen, x_obj, x_ret, x_retz, x_vret, x_max, x_min, x_copy, x_i2l, qg_none, qg_inl, qg_inr, qg_ite, xr1, xr0, xrE, xri, xl0, xl1, xl2, xl3, xl4, xl5, xl6, xl7, xl8, xl9, xl10, xs0, xs1, xs2, xs3, xs4, xs5, xs6, xs7, xs8, xs9, xs10, xi0, xi1, xi2, xi3, xi4, xi5, xi6, xi7, xi8, xi9, xi10, xc0, xc1, xc2, xc3, xc4, xc5, xc6, xc7, xv1, xv2, xv3, xv4, xv5, xv6, xv7, dT_le, dF_le, dT_lt, dF_lt, dT_eq, dF_eq, qa_up_hit, qa_up_no, dF_eq, hx, nb, h00, k1, v5, rg]
      · have k77 := i.1.1
        have ib := m_isReader (w := w) i.1 i.2.1 i.2.2.1 r
        rw [if_pos hb] at ib
        have k78 := i.1.2.1
        have r1 := i.2.1.1
        have v5 := i.2.2.2.2.2.2.1 5 (by decide) (by decide)
        have rg := m_in (m := m) (kd := kd) (w := w) t 1 (g.2.2.2.2.2.1 5)
        rw [if_neg ht] at rg
        unfold f_X12_promise
        refine qa_fn_eq ?_ (by simp)
        simp (disch := omega) [ev_X12_promise_0, ev_X12_promise_1, ev_X12_promise_2, ev_X12_promise_3, ev_X12_promise_4, ev_X12_promise_5, B_X12_promise_0, B_X12_promise_1, B_X12_promise_2, B_X12_promise_3, B_X12_promise_4, B_X12_promise_5, x_const, x_iadd, x_isub, x_imul, x_idiv, x_irem, x_ineg, x_dup, x_dup_x1, x_dup2, x_pop, x_goto, x_ifeq, x_ifne, x_iflt, x_ifge, x_ifgt, x_ifle, x_cmpeq, x_cmpne, x_cmplt, x_cmpge, x_cmpgt, x_cmple, x_null, x_nonnull, x_acmpeq, x_acmpne, x_get, x_put, x_putz, x_ald, x_ast, x_bast, x_zast, x_aast, x_alen, x_obj, x_ret, x_retz, x_vret, x_max, x_min, x_copy, x_i2l, qg_none, qg_inl, qg_inr, qg_ite, xr1, xr0, xrE, xri, xl0, xl1, xl2, xl3, xl4, xl5, xl6, xl7, xl8, xl9, xl10, xs0, xs1, xs2, xs3, xs4, xs5, xs6, xs7, xs8, xs9, xs10, xi0, xi1, xi2, xi3, xi4, xi5, xi6, xi7, xi8, xi9, xi10, xc0, xc1, xc2, xc3, xc4, xc5, xc6, xc7, xv1, xv2, xv3, xv4, xv5, xv6, xv7, dT_le, dF_le, dT_lt, dF_lt, dT_eq, dF_eq, qa_up_hit, qa_up_no, dF_eq, k77, k78, r1, v5, ib, rg]
  · refine p_thr (e := 1) (code := 1) hG hN (by decide) (by decide) (fun m kd n c s' i => ?_) (fun m kd w i => ?_)
    · obtain ⟨hK, hC, hx, hn, h00, -⟩ := i.q
      have nb := c_needReader (w := (n, c, s')) i.q.1 i.q.2.1 hG.1.1 i.q.2.2.1 i.q.2.2.2.1 r
      rw [if_neg hb] at nb
      unfold f_X11_promise
      refine qa_fn_eq ?_ (by simp)
      simp (disch := omega) [ev_X11_promise_0, ev_X11_promise_1, ev_X11_promise_2, B_X11_promise_0, B_X11_promise_1, B_X11_promise_2, x_const, x_iadd, x_isub, x_imul, x_idiv, x_irem, x_ineg, x_dup, x_dup_x1, x_dup2, x_pop, x_goto, x_ifeq, x_ifne, x_iflt, x_ifge, x_ifgt, x_ifle, x_cmpeq, x_cmpne, x_cmplt, x_cmpge, x_cmpgt, x_cmple, x_null, x_nonnull, x_acmpeq, x_acmpne, x_get, x_put, x_putz, x_ald, x_ast, x_bast, x_zast, x_aast, x_alen, x_obj, x_ret, x_retz, x_vret, x_max, x_min, x_copy, x_i2l, qg_none, qg_inl, qg_inr, qg_ite, xr1, xr0, xrE, xri, xl0, xl1, xl2, xl3, xl4, xl5, xl6, xl7, xl8, xl9, xl10, xs0, xs1, xs2, xs3, xs4, xs5, xs6, xs7, xs8, xs9, xs10, xi0, xi1, xi2, xi3, xi4, xi5, xi6, xi7, xi8, xi9, xi10, xc0, xc1, xc2, xc3, xc4, xc5, xc6, xc7, xv1, xv2, xv3, xv4, xv5, xv6, xv7, dT_le, dF_le, dT_lt, dF_lt, dT_eq, dF_eq, qa_up_hit, qa_up_no, dF_eq, hx, nb]
    · have k77 := i.1.1
      have ib := m_isReader (w := w) i.1 i.2.1 i.2.2.1 r
      rw [if_neg hb] at ib
      unfold f_X12_promise
      refine qa_fn_eq ?_ (by simp)
      simp (disch := omega) [ev_X12_promise_0, ev_X12_promise_1, ev_X12_promise_2, ev_X12_promise_3, ev_X12_promise_4, ev_X12_promise_5, B_X12_promise_0, B_X12_promise_1, B_X12_promise_2, B_X12_promise_3, B_X12_promise_4, B_X12_promise_5, x_const, x_iadd, x_isub, x_imul, x_idiv, x_irem, x_ineg, x_dup, x_dup_x1, x_dup2, x_pop, x_goto, x_ifeq, x_ifne, x_iflt, x_ifge, x_ifgt, x_ifle, x_cmpeq, x_cmpne, x_cmplt, x_cmpge, x_cmpgt, x_cmple, x_null, x_nonnull, x_acmpeq, x_acmpne, x_get, x_put, x_putz, x_ald, x_ast, x_bast, x_zast, x_aast, x_alen, x_obj, x_ret, x_retz, x_vret, x_max, x_min, x_copy, x_i2l, qg_none, qg_inl, qg_inr, qg_ite, xr1, xr0, xrE, xri, xl0, xl1, xl2, xl3, xl4, xl5, xl6, xl7, xl8, xl9, xl10, xs0, xs1, xs2, xs3, xs4, xs5, xs6, xs7, xs8, xs9, xs10, xi0, xi1, xi2, xi3, xi4, xi5, xi6, xi7, xi8, xi9, xi10, xc0, xc1, xc2, xc3, xc4, xc5, xc6, xc7, xv1, xv2, xv3, xv4, xv5, xv6, xv7, dT_le, dF_le, dT_lt, dF_lt, dT_eq, dF_eq, qa_up_hit, qa_up_no, dF_eq, k77, ib]
theorem p_move {N : Int} {g : zG} (hG : GI N g) (hN : N ≤ 511) (r b : Int) : PPub N g f_X11_move [(1, 0), (0, r), (0, b)] f_X12_move [(1, 77), (0, r), (0, b)] [(1, 1)] := by
  by_cases hb : zRl g.1 r
  · by_cases hb2 : zBl g.1 b
    · obtain ⟨g', a, G', X', C, M⟩ := t_move hG hN hb hb2
      refine p_act G' X' C M (fun m kd w m' i act => ?_)
      have k77 := i.1.1
      have ib := m_isReader (w := w) i.1 i.2.1 i.2.2.1 r
      rw [if_pos hb] at ib
      have ib2 := m_isBranch (w := w) i.1 i.2.1 i.2.2.1 b
      rw [if_pos hb2] at ib2
      unfold f_X12_move
      refine qa_fn_eq ?_ (by simp)
      simp (disch := omega) [ev_X12_move_0, ev_X12_move_1, ev_X12_move_2, ev_X12_move_3, ev_X12_move_4, B_X12_move_0, B_X12_move_1, B_X12_move_2, B_X12_move_3, B_X12_move_4, x_const, x_iadd, x_isub, x_imul, x_idiv, x_irem, x_ineg, x_dup, x_dup_x1, x_dup2, x_pop, x_goto, x_ifeq, x_ifne, x_iflt, x_ifge, x_ifgt, x_ifle, x_cmpeq, x_cmpne, x_cmplt, x_cmpge, x_cmpgt, x_cmple, x_null, x_nonnull, x_acmpeq, x_acmpne, x_get, x_put, x_putz, x_ald, x_ast, x_bast, x_zast, x_aast, x_alen, x_obj, x_ret, x_retz, x_vret, x_max, x_min, x_copy, x_i2l, qg_none, qg_inl, qg_inr, qg_ite, xr1, xr0, xrE, xri, xl0, xl1, xl2, xl3, xl4, xl5, xl6, xl7, xl8, xl9, xl10, xs0, xs1, xs2, xs3, xs4, xs5, xs6, xs7, xs8, xs9, xs10, xi0, xi1, xi2, xi3, xi4, xi5, xi6, xi7, xi8, xi9, xi10, xc0, xc1, xc2, xc3, xc4, xc5, xc6, xc7, xv1, xv2, xv3, xv4, xv5, xv6, xv7, dT_le, dF_le, dT_lt, dF_lt, dT_eq, dF_eq, qa_up_hit, qa_up_no, dF_eq, k77, ib, ib2, act]
    · refine p_thr (e := 1) (code := 1) hG hN (by decide) (by decide) (fun m kd n c s' i => ?_) (fun m kd w i => ?_)
      · obtain ⟨hK, hC, hx, hn, h00, -⟩ := i.q
        have nb := c_needReader (w := (n, c, s')) i.q.1 i.q.2.1 hG.1.1 i.q.2.2.1 i.q.2.2.2.1 r
        rw [if_pos hb] at nb
        have nb2 := c_needBranch (w := (n, c, s')) i.q.1 i.q.2.1 hG.1.1 i.q.2.2.1 i.q.2.2.2.1 b
        rw [if_neg hb2] at nb2
        unfold f_X11_move
        refine qa_fn_eq ?_ (by simp)
        simp (disch := omega) [ev_X11_move_0, ev_X11_move_1, ev_X11_move_2, B_X11_move_0, B_X11_move_1, B_X11_move_2, x_const, x_iadd, x_isub, x_imul, x_idiv, x_irem, x_ineg, x_dup, x_dup_x1, x_dup2, x_pop, x_goto, x_ifeq, x_ifne, x_iflt, x_ifge, x_ifgt, x_ifle, x_cmpeq, x_cmpne, x_cmplt, x_cmpge, x_cmpgt, x_cmple, x_null, x_nonnull, x_acmpeq, x_acmpne, x_get, x_put, x_putz, x_ald, x_ast, x_bast, x_zast, x_aast, x_alen, x_obj, x_ret, x_retz, x_vret, x_max, x_min, x_copy, x_i2l, qg_none, qg_inl, qg_inr, qg_ite, xr1, xr0, xrE, xri, xl0, xl1, xl2, xl3, xl4, xl5, xl6, xl7, xl8, xl9, xl10, xs0, xs1, xs2, xs3, xs4, xs5, xs6, xs7, xs8, xs9, xs10, xi0, xi1, xi2, xi3, xi4, xi5, xi6, xi7, xi8, xi9, xi10, xc0, xc1, xc2, xc3, xc4, xc5, xc6, xc7, xv1, xv2, xv3, xv4, xv5, xv6, xv7, dT_le, dF_le, dT_lt, dF_lt, dT_eq, dF_eq, qa_up_hit, qa_up_no, dF_eq, hx, nb, nb2]
      · have k77 := i.1.1
        have ib := m_isReader (w := w) i.1 i.2.1 i.2.2.1 r
        rw [if_pos hb] at ib
        have ib2 := m_isBranch (w := w) i.1 i.2.1 i.2.2.1 b
        rw [if_neg hb2] at ib2
        unfold f_X12_move
        refine qa_fn_eq ?_ (by simp)
        simp (disch := omega) [ev_X12_move_0, ev_X12_move_1, ev_X12_move_2, ev_X12_move_3, ev_X12_move_4, B_X12_move_0, B_X12_move_1, B_X12_move_2, B_X12_move_3, B_X12_move_4, x_const, x_iadd, x_isub, x_imul, x_idiv, x_irem, x_ineg, x_dup, x_dup_x1, x_dup2, x_pop, x_goto, x_ifeq, x_ifne, x_iflt, x_ifge, x_ifgt, x_ifle, x_cmpeq, x_cmpne, x_cmplt, x_cmpge, x_cmpgt, x_cmple, x_null, x_nonnull, x_acmpeq, x_acmpne, x_get, x_put, x_putz, x_ald, x_ast, x_bast, x_zast, x_aast, x_alen, x_obj, x_ret, x_retz, x_vret, x_max, x_min, x_copy, x_i2l, qg_none, qg_inl, qg_inr, qg_ite, xr1, xr0, xrE, xri, xl0, xl1, xl2, xl3, xl4, xl5, xl6, xl7, xl8, xl9, xl10, xs0, xs1, xs2, xs3, xs4, xs5, xs6, xs7, xs8, xs9, xs10, xi0, xi1, xi2, xi3, xi4, xi5, xi6, xi7, xi8, xi9, xi10, xc0, xc1, xc2, xc3, xc4, xc5, xc6, xc7, xv1, xv2, xv3, xv4, xv5, xv6, xv7, dT_le, dF_le, dT_lt, dF_lt, dT_eq, dF_eq, qa_up_hit, qa_up_no, dF_eq, k77, ib, ib2]
  · refine p_thr (e := 1) (code := 1) hG hN (by decide) (by decide) (fun m kd n c s' i => ?_) (fun m kd w i => ?_)
    · obtain ⟨hK, hC, hx, hn, h00, -⟩ := i.q
      have nb := c_needReader (w := (n, c, s')) i.q.1 i.q.2.1 hG.1.1 i.q.2.2.1 i.q.2.2.2.1 r
      rw [if_neg hb] at nb
      unfold f_X11_move
      refine qa_fn_eq ?_ (by simp)
      simp (disch := omega) [ev_X11_move_0, ev_X11_move_1, ev_X11_move_2, B_X11_move_0, B_X11_move_1, B_X11_move_2, x_const, x_iadd, x_isub, x_imul, x_idiv, x_irem, x_ineg, x_dup, x_dup_x1, x_dup2, x_pop, x_goto, x_ifeq, x_ifne, x_iflt, x_ifge, x_ifgt, x_ifle, x_cmpeq, x_cmpne, x_cmplt, x_cmpge, x_cmpgt, x_cmple, x_null, x_nonnull, x_acmpeq, x_acmpne, x_get, x_put, x_putz, x_ald, x_ast, x_bast, x_zast, x_aast, x_alen, x_obj, x_ret, x_retz, x_vret, x_max, x_min, x_copy, x_i2l, qg_none, qg_inl, qg_inr, qg_ite, xr1, xr0, xrE, xri, xl0, xl1, xl2, xl3, xl4, xl5, xl6, xl7, xl8, xl9, xl10, xs0, xs1, xs2, xs3, xs4, xs5, xs6, xs7, xs8, xs9, xs10, xi0, xi1, xi2, xi3, xi4, xi5, xi6, xi7, xi8, xi9, xi10, xc0, xc1, xc2, xc3, xc4, xc5, xc6, xc7, xv1, xv2, xv3, xv4, xv5, xv6, xv7, dT_le, dF_le, dT_lt, dF_lt, dT_eq, dF_eq, qa_up_hit, qa_up_no, dF_eq, hx, nb]
    · have k77 := i.1.1
      have ib := m_isReader (w := w) i.1 i.2.1 i.2.2.1 r
      rw [if_neg hb] at ib
      unfold f_X12_move
      refine qa_fn_eq ?_ (by simp)
      simp (disch := omega) [ev_X12_move_0, ev_X12_move_1, ev_X12_move_2, ev_X12_move_3, ev_X12_move_4, B_X12_move_0, B_X12_move_1, B_X12_move_2, B_X12_move_3, B_X12_move_4, x_const, x_iadd, x_isub, x_imul, x_idiv, x_irem, x_ineg, x_dup, x_dup_x1, x_dup2, x_pop, x_goto, x_ifeq, x_ifne, x_iflt, x_ifge, x_ifgt, x_ifle, x_cmpeq, x_cmpne, x_cmplt, x_cmpge, x_cmpgt, x_cmple, x_null, x_nonnull, x_acmpeq, x_acmpne, x_get, x_put, x_putz, x_ald, x_ast, x_bast, x_zast, x_aast, x_alen, x_obj, x_ret, x_retz, x_vret, x_max, x_min, x_copy, x_i2l, qg_none, qg_inl, qg_inr, qg_ite, xr1, xr0, xrE, xri, xl0, xl1, xl2, xl3, xl4, xl5, xl6, xl7, xl8, xl9, xl10, xs0, xs1, xs2, xs3, xs4, xs5, xs6, xs7, xs8, xs9, xs10, xi0, xi1, xi2, xi3, xi4, xi5, xi6, xi7, xi8, xi9, xi10, xc0, xc1, xc2, xc3, xc4, xc5, xc6, xc7, xv1, xv2, xv3, xv4, xv5, xv6, xv7, dT_le, dF_le, dT_lt, dF_lt, dT_eq, dF_eq, qa_up_hit, qa_up_no, dF_eq, k77, ib]
theorem p_fork {N : Int} {g : zG} (hG : GI N g) (hN : N ≤ 511) (b : Int) : PPub N g f_X11_fork [(1, 0), (0, b)] f_X12_fork [(1, 77), (0, b)] [(1, 1)] := by
  by_cases hb : zBl g.1 b
  · obtain ⟨g', a, G', X', C, M⟩ := t_fork hG hN hb
    refine p_act G' X' C M (fun m kd w m' i act => ?_)
    have k77 := i.1.1
    have ib := m_isBranch (w := w) i.1 i.2.1 i.2.2.1 b
    rw [if_pos hb] at ib
    unfold f_X12_fork
    refine qa_fn_eq ?_ (by simp)
    simp (disch := omega) [ev_X12_fork_0, ev_X12_fork_1, ev_X12_fork_2, ev_X12_fork_3, ev_X12_fork_4, B_X12_fork_0, B_X12_fork_1, B_X12_fork_2, B_X12_fork_3, B_X12_fork_4, x_const, x_iadd, x_isub, x_imul, x_idiv, x_irem, x_ineg, x_dup, x_dup_x1, x_dup2, x_pop, x_goto, x_ifeq, x_ifne, x_iflt, x_ifge, x_ifgt, x_ifle, x_cmpeq, x_cmpne, x_cmplt, x_cmpge, x_cmpgt, x_cmple, x_null, x_nonnull, x_acmpeq, x_acmpne, x_get, x_put, x_putz, x_ald, x_ast, x_bast, x_zast, x_aast, x_alen, x_obj, x_ret, x_retz, x_vret, x_max, x_min, x_copy, x_i2l, qg_none, qg_inl, qg_inr, qg_ite, xr1, xr0, xrE, xri, xl0, xl1, xl2, xl3, xl4, xl5, xl6, xl7, xl8, xl9, xl10, xs0, xs1, xs2, xs3, xs4, xs5, xs6, xs7, xs8, xs9, xs10, xi0, xi1, xi2, xi3, xi4, xi5, xi6, xi7, xi8, xi9, xi10, xc0, xc1, xc2, xc3, xc4, xc5, xc6, xc7, xv1, xv2, xv3, xv4, xv5, xv6, xv7, dT_le, dF_le, dT_lt, dF_lt, dT_eq, dF_eq, qa_up_hit, qa_up_no, dF_eq, k77, ib, act]
  · refine p_thr (e := 1) (code := 1) hG hN (by decide) (by decide) (fun m kd n c s' i => ?_) (fun m kd w i => ?_)
    · obtain ⟨hK, hC, hx, hn, h00, -⟩ := i.q
      have nb := c_needBranch (w := (n, c, s')) i.q.1 i.q.2.1 hG.1.1 i.q.2.2.1 i.q.2.2.2.1 b
      rw [if_neg hb] at nb
      unfold f_X11_fork
      refine qa_fn_eq ?_ (by simp)
      simp (disch := omega) [ev_X11_fork_0, ev_X11_fork_1, B_X11_fork_0, B_X11_fork_1, x_const, x_iadd, x_isub, x_imul, x_idiv, x_irem, x_ineg, x_dup, x_dup_x1, x_dup2, x_pop, x_goto, x_ifeq, x_ifne, x_iflt, x_ifge, x_ifgt, x_ifle, x_cmpeq, x_cmpne, x_cmplt, x_cmpge, x_cmpgt, x_cmple, x_null, x_nonnull, x_acmpeq, x_acmpne, x_get, x_put, x_putz, x_ald, x_ast, x_bast, x_zast, x_aast, x_alen, x_obj, x_ret, x_retz, x_vret, x_max, x_min, x_copy, x_i2l, qg_none, qg_inl, qg_inr, qg_ite, xr1, xr0, xrE, xri, xl0, xl1, xl2, xl3, xl4, xl5, xl6, xl7, xl8, xl9, xl10, xs0, xs1, xs2, xs3, xs4, xs5, xs6, xs7, xs8, xs9, xs10, xi0, xi1, xi2, xi3, xi4, xi5, xi6, xi7, xi8, xi9, xi10, xc0, xc1, xc2, xc3, xc4, xc5, xc6, xc7, xv1, xv2, xv3, xv4, xv5, xv6, xv7, dT_le, dF_le, dT_lt, dF_lt, dT_eq, dF_eq, qa_up_hit, qa_up_no, dF_eq, hx, nb]
    · have k77 := i.1.1
      have ib := m_isBranch (w := w) i.1 i.2.1 i.2.2.1 b
      rw [if_neg hb] at ib
      unfold f_X12_fork
      refine qa_fn_eq ?_ (by simp)
      simp (disch := omega) [ev_X12_fork_0, ev_X12_fork_1, ev_X12_fork_2, ev_X12_fork_3, ev_X12_fork_4, B_X12_fork_0, B_X12_fork_1, B_X12_fork_2, B_X12_fork_3, B_X12_fork_4, x_const, x_iadd, x_isub, x_imul, x_idiv, x_irem, x_ineg, x_dup, x_dup_x1, x_dup2, x_pop, x_goto, x_ifeq, x_ifne, x_iflt, x_ifge, x_ifgt, x_ifle, x_cmpeq, x_cmpne, x_cmplt, x_cmpge, x_cmpgt, x_cmple, x_null, x_nonnull, x_acmpeq, x_acmpne, x_get, x_put, x_putz, x_ald, x_ast, x_bast, x_zast, x_aast, x_alen, x_obj, x_ret, x_retz, x_vret, x_max, x_min, x_copy, x_i2l, qg_none, qg_inl, qg_inr, qg_ite, xr1, xr0, xrE, xri, xl0, xl1, xl2, xl3, xl4, xl5, xl6, xl7, xl8, xl9, xl10, xs0, xs1, xs2, xs3, xs4, xs5, xs6, xs7, xs8, xs9, xs10, xi0, xi1, xi2, xi3, xi4, xi5, xi6, xi7, xi8, xi9, xi10, xc0, xc1, xc2, xc3, xc4, xc5, xc6, xc7, xv1, xv2, xv3, xv4, xv5, xv6, xv7, dT_le, dF_le, dT_lt, dF_lt, dT_eq, dF_eq, qa_up_hit, qa_up_no, dF_eq, k77, ib]
theorem p_merge {N : Int} {g : zG} (hG : GI N g) (hN : N ≤ 511) (b : Int) : PPub N g f_X11_merge [(1, 0), (0, b)] f_X12_merge [(1, 77), (0, b)] [(1, 1)] := by
  by_cases hb : zBl g.1 b
  · obtain ⟨g', a, G', X', C, M⟩ := t_merge hG hN hb
    refine p_act G' X' C M (fun m kd w m' i act => ?_)
    have k77 := i.1.1
    have ib := m_isBranch (w := w) i.1 i.2.1 i.2.2.1 b
    rw [if_pos hb] at ib
    unfold f_X12_merge
    refine qa_fn_eq ?_ (by simp)
    simp (disch := omega) [ev_X12_merge_0, ev_X12_merge_1, ev_X12_merge_2, ev_X12_merge_3, ev_X12_merge_4, B_X12_merge_0, B_X12_merge_1, B_X12_merge_2, B_X12_merge_3, B_X12_merge_4, x_const, x_iadd, x_isub, x_imul, x_idiv, x_irem, x_ineg, x_dup, x_dup_x1, x_dup2, x_pop, x_goto, x_ifeq, x_ifne, x_iflt, x_ifge, x_ifgt, x_ifle, x_cmpeq, x_cmpne, x_cmplt, x_cmpge, x_cmpgt, x_cmple, x_null, x_nonnull, x_acmpeq, x_acmpne, x_get, x_put, x_putz, x_ald, x_ast, x_bast, x_zast, x_aast, x_alen, x_obj, x_ret, x_retz, x_vret, x_max, x_min, x_copy, x_i2l, qg_none, qg_inl, qg_inr, qg_ite, xr1, xr0, xrE, xri, xl0, xl1, xl2, xl3, xl4, xl5, xl6, xl7, xl8, xl9, xl10, xs0, xs1, xs2, xs3, xs4, xs5, xs6, xs7, xs8, xs9, xs10, xi0, xi1, xi2, xi3, xi4, xi5, xi6, xi7, xi8, xi9, xi10, xc0, xc1, xc2, xc3, xc4, xc5, xc6, xc7, xv1, xv2, xv3, xv4, xv5, xv6, xv7, dT_le, dF_le, dT_lt, dF_lt, dT_eq, dF_eq, qa_up_hit, qa_up_no, dF_eq, k77, ib, act]
  · refine p_thr (e := 1) (code := 1) hG hN (by decide) (by decide) (fun m kd n c s' i => ?_) (fun m kd w i => ?_)
    · obtain ⟨hK, hC, hx, hn, h00, -⟩ := i.q
      have nb := c_needBranch (w := (n, c, s')) i.q.1 i.q.2.1 hG.1.1 i.q.2.2.1 i.q.2.2.2.1 b
      rw [if_neg hb] at nb
      unfold f_X11_merge
      refine qa_fn_eq ?_ (by simp)
      simp (disch := omega) [ev_X11_merge_0, ev_X11_merge_1, ev_X11_merge_2, B_X11_merge_0, B_X11_merge_1, B_X11_merge_2, x_const, x_iadd, x_isub, x_imul, x_idiv, x_irem, x_ineg, x_dup, x_dup_x1, x_dup2, x_pop, x_goto, x_ifeq, x_ifne, x_iflt, x_ifge, x_ifgt, x_ifle, x_cmpeq, x_cmpne, x_cmplt, x_cmpge, x_cmpgt, x_cmple, x_null, x_nonnull, x_acmpeq, x_acmpne, x_get, x_put, x_putz, x_ald, x_ast, x_bast, x_zast, x_aast, x_alen, x_obj, x_ret, x_retz, x_vret, x_max, x_min, x_copy, x_i2l, qg_none, qg_inl, qg_inr, qg_ite, xr1, xr0, xrE, xri, xl0, xl1, xl2, xl3, xl4, xl5, xl6, xl7, xl8, xl9, xl10, xs0, xs1, xs2, xs3, xs4, xs5, xs6, xs7, xs8, xs9, xs10, xi0, xi1, xi2, xi3, xi4, xi5, xi6, xi7, xi8, xi9, xi10, xc0, xc1, xc2, xc3, xc4, xc5, xc6, xc7, xv1, xv2, xv3, xv4, xv5, xv6, xv7, dT_le, dF_le, dT_lt, dF_lt, dT_eq, dF_eq, qa_up_hit, qa_up_no, dF_eq, hx, nb]
    · have k77 := i.1.1
      have ib := m_isBranch (w := w) i.1 i.2.1 i.2.2.1 b
      rw [if_neg hb] at ib
      unfold f_X12_merge
      refine qa_fn_eq ?_ (by simp)
      simp (disch := omega) [ev_X12_merge_0, ev_X12_merge_1, ev_X12_merge_2, ev_X12_merge_3, ev_X12_merge_4, B_X12_merge_0, B_X12_merge_1, B_X12_merge_2, B_X12_merge_3, B_X12_merge_4, x_const, x_iadd, x_isub, x_imul, x_idiv, x_irem, x_ineg, x_dup, x_dup_x1, x_dup2, x_pop, x_goto, x_ifeq, x_ifne, x_iflt, x_ifge, x_ifgt, x_ifle, x_cmpeq, x_cmpne, x_cmplt, x_cmpge, x_cmpgt, x_cmple, x_null, x_nonnull, x_acmpeq, x_acmpne, x_get, x_put, x_putz, x_ald, x_ast, x_bast, x_zast, x_aast, x_alen, x_obj, x_ret, x_retz, x_vret, x_max, x_min, x_copy, x_i2l, qg_none, qg_inl, qg_inr, qg_ite, xr1, xr0, xrE, xri, xl0, xl1, xl2, xl3, xl4, xl5, xl6, xl7, xl8, xl9, xl10, xs0, xs1, xs2, xs3, xs4, xs5, xs6, xs7, xs8, xs9, xs10, xi0, xi1, xi2, xi3, xi4, xi5, xi6, xi7, xi8, xi9, xi10, xc0, xc1, xc2, xc3, xc4, xc5, xc6, xc7, xv1, xv2, xv3, xv4, xv5, xv6, xv7, dT_le, dF_le, dT_lt, dF_lt, dT_eq, dF_eq, qa_up_hit, qa_up_no, dF_eq, k77, ib]
theorem p_drop {N : Int} {g : zG} (hG : GI N g) (hN : N ≤ 511) (b : Int) : PPub N g f_X11_drop [(1, 0), (0, b)] f_X12_drop [(1, 77), (0, b)] [(1, 1)] := by
  by_cases hb : zBl g.1 b
  · obtain ⟨g', a, G', X', C, M⟩ := t_drop hG hN hb
    refine p_act G' X' C M (fun m kd w m' i act => ?_)
    have k77 := i.1.1
    have ib := m_isBranch (w := w) i.1 i.2.1 i.2.2.1 b
    rw [if_pos hb] at ib
    unfold f_X12_drop
    refine qa_fn_eq ?_ (by simp)
    simp (disch := omega) [ev_X12_drop_0, ev_X12_drop_1, ev_X12_drop_2, ev_X12_drop_3, ev_X12_drop_4, B_X12_drop_0, B_X12_drop_1, B_X12_drop_2, B_X12_drop_3, B_X12_drop_4, x_const, x_iadd, x_isub, x_imul, x_idiv, x_irem, x_ineg, x_dup, x_dup_x1, x_dup2, x_pop, x_goto, x_ifeq, x_ifne, x_iflt, x_ifge, x_ifgt, x_ifle, x_cmpeq, x_cmpne, x_cmplt, x_cmpge, x_cmpgt, x_cmple, x_null, x_nonnull, x_acmpeq, x_acmpne, x_get, x_put, x_putz, x_ald, x_ast, x_bast, x_zast, x_aast, x_alen, x_obj, x_ret, x_retz, x_vret, x_max, x_min, x_copy, x_i2l, qg_none, qg_inl, qg_inr, qg_ite, xr1, xr0, xrE, xri, xl0, xl1, xl2, xl3, xl4, xl5, xl6, xl7, xl8, xl9, xl10, xs0, xs1, xs2, xs3, xs4, xs5, xs6, xs7, xs8, xs9, xs10, xi0, xi1, xi2, xi3, xi4, xi5, xi6, xi7, xi8, xi9, xi10, xc0, xc1, xc2, xc3, xc4, xc5, xc6, xc7, xv1, xv2, xv3, xv4, xv5, xv6, xv7, dT_le, dF_le, dT_lt, dF_lt, dT_eq, dF_eq, qa_up_hit, qa_up_no, dF_eq, k77, ib, act]
  · refine p_thr (e := 1) (code := 1) hG hN (by decide) (by decide) (fun m kd n c s' i => ?_) (fun m kd w i => ?_)
    · obtain ⟨hK, hC, hx, hn, h00, -⟩ := i.q
      have nb := c_needBranch (w := (n, c, s')) i.q.1 i.q.2.1 hG.1.1 i.q.2.2.1 i.q.2.2.2.1 b
      rw [if_neg hb] at nb
      unfold f_X11_drop
      refine qa_fn_eq ?_ (by simp)
      simp (disch := omega) [ev_X11_drop_0, ev_X11_drop_1, ev_X11_drop_2, B_X11_drop_0, B_X11_drop_1, B_X11_drop_2, x_const, x_iadd, x_isub, x_imul, x_idiv, x_irem, x_ineg, x_dup, x_dup_x1, x_dup2, x_pop, x_goto, x_ifeq, x_ifne, x_iflt, x_ifge, x_ifgt, x_ifle, x_cmpeq, x_cmpne, x_cmplt, x_cmpge, x_cmpgt, x_cmple, x_null, x_nonnull, x_acmpeq, x_acmpne, x_get, x_put, x_putz, x_ald, x_ast, x_bast, x_zast, x_aast, x_alen, x_obj, x_ret, x_retz, x_vret, x_max, x_min, x_copy, x_i2l, qg_none, qg_inl, qg_inr, qg_ite, xr1, xr0, xrE, xri, xl0, xl1, xl2, xl3, xl4, xl5, xl6, xl7, xl8, xl9, xl10, xs0, xs1, xs2, xs3, xs4, xs5, xs6, xs7, xs8, xs9, xs10, xi0, xi1, xi2, xi3, xi4, xi5, xi6, xi7, xi8, xi9, xi10, xc0, xc1, xc2, xc3, xc4, xc5, xc6, xc7, xv1, xv2, xv3, xv4, xv5, xv6, xv7, dT_le, dF_le, dT_lt, dF_lt, dT_eq, dF_eq, qa_up_hit, qa_up_no, dF_eq, hx, nb]
    · have k77 := i.1.1
      have ib := m_isBranch (w := w) i.1 i.2.1 i.2.2.1 b
      rw [if_neg hb] at ib
      unfold f_X12_drop
      refine qa_fn_eq ?_ (by simp)
      simp (disch := omega) [ev_X12_drop_0, ev_X12_drop_1, ev_X12_drop_2, ev_X12_drop_3, ev_X12_drop_4, B_X12_drop_0, B_X12_drop_1, B_X12_drop_2, B_X12_drop_3, B_X12_drop_4, x_const, x_iadd, x_isub, x_imul, x_idiv, x_irem, x_ineg, x_dup, x_dup_x1, x_dup2, x_pop, x_goto, x_ifeq, x_ifne, x_iflt, x_ifge, x_ifgt, x_ifle, x_cmpeq, x_cmpne, x_cmplt, x_cmpge, x_cmpgt, x_cmple, x_null, x_nonnull, x_acmpeq, x_acmpne, x_get, x_put, x_putz, x_ald, x_ast, x_bast, x_zast, x_aast, x_alen, x_obj, x_ret, x_retz, x_vret, x_max, x_min, x_copy, x_i2l, qg_none, qg_inl, qg_inr, qg_ite, xr1, xr0, xrE, xri, xl0, xl1, xl2, xl3, xl4, xl5, xl6, xl7, xl8, xl9, xl10, xs0, xs1, xs2, xs3, xs4, xs5, xs6, xs7, xs8, xs9, xs10, xi0, xi1, xi2, xi3, xi4, xi5, xi6, xi7, xi8, xi9, xi10, xc0, xc1, xc2, xc3, xc4, xc5, xc6, xc7, xv1, xv2, xv3, xv4, xv5, xv6, xv7, dT_le, dF_le, dT_lt, dF_lt, dT_eq, dF_eq, qa_up_hit, qa_up_no, dF_eq, k77, ib]
theorem p_pass {N : Int} {g : zG} (hG : GI N g) (hN : N ≤ 511) (t : Int) : PPub N g f_X11_pass [(1, 0), (0, t)] f_X12_pass [(1, 77), (0, t)] [(2, 1)] := by
  by_cases ht : 1 ≤ t ∧ t ≤ 99
  · obtain ⟨g', a, G', X', C, M⟩ := t_pass hG hN ht
    refine p_act G' X' C M (fun m kd w m' i act => ?_)
    have k77 := i.1.1
    have rg := m_in (m := m) (kd := kd) (w := w) t 1 99
    rw [if_pos ht] at rg
    unfold f_X12_pass
    refine qa_fn_eq ?_ (by simp)
    simp (disch := omega) [ev_X12_pass_0, ev_X12_pass_1, ev_X12_pass_2, ev_X12_pass_3, ev_X12_pass_4, B_X12_pass_0, B_X12_pass_1, B_X12_pass_2, B_X12_pass_3, B_X12_pass_4, x_const, x_iadd, x_isub, x_imul, x_idiv, x_irem, x_ineg, x_dup, x_dup_x1, x_dup2, x_pop, x_goto, x_ifeq, x_ifne, x_iflt, x_ifge, x_ifgt, x_ifle, x_cmpeq, x_cmpne, x_cmplt, x_cmpge, x_cmpgt, x_cmple, x_null, x_nonnull, x_acmpeq, x_acmpne, x_get, x_put, x_putz, x_ald, x_ast, x_bast, x_zast, x_aast, x_alen, x_obj, x_ret, x_retz, x_vret, x_max, x_min, x_copy, x_i2l, qg_none, qg_inl, qg_inr, qg_ite, xr1, xr0, xrE, xri, xl0, xl1, xl2, xl3, xl4, xl5, xl6, xl7, xl8, xl9, xl10, xs0, xs1, xs2, xs3, xs4, xs5, xs6, xs7, xs8, xs9, xs10, xi0, xi1, xi2, xi3, xi4, xi5, xi6, xi7, xi8, xi9, xi10, xc0, xc1, xc2, xc3, xc4, xc5, xc6, xc7, xv1, xv2, xv3, xv4, xv5, xv6, xv7, dT_le, dF_le, dT_lt, dF_lt, dT_eq, dF_eq, qa_up_hit, qa_up_no, dF_eq, k77, rg, act]
  · refine p_thr (e := 2) (code := 1) hG hN (by decide) (by decide) (fun m kd n c s' i => ?_) (fun m kd w i => ?_)
    · obtain ⟨hK, hC, hx, hn, h00, -⟩ := i.q
      have rg := c_needRange (m := m) (kd := kd) (w := (n, c, s')) t 1 99
      rw [if_neg ht] at rg
      unfold f_X11_pass
      refine qa_fn_eq ?_ (by simp)
      simp (disch := omega) [ev_X11_pass_0, ev_X11_pass_2, B_X11_pass_0, B_X11_pass_1, B_X11_pass_2, x_const, x_iadd, x_isub, x_imul, x_idiv, x_irem, x_ineg, x_dup, x_dup_x1, x_dup2, x_pop, x_goto, x_ifeq, x_ifne, x_iflt, x_ifge, x_ifgt, x_ifle, x_cmpeq, x_cmpne, x_cmplt, x_cmpge, x_cmpgt, x_cmple, x_null, x_nonnull, x_acmpeq, x_acmpne, x_get, x_put, x_putz, x_ald, x_ast, x_bast, x_zast, x_aast, x_alen, x_obj, x_ret, x_retz, x_vret, x_max, x_min, x_copy, x_i2l, qg_none, qg_inl, qg_inr, qg_ite, xr1, xr0, xrE, xri, xl0, xl1, xl2, xl3, xl4, xl5, xl6, xl7, xl8, xl9, xl10, xs0, xs1, xs2, xs3, xs4, xs5, xs6, xs7, xs8, xs9, xs10, xi0, xi1, xi2, xi3, xi4, xi5, xi6, xi7, xi8, xi9, xi10, xc0, xc1, xc2, xc3, xc4, xc5, xc6, xc7, xv1, xv2, xv3, xv4, xv5, xv6, xv7, dT_le, dF_le, dT_lt, dF_lt, dT_eq, dF_eq, qa_up_hit, qa_up_no, dF_eq, hx, rg]
    · have k77 := i.1.1
      have rg := m_in (m := m) (kd := kd) (w := w) t 1 99
      rw [if_neg ht] at rg
      unfold f_X12_pass
      refine qa_fn_eq ?_ (by simp)
      simp (disch := omega) [ev_X12_pass_0, ev_X12_pass_1, ev_X12_pass_2, ev_X12_pass_3, ev_X12_pass_4, B_X12_pass_0, B_X12_pass_1, B_X12_pass_2, B_X12_pass_3, B_X12_pass_4, x_const, x_iadd, x_isub, x_imul, x_idiv, x_irem, x_ineg, x_dup, x_dup_x1, x_dup2, x_pop, x_goto, x_ifeq, x_ifne, x_iflt, x_ifge, x_ifgt, x_ifle, x_cmpeq, x_cmpne, x_cmplt, x_cmpge, x_cmpgt, x_cmple, x_null, x_nonnull, x_acmpeq, x_acmpne, x_get, x_put, x_putz, x_ald, x_ast, x_bast, x_zast, x_aast, x_alen, x_obj, x_ret, x_retz, x_vret, x_max, x_min, x_copy, x_i2l, qg_none, qg_inl, qg_inr, qg_ite, xr1, xr0, xrE, xri, xl0, xl1, xl2, xl3, xl4, xl5, xl6, xl7, xl8, xl9, xl10, xs0, xs1, xs2, xs3, xs4, xs5, xs6, xs7, xs8, xs9, xs10, xi0, xi1, xi2, xi3, xi4, xi5, xi6, xi7, xi8, xi9, xi10, xc0, xc1, xc2, xc3, xc4, xc5, xc6, xc7, xv1, xv2, xv3, xv4, xv5, xv6, xv7, dT_le, dF_le, dT_lt, dF_lt, dT_eq, dF_eq, qa_up_hit, qa_up_no, dF_eq, k77, rg]
